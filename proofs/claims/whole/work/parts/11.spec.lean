-- what the methods answer and do, in numbers; each mirrors its code
def bI (b : Bool) : Int32 := if b = true then 1 else 0
theorem bI_nz {b : Bool} (h : ¬ bI b = 0) : b = true := by cases b with | true => rfl | false => exact absurd rfl h
theorem bI_z {b : Bool} (h : bI b = 0) : b = false := by cases b with | false => rfl | true => exact absurd h (by decide)
theorem bI_1 {b : Bool} (h : b = true) : (1 : Int32) = bI b := by subst h; rfl
theorem bI_0 {b : Bool} (h : b = false) : (0 : Int32) = bI b := by subst h; rfl
theorem nar_bI (b : Bool) : narrow .boolean (.int (bI b)) = .int (bI b) := by cases b <;> decide
def bitsI (q : Nat → Bool) : Nat → Int32
  | 0 => 0
  | k + 1 => if q k = true then bitsI q k ||| ((1 : Int32) <<< (nI k &&& 31)) else bitsI q k
theorem bitsI_t {q : Nat → Bool} {k : Nat} (h : q k = true) : bitsI q (k + 1) = bitsI q k ||| ((1 : Int32) <<< (nI k &&& 31)) := if_pos h
theorem bitsI_f {q : Nat → Bool} {k : Nat} (h : q k = false) : bitsI q (k + 1) = bitsI q k := if_neg (by rw [h]; decide)
def cntI (q : Nat → Bool) : Nat → Int32
  | 0 => 0
  | k + 1 => if q k = true then cntI q k + 1 else cntI q k
theorem cntI_t {q : Nat → Bool} {k : Nat} (h : q k = true) : cntI q (k + 1) = cntI q k + 1 := if_pos h
theorem cntI_f {q : Nat → Bool} {k : Nat} (h : q k = false) : cntI q (k + 1) = cntI q k := if_neg (by rw [h]; decide)
def fillI (f : Nat → Int32) (v : Int32) : Nat → (Nat → Int32)
  | 0 => f
  | k + 1 => upd (fillI f v k) k v
-- X0: BranchTimes
def xG (g : Int32) : Bool := !decide (g < 0) && !decide (8 ≤ g)
def xSrc (q : Int32) : Bool := !decide (q < 0) && !decide (16 ≤ q)
def xBr (q : Int32) : Bool := decide (q = -1) || xSrc q
def xPl (g q : Int32) : Int32 := g * 17 + (if q = -1 then 16 else q)
def xCp (g q : Int32) : Int32 := g * 16 + q
def xBit (b q : Int32) : Bool := !decide ((b >>> (q &&& 31)) &&& 1 = 0)
def xSt (tm t : Int32) : Bool := !decide (t ≤ tm)
def xTz (tm t : Int32) : Int32 := if xSt tm t = true then t else 0
def xNbq (tm : Int32) (fN : Nat → Int32) : Nat → Bool := fun n => xSt tm (fN n)
def xNb (tm : Int32) (fN : Nat → Int32) : Int32 := bitsI (xNbq tm fN) 10
def xFirst (me nb : Int32) : Bool := decide (nb >>> ((me + 1) &&& 31) = 0)
def xAsk (me nb : Int32) : Bool := decide (nb &&& (((1 : Int32) <<< (me &&& 31)) - 1) = 0)
def bc1 (x : Int32) : Int32 := x - ((x.toUInt32 >>> ((1 : Int32).toUInt32 &&& Int32.toUInt32 31)).toInt32 &&& 1431655765)
def bc2 (x : Int32) : Int32 := (x &&& 858993459) + ((x.toUInt32 >>> ((2 : Int32).toUInt32 &&& Int32.toUInt32 31)).toInt32 &&& 858993459)
def bc3 (x : Int32) : Int32 := (x + (x.toUInt32 >>> ((4 : Int32).toUInt32 &&& Int32.toUInt32 31)).toInt32) &&& 252645135
def bc4 (x : Int32) : Int32 := x + (x.toUInt32 >>> ((8 : Int32).toUInt32 &&& Int32.toUInt32 31)).toInt32
def bc5 (x : Int32) : Int32 := x + (x.toUInt32 >>> ((16 : Int32).toUInt32 &&& Int32.toUInt32 31)).toInt32
def bcI (x : Int32) : Int32 := bc5 (bc4 (bc3 (bc2 (bc1 x)))) &&& 63
def xCrowd (nb : Int32) : Bool := !decide (bcI nb < 2)
def xEff (tm nb : Int32) : Int32 := if xCrowd nb = true then tm + 3 else tm
def xStar (tm : Int32) (fJ : Nat → Int32) (g : Int32) : Bool := xSt tm (fJ (xPl g (-1)).toNatClampNeg)
def xCut (tm : Int32) (fT fC : Nat → Int32) (g q : Int32) : Bool := xBit (fT g.toNatClampNeg) q && !decide (tm < fC (xCp g q).toNatClampNeg)
def xGoq (tm : Int32) (fJ fT fC : Nat → Int32) (g : Int32) : Nat → Bool := fun k => (xStar tm fJ g && !xCut tm fT fC g (nI k)) || xSt tm (fJ (xPl g (nI k)).toNatClampNeg)
def xGo (me tm : Int32) (fN fM fJ fT fC : Nat → Int32) (g : Int32) : Int32 := if (xSt tm (fM g.toNatClampNeg) && xFirst me (xNb tm fN)) = true then 65535 else bitsI (xGoq tm fJ fT fC g) 16
def xGrq (me tm : Int32) (fN fM fJ fT fC : Nat → Int32) : Nat → Bool := fun k => !decide (xGo me tm fN fM fJ fT fC (nI k) = 0)
def xGr (me tm : Int32) (fN fM fJ fT fC : Nat → Int32) : Int32 := bitsI (xGrq me tm fN fM fJ fT fC) 8
def xCnt (tm : Int32) (fJ : Nat → Int32) : Int32 := cntI (xNbq tm fJ) 136
def xTickB (tm n : Int32) : Bool := decide (n < 1) || decide (100 < n) || !decide (tm + n ≤ 100000)
def xTickR (tm n : Int32) : Int32 := if xTickB tm n = true then -1 else tm + n
def xTickT (tm n : Int32) : Int32 := if xTickB tm n = true then tm else tm + n
def xHeB (me n : Int32) : Bool := decide (n < 0) || decide (10 ≤ n) || decide (n = me)
def xHeN (me tm : Int32) (fN : Nat → Int32) (n : Int32) : Nat → Int32 := if xHeB me n = true then fN else upd fN n.toNatClampNeg (tm + 65)
def xReM (tm : Int32) (fM : Nat → Int32) (g : Int32) : Nat → Int32 := if xG g = true then upd fM g.toNatClampNeg (tm + 60) else fM
def xLeB (me tm : Int32) (fN fM : Nat → Int32) (g : Int32) : Bool := xG g && xSt tm (fM g.toNatClampNeg) && xAsk me (xNb tm fN)
def xMin (x y : Int32) : Int32 := if y < x then y else x
def xMax (x y : Int32) : Int32 := if x < y then y else x
def xLeM (me tm : Int32) (fN fM : Nat → Int32) (g : Int32) : Nat → Int32 := if xLeB me tm fN fM g = true then upd fM g.toNatClampNeg (xMin (fM g.toNatClampNeg) (tm + 4)) else fM
def xCutsI (fC : Nat → Int32) (g fr fo : Int32) : Nat → (Nat → Int32)
  | 0 => fC
  | k + 1 => if xBit fr (nI k) = true then upd (xCutsI fC g fr fo k) (xCp g (nI k)).toNatClampNeg fo else xCutsI fC g fr fo k
theorem xCutsI_t {fC : Nat → Int32} {g fr fo : Int32} {k : Nat} (h : xBit fr (nI k) = true) : xCutsI fC g fr fo (k + 1) = upd (xCutsI fC g fr fo k) (xCp g (nI k)).toNatClampNeg fo := if_pos h
theorem xCutsI_f {fC : Nat → Int32} {g fr fo : Int32} {k : Nat} (h : xBit fr (nI k) = false) : xCutsI fC g fr fo (k + 1) = xCutsI fC g fr fo k := if_neg (by rw [h]; decide)
def xBefore (tm : Int32) (fJ fT : Nat → Int32) (g : Int32) : Int32 := if xStar tm fJ g = true then fT g.toNatClampNeg else 0
def xTellC (tm : Int32) (fN fJ fT fC : Nat → Int32) (g bits : Int32) : Nat → Int32 := xCutsI fC g (bits &&& (xBefore tm fJ fT g ^^^ (-1))) (xEff tm (xNb tm fN)) 16
def xJoB (g q : Int32) : Bool := xG g && xBr q
def xJoS (g q : Int32) : Bool := xJoB g q && decide (q = -1)
def xJoJ (tm : Int32) (fJ : Nat → Int32) (g q : Int32) : Nat → Int32 := if xJoB g q = true then upd fJ (xPl g q).toNatClampNeg (tm + 70) else fJ
def xJoT (fT : Nat → Int32) (g q bits : Int32) : Nat → Int32 := if xJoS g q = true then upd fT g.toNatClampNeg (bits &&& 65535) else fT
def xJoC (tm : Int32) (fN fJ fT fC : Nat → Int32) (g q bits : Int32) : Nat → Int32 := if xJoS g q = true then xTellC tm fN fJ fT fC g (bits &&& 65535) else fC
def xPrB (tm : Int32) (fJ : Nat → Int32) (g q : Int32) : Bool := xJoB g q && xSt tm (fJ (xPl g q).toNatClampNeg)
def xPrJ (tm : Int32) (fN fJ : Nat → Int32) (g q : Int32) : Nat → Int32 := if xPrB tm fJ g q = true then upd fJ (xPl g q).toNatClampNeg (xMin (fJ (xPl g q).toNatClampNeg) (xEff tm (xNb tm fN))) else fJ
def xJd (tm : Int32) (fJ : Nat → Int32) (g q : Int32) : Int32 := if xJoB g q = true then xTz tm (fJ (xPl g q).toNatClampNeg) else -1
def xCu (tm : Int32) (fJ fT fC : Nat → Int32) (g q : Int32) : Int32 := if (xG g && xSrc q) = true then (if (xStar tm fJ g && xBit (fT g.toNatClampNeg) q) = true then fC (xCp g q).toNatClampNeg else 0) else -1
def xMe (tm : Int32) (fM : Nat → Int32) (g : Int32) : Int32 := if xG g = true then xTz tm (fM g.toNatClampNeg) else -1
def xGoes (me tm : Int32) (fN fM fJ fT fC : Nat → Int32) (g : Int32) : Int32 := if xG g = true then xGo me tm fN fM fJ fT fC g else -1
def xLook (me tm : Int32) (fN fM fJ fT fC : Nat → Int32) (w : Int32) : Int32 := if w = 0 then tm else if w = 1 then xNb tm fN else if w = 2 then bI (xFirst me (xNb tm fN)) else if w = 3 then bI (xAsk me (xNb tm fN)) else if w = 4 then bI (xCrowd (xNb tm fN)) else if w = 5 then me else if w = 6 then xGr me tm fN fM fJ fT fC else if w = 7 then xCnt tm fJ else -1
def xMe0 (me : Int32) : Int32 := xMax 0 (xMin 9 me)
-- X1: the reference
def mBr (g q : Int32) : Bool := xG g && !decide (q < -1) && !decide (16 ≤ q)
def mNbq (tm : Int32) (hA : Nat → Int32) : Nat → Bool := fun n => !decide (hA n = -1) && !decide (hA n + 65 ≤ tm)
def mNb (tm : Int32) (hA : Nat → Int32) : Int32 := bitsI (mNbq tm hA) 10
def mFirst (me nb : Int32) : Bool := decide (nb >>> (me &&& 31) = 0)
def mAsk (me nb : Int32) : Bool := decide (nb - nb / ((1 : Int32) <<< (me &&& 31)) * ((1 : Int32) <<< (me &&& 31)) = 0)
def mCntN : Nat → Nat → Nat
  | 0, _ => 0
  | k + 1, b => b % 2 + mCntN k (b / 2)
def mCrowd (nb : Int32) : Bool := !decide (nI (mCntN 10 nb.toNatClampNeg) ≤ 1)
def mT (tm at_ span pr : Int32) : Int32 := if at_ = -1 then 0 else (if (if at_ + span ≤ pr then at_ + span else pr) ≤ tm then 0 else (if at_ + span ≤ pr then at_ + span else pr))
def mMt (tm : Int32) (rA lT : Nat → Int32) (g : Int32) : Int32 := mT tm (rA g.toNatClampNeg) 60 (lT g.toNatClampNeg)
def mPl (g q : Int32) : Int32 := 17 * g + q + 1
def mCp (g q : Int32) : Int32 := 16 * g + q
def mTi (tm : Int32) (jA pT : Nat → Int32) (g q : Int32) : Int32 := mT tm (jA (mPl g q).toNatClampNeg) 70 (pT (mPl g q).toNatClampNeg)
def mHeB (me n : Int32) : Bool := decide (n < 0) || decide (9 < n) || decide (n = me)
def mHeA (me tm : Int32) (hA : Nat → Int32) (n : Int32) : Nat → Int32 := if mHeB me n = true then hA else upd hA n.toNatClampNeg tm
def mReA (tm : Int32) (rA : Nat → Int32) (g : Int32) : Nat → Int32 := if xG g = true then upd rA g.toNatClampNeg tm else rA
def mReT (lT : Nat → Int32) (g : Int32) : Nat → Int32 := if xG g = true then upd lT g.toNatClampNeg 1000000 else lT
def mLeB (me tm : Int32) (hA rA lT : Nat → Int32) (g : Int32) : Bool := xG g && !decide (mMt tm rA lT g = 0) && mAsk me (mNb tm hA)
def mMin (y x : Int32) : Int32 := if x ≤ y then x else y
def mLeT (me tm : Int32) (hA rA lT : Nat → Int32) (g : Int32) : Nat → Int32 := if mLeB me tm hA rA lT g = true then upd lT g.toNatClampNeg (mMin (tm + 4) (lT g.toNatClampNeg)) else lT
def mMe (tm : Int32) (rA lT : Nat → Int32) (g : Int32) : Int32 := if xG g = true then mMt tm rA lT g else -1
def mEff (tm nb : Int32) : Int32 := if mCrowd nb = true then tm + 3 else tm
def mWas (tm : Int32) (jA pT : Nat → Int32) (g q : Int32) : Bool := !decide (mTi tm jA pT g q ≤ 0)
def mTold (bits : Int32) (k : Nat) : Bool := decide ((bits >>> (nI k &&& 31)) &&& 1 = 1)
def mCutsI (was : Bool) (cF : Nat → Int32) (g bits fo : Int32) : Nat → (Nat → Int32)
  | 0 => cF
  | k + 1 => if mTold bits k = true then (if (!was || decide (mCutsI was cF g bits fo k (mCp g (nI k)).toNatClampNeg = -1)) = true then upd (mCutsI was cF g bits fo k) (mCp g (nI k)).toNatClampNeg fo else mCutsI was cF g bits fo k) else upd (mCutsI was cF g bits fo k) (mCp g (nI k)).toNatClampNeg (-1)
def mJoS (g q : Int32) : Bool := mBr g q && decide (q = -1)
def mJoA (tm : Int32) (jA : Nat → Int32) (g q : Int32) : Nat → Int32 := if mBr g q = true then upd jA (mPl g q).toNatClampNeg tm else jA
def mJoP (pT : Nat → Int32) (g q : Int32) : Nat → Int32 := if mBr g q = true then upd pT (mPl g q).toNatClampNeg 1000000 else pT
def mJoC (tm : Int32) (hA jA pT cF : Nat → Int32) (g q bits : Int32) : Nat → Int32 := if mJoS g q = true then mCutsI (mWas tm jA pT g q) cF g bits (mEff tm (mNb tm hA)) 16 else cF
def mPrB (tm : Int32) (jA pT : Nat → Int32) (g q : Int32) : Bool := mBr g q && !decide (mTi tm jA pT g q = 0)
def mPrP (tm : Int32) (hA jA pT : Nat → Int32) (g q : Int32) : Nat → Int32 := if mPrB tm jA pT g q = true then upd pT (mPl g q).toNatClampNeg (mMin (mEff tm (mNb tm hA)) (pT (mPl g q).toNatClampNeg)) else pT
def mJd (tm : Int32) (jA pT : Nat → Int32) (g q : Int32) : Int32 := if mBr g q = true then mTi tm jA pT g q else -1
def mCu (tm : Int32) (jA pT cF : Nat → Int32) (g q : Int32) : Int32 := if (mBr g q && !decide (q = -1)) = true then (if (decide (mTi tm jA pT g (-1) = 0) || decide (cF (mCp g q).toNatClampNeg = -1)) = true then 0 else cF (mCp g q).toNatClampNeg) else -1
def mCut (tm : Int32) (cF : Nat → Int32) (g q : Int32) : Bool := !decide (cF (mCp g q).toNatClampNeg = -1) && !decide (tm < cF (mCp g q).toNatClampNeg)
def mOwn (me tm : Int32) (hA rA lT : Nat → Int32) (g : Int32) : Bool := !decide (mMt tm rA lT g ≤ 0) && mFirst me (mNb tm hA)
def mGoq (own : Bool) (tm : Int32) (jA pT cF : Nat → Int32) (g : Int32) : Nat → Bool := fun k => own || decide (0 < mTi tm jA pT g (nI k)) || (!decide (mTi tm jA pT g (-1) ≤ 0) && !mCut tm cF g (nI k))
def mGoes (me tm : Int32) (hA rA lT jA pT cF : Nat → Int32) (g : Int32) : Int32 := if xG g = true then bitsI (mGoq (mOwn me tm hA rA lT g) tm jA pT cF g) 16 else -1
def mGrq (me tm : Int32) (hA rA lT jA pT cF : Nat → Int32) : Nat → Bool := fun k => !decide (mGoes me tm hA rA lT jA pT cF (nI k) = 0)
def mGr (me tm : Int32) (hA rA lT jA pT cF : Nat → Int32) : Int32 := bitsI (mGrq me tm hA rA lT jA pT cF) 8
def mDv (k : Nat) : Int32 := nI k / 17
def mMd (k : Nat) : Int32 := (nI k - nI k / 17 * 17) - 1
def mCnq (tm : Int32) (jA pT : Nat → Int32) : Nat → Bool := fun k => !decide (mTi tm jA pT (mDv k) (mMd k) ≤ 0)
def mCnt (tm : Int32) (jA pT : Nat → Int32) : Int32 := cntI (mCnq tm jA pT) 136
def mLook (me tm : Int32) (hA rA lT jA pT cF : Nat → Int32) (w : Int32) : Int32 := if w = 0 then tm else if w = 1 then mNb tm hA else if w = 2 then bI (mFirst me (mNb tm hA)) else if w = 3 then bI (mAsk me (mNb tm hA)) else if w = 4 then bI (mCrowd (mNb tm hA)) else if w = 5 then me else if w = 6 then mGr me tm hA rA lT jA pT cF else if w = 7 then mCnt tm jA pT else -1
def mMe0 (me : Int32) : Int32 := if 0 ≤ me then (if me ≤ 9 then me else 9) else 0
-- places in range
theorem toI_lt {x y : Int32} : x < y ↔ x.toInt < y.toInt := Int32.lt_iff_toInt_lt
theorem toI_le {x y : Int32} : x ≤ y ↔ x.toInt ≤ y.toInt := Int32.le_iff_toInt_le
theorem xG_of {g : Int32} (h : xG g = true) : ∃ j : Nat, j < 8 ∧ g = nI j := by
  unfold xG at h
  simp only [Bool.and_eq_true, Bool.not_eq_true', decide_eq_false_iff_not] at h
  rcases pk_ix g (n := 8) (by decide) with a | a | a
  · exact absurd a h.1
  · exact absurd a h.2
  · exact a
theorem xSrc_of {g : Int32} (h : xSrc g = true) : ∃ j : Nat, j < 16 ∧ g = nI j := by
  unfold xSrc at h
  simp only [Bool.and_eq_true, Bool.not_eq_true', decide_eq_false_iff_not] at h
  rcases pk_ix g (n := 16) (by decide) with a | a | a
  · exact absurd a h.1
  · exact absurd a h.2
  · exact a
theorem xG_nI {j : Nat} (h : j < 8) : xG (nI j) = true := co_dec (N := 8) (P := fun j => xG (nI j) = true) (by decide +kernel) h
theorem xSrc_nI {j : Nat} (h : j < 16) : xSrc (nI j) = true := co_dec (N := 16) (P := fun j => xSrc (nI j) = true) (by decide +kernel) h
theorem G_in {g : Int32} (h : xG g = true) : vp_in g 8 := by
  obtain ⟨j, hj, rfl⟩ := xG_of h
  exact vp_in_nI hj (by decide)
theorem Src_ne {q : Int32} (h : xSrc q = true) : ¬ q = -1 := by
  obtain ⟨j, hj, rfl⟩ := xSrc_of h
  exact co_dec (N := 16) (P := fun j => ¬ nI j = -1) (by decide +kernel) hj
theorem Br_src {q : Int32} (h : xSrc q = true) : xBr q = true := by unfold xBr; rw [h]; simp
theorem Pl_nI {j i : Nat} (hi : i < 16) : xPl (nI j) (nI i) = nI (j * 17 + i) := by
  unfold xPl
  rw [if_neg (Src_ne (xSrc_nI hi))]
  exact (congrArg (fun z => z + nI i) (pk_mul j 17)).trans (nI_add _ _)
theorem Pl_st {j : Nat} : xPl (nI j) (-1) = nI (j * 17 + 16) := by
  unfold xPl
  rw [if_pos rfl]
  exact (congrArg (fun z => z + (16 : Int32)) (pk_mul j 17)).trans (nI_add _ 16)
theorem Cp_nI {j i : Nat} : xCp (nI j) (nI i) = nI (j * 16 + i) := (congrArg (fun z => z + nI i) (pk_mul j 16)).trans (nI_add _ _)
theorem Pl_in {g q : Int32} (h : xG g = true) (hq : xBr q = true) : vp_in (xPl g q) 136 := by
  obtain ⟨j, hj, rfl⟩ := xG_of h
  unfold xBr at hq
  simp only [Bool.or_eq_true, decide_eq_true_eq] at hq
  rcases hq with rfl | hq
  · rw [Pl_st]; exact vp_in_nI (by omega) (by decide)
  · obtain ⟨i, hi, rfl⟩ := xSrc_of hq
    rw [Pl_nI hi]; exact vp_in_nI (by omega) (by decide)
theorem Cp_in {g q : Int32} (h : xG g = true) (hq : xSrc q = true) : vp_in (xCp g q) 128 := by
  obtain ⟨j, hj, rfl⟩ := xG_of h
  obtain ⟨i, hi, rfl⟩ := xSrc_of hq
  rw [Cp_nI]; exact vp_in_nI (by omega) (by decide)
theorem He_in {n me : Int32} (h : xHeB me n = false) : vp_in n 10 := by
  unfold xHeB at h
  simp only [Bool.or_eq_false_iff, decide_eq_false_iff_not] at h
  rcases pk_ix n (n := 10) (by decide) with a | a | ⟨j, hj, rfl⟩
  · exact absurd a h.1.1
  · exact absurd a h.1.2
  · exact vp_in_nI hj (by decide)
theorem mCp_eq (g q : Int32) : mCp g q = xCp g q := by unfold mCp xCp; rw [Int32.mul_comm]
theorem mBr_G {g q : Int32} (h : mBr g q = true) : xG g = true := by
  unfold mBr at h
  simp only [Bool.and_eq_true] at h
  exact h.1.1
theorem mBr_of {g q : Int32} (h : mBr g q = true) : q = -1 ∨ ∃ i : Nat, i < 16 ∧ q = nI i := by
  unfold mBr at h
  simp only [Bool.and_eq_true, Bool.not_eq_true', decide_eq_false_iff_not] at h
  rcases pk_ix q (n := 16) (by decide) with a | a | a
  · left
    have h1 := h.1.2
    rw [toI_lt] at a h1
    refine Int32.toInt_inj.mp ?_
    have e1 : (-1 : Int32).toInt = -1 := by decide
    have e0 : (0 : Int32).toInt = 0 := by decide
    rw [e1] at h1 ⊢
    rw [e0] at a
    omega
  · exact absurd a h.2
  · exact Or.inr a
theorem mPl_nI (j i : Nat) : mPl (nI j) (nI i) = nI (17 * j + i + 1) := by
  unfold mPl
  exact (congrArg (fun z => z + nI i + 1) (pk_mul 17 j)).trans ((congrArg (fun z => z + (1 : Int32)) (nI_add _ _)).trans (nI_1 _))
theorem mPl_st (j : Nat) : mPl (nI j) (-1) = nI (17 * j) := by
  unfold mPl
  have e : (17 : Int32) * nI j = nI (17 * j) := pk_mul 17 j
  rw [e, Int32.add_assoc, show (-1 : Int32) + 1 = 0 by decide, Int32.add_zero]
theorem mPl_in {g q : Int32} (h : mBr g q = true) : vp_in (mPl g q) 136 := by
  obtain ⟨j, hj, rfl⟩ := xG_of (mBr_G h)
  rcases mBr_of h with rfl | ⟨i, hi, rfl⟩
  · rw [mPl_st]; exact vp_in_nI (by omega) (by decide)
  · rw [mPl_nI]; exact vp_in_nI (by omega) (by decide)
theorem mBr_nI {j i : Nat} (hj : j < 8) (hi : i < 16) : mBr (nI j) (nI i) = true := by
  unfold mBr
  rw [xG_nI hj]
  exact co_dec (N := 16) (P := fun i => (true && !decide (nI i < -1) && !decide (16 ≤ nI i)) = true) (by decide +kernel) hi
theorem mBr_st {g : Int32} (hg : xG g = true) : mBr g (-1) = true := by unfold mBr; rw [hg]; decide
theorem mBr_nb {g : Int32} (hg : xG g = true) {i : Nat} (hi : i < 16) : mBr g (nI i) = true := by
  obtain ⟨j, hj, rfl⟩ := xG_of hg
  exact mBr_nI hj hi
theorem mCp_in {g q : Int32} (h : xG g = true) (hq : xSrc q = true) : vp_in (mCp g q) 128 := by rw [mCp_eq]; exact Cp_in h hq
theorem mHe_in {n me : Int32} (h : mHeB me n = false) : vp_in n 10 := by
  unfold mHeB at h
  simp only [Bool.or_eq_false_iff, decide_eq_false_iff_not] at h
  rcases pk_ix n (n := 10) (by decide) with a | a | ⟨j, hj, rfl⟩
  · exact absurd a h.1.1
  · refine absurd ?_ h.1.2
    rw [toI_lt]; rw [toI_le] at a
    have e1 : (nI 10).toInt = 10 := by decide
    have e0 : (9 : Int32).toInt = 9 := by decide
    omega
  · exact vp_in_nI hj (by decide)
