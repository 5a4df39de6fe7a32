-- equal answers, out of the relation
section ANS
variable {k : Nat} {tm : Int32} {fN fM fJ fT fC hA rA lT jA pT cF : Nat → Int32}
theorem R_nb (R : Rel k tm fN fM fJ fT fC hA rA lT jA pT cF) : xNb tm fN = mNb tm hA := by
  obtain ⟨hk, ⟨T, hT, rfl⟩, hn, -⟩ := R
  exact bits_congr (fun i hi => nb_q hT (hn i hi))
theorem R_nbn (R : Rel k tm fN fM fJ fT fC hA rA lT jA pT cF) : ∃ b : Nat, b < 1024 ∧ xNb tm fN = nI b ∧ mNb tm hA = nI b ∧ b / 2 ^ k % 2 = 0 := by
  obtain ⟨b, hb, e, hj⟩ := bits_nat2 (mNbq tm hA) 10 (by decide)
  refine ⟨b, hb, (R_nb R).trans e, e, ?_⟩
  rw [hj k R.1]
  have : mNbq tm hA k = false := by unfold mNbq; rw [R.2.2.2.1]; simp
  rw [this]; rfl
theorem R_first (R : Rel k tm fN fM fJ fT fC hA rA lT jA pT cF) : xFirst (nI k) (xNb tm fN) = mFirst (nI k) (mNb tm hA) := by
  obtain ⟨b, hb, e1, e2, h0⟩ := R_nbn R
  rw [e1, e2]; exact first_q hb R.1 h0
theorem R_ask (R : Rel k tm fN fM fJ fT fC hA rA lT jA pT cF) : xAsk (nI k) (xNb tm fN) = mAsk (nI k) (mNb tm hA) := by
  obtain ⟨b, hb, e1, e2, h0⟩ := R_nbn R
  rw [e1, e2]; exact ask_q hb R.1
theorem R_crowd (R : Rel k tm fN fM fJ fT fC hA rA lT jA pT cF) : xCrowd (xNb tm fN) = mCrowd (mNb tm hA) := by
  obtain ⟨b, hb, e1, e2, h0⟩ := R_nbn R
  rw [e1, e2]; exact crowd_q hb
theorem R_eff (R : Rel k tm fN fM fJ fT fC hA rA lT jA pT cF) : xEff tm (xNb tm fN) = mEff tm (mNb tm hA) := by unfold xEff mEff; rw [R_crowd R]
theorem R_effn (R : Rel k tm fN fM fJ fT fC hA rA lT jA pT cF) : ∃ E : Nat, E ≤ 100003 ∧ xEff tm (xNb tm fN) = nI E := by
  obtain ⟨-, ⟨T, hT, rfl⟩, -⟩ := R
  unfold xEff
  by_cases h : xCrowd (xNb (nI T) fN) = true
  · rw [if_pos h]; exact ⟨T + 3, by omega, nI_add T 3⟩
  · rw [if_neg h]; exact ⟨T, by omega, rfl⟩
theorem nI_cl {n : Nat} (h : n < 1000) : (nI n).toNatClampNeg = n := nI_clamp (by omega)
theorem R_mt (R : Rel k tm fN fM fJ fT fC hA rA lT jA pT cF) {j : Nat} (hj : j < 8) : ∃ T : Nat, T ≤ 100000 ∧ tm = nI T ∧ tlRel 60 (fM (nI j).toNatClampNeg) (rA (nI j).toNatClampNeg) (lT (nI j).toNatClampNeg) := by
  obtain ⟨-, ⟨T, hT, e⟩, -, -, hm, -⟩ := R
  exact ⟨T, hT, e, by rw [nI_cl (by omega)]; exact hm j hj⟩
theorem R_mtz (R : Rel k tm fN fM fJ fT fC hA rA lT jA pT cF) {j : Nat} (hj : j < 8) : xTz tm (fM (nI j).toNatClampNeg) = mMt tm rA lT (nI j) := by
  obtain ⟨T, hT, rfl, h⟩ := R_mt R hj
  exact tl_tz hT (by decide) h
theorem R_mt0 (R : Rel k tm fN fM fJ fT fC hA rA lT jA pT cF) {j : Nat} (hj : j < 8) : xSt tm (fM (nI j).toNatClampNeg) = !decide (mMt tm rA lT (nI j) = 0) ∧ xSt tm (fM (nI j).toNatClampNeg) = !decide (mMt tm rA lT (nI j) ≤ 0) := by
  obtain ⟨T, hT, rfl, h⟩ := R_mt R hj
  have h2 := tl_0 hT (by decide) h
  exact ⟨h2.1, h2.2.1⟩
theorem br_eq (g q : Int32) : xJoB g q = mBr g q := by
  refine Bool.eq_iff_iff.mpr ⟨fun h => ?_, fun h => ?_⟩
  · unfold xJoB at h
    simp only [Bool.and_eq_true] at h
    obtain ⟨h1, h2⟩ := h
    unfold xBr at h2
    simp only [Bool.or_eq_true, decide_eq_true_eq] at h2
    rcases h2 with rfl | h2
    · exact mBr_st h1
    · obtain ⟨i, hi, rfl⟩ := xSrc_of h2
      exact mBr_nb h1 hi
  · unfold xJoB
    rw [mBr_G h]
    rcases mBr_of h with rfl | ⟨i, hi, rfl⟩
    · rfl
    · rw [Br_src (xSrc_nI hi)]; rfl
theorem place {g q : Int32} (h : mBr g q = true) : ∃ j e : Nat, j < 8 ∧ e < 17 ∧ g = nI j ∧ (xPl g q).toNatClampNeg = j * 17 + e ∧ (mPl g q).toNatClampNeg = pm j e := by
  obtain ⟨j, hj, rfl⟩ := xG_of (mBr_G h)
  rcases mBr_of h with rfl | ⟨i, hi, rfl⟩
  · exact ⟨j, 16, hj, by decide, rfl, by rw [Pl_st, nI_cl (by omega)], by rw [mPl_st, nI_cl (by omega)]; rfl⟩
  · refine ⟨j, i, hj, by omega, rfl, by rw [Pl_nI hi, nI_cl (by omega)], ?_⟩
    rw [mPl_nI, nI_cl (by omega)]
    unfold pm
    rw [Nat.mod_eq_of_lt (by omega)]; omega
theorem R_tl (R : Rel k tm fN fM fJ fT fC hA rA lT jA pT cF) {g q : Int32} (h : mBr g q = true) : ∃ T : Nat, T ≤ 100000 ∧ tm = nI T ∧ tlRel 70 (fJ (xPl g q).toNatClampNeg) (jA (mPl g q).toNatClampNeg) (pT (mPl g q).toNatClampNeg) := by
  obtain ⟨j, e, hj, he, -, e1, e2⟩ := place h
  obtain ⟨-, ⟨T, hT, et⟩, -, -, -, hJ, -⟩ := R
  exact ⟨T, hT, et, by rw [e1, e2]; exact hJ j e hj he⟩
theorem R_tlz (R : Rel k tm fN fM fJ fT fC hA rA lT jA pT cF) {g q : Int32} (h : mBr g q = true) : xTz tm (fJ (xPl g q).toNatClampNeg) = mTi tm jA pT g q := by
  obtain ⟨T, hT, rfl, h⟩ := R_tl R h
  exact tl_tz hT (by decide) h
theorem R_tl0 (R : Rel k tm fN fM fJ fT fC hA rA lT jA pT cF) {g q : Int32} (h : mBr g q = true) : xSt tm (fJ (xPl g q).toNatClampNeg) = !decide (mTi tm jA pT g q = 0) ∧ xSt tm (fJ (xPl g q).toNatClampNeg) = !decide (mTi tm jA pT g q ≤ 0) ∧ xSt tm (fJ (xPl g q).toNatClampNeg) = decide (0 < mTi tm jA pT g q) := by
  obtain ⟨T, hT, rfl, h⟩ := R_tl R h
  exact tl_0 hT (by decide) h
theorem R_jd (R : Rel k tm fN fM fJ fT fC hA rA lT jA pT cF) (g q : Int32) : xJd tm fJ g q = mJd tm jA pT g q := by
  unfold xJd mJd
  rw [br_eq]
  by_cases h : mBr g q = true
  · rw [if_pos h, if_pos h, R_tlz R h]
  · rw [if_neg h, if_neg h]
theorem R_me (R : Rel k tm fN fM fJ fT fC hA rA lT jA pT cF) (g : Int32) : xMe tm fM g = mMe tm rA lT g := by
  unfold xMe mMe
  by_cases h : xG g = true
  · obtain ⟨j, hj, rfl⟩ := xG_of h
    rw [if_pos h, if_pos h, R_mtz R hj]
  · rw [if_neg h, if_neg h]
theorem src_eq (g q : Int32) : (xG g && xSrc q) = (mBr g q && !decide (q = -1)) := by
  rw [← br_eq]
  unfold xJoB xBr
  by_cases h : q = -1
  · subst h
    rw [show xSrc (-1) = false by decide]; simp
  · simp [h]
theorem R_cu1 (R : Rel k tm fN fM fJ fT fC hA rA lT jA pT cF) {j i : Nat} (hj : j < 8) (hi : i < 16) : cuRel (xBit (fT (nI j).toNatClampNeg) (nI i)) (fC (xCp (nI j) (nI i)).toNatClampNeg) (cF (mCp (nI j) (nI i)).toNatClampNeg) := by
  rw [mCp_eq, Cp_nI, nI_cl (by omega), nI_cl (by omega), xBit_bt _ (by omega)]
  exact R.2.2.2.2.2.2 j i hj hi
theorem R_cu (R : Rel k tm fN fM fJ fT fC hA rA lT jA pT cF) (g q : Int32) : xCu tm fJ fT fC g q = mCu tm jA pT cF g q := by
  unfold xCu mCu
  rw [src_eq]
  by_cases h : (mBr g q && !decide (q = -1)) = true
  · rw [if_pos h, if_pos h]
    rw [← src_eq] at h
    simp only [Bool.and_eq_true] at h
    obtain ⟨hg, hq⟩ := h
    obtain ⟨j, hj, rfl⟩ := xG_of hg
    obtain ⟨i, hi, rfl⟩ := xSrc_of hq
    have hs := (R_tl0 R (mBr_st hg)).1
    have hc := R_cu1 R hj hi
    unfold xStar
    rw [hs]
    rcases hc with ⟨h1, h2⟩ | ⟨h1, t, ht, h2, h3⟩
    · rw [h1, h2]; simp
    · rw [h1, h2, h3]
      have := nI_m1 (t := t) (by omega)
      by_cases h0 : mTi tm jA pT (nI j) (-1) = 0 <;> simp [h0, this]
  · rw [if_neg h, if_neg h]
theorem R_own (R : Rel k tm fN fM fJ fT fC hA rA lT jA pT cF) {j : Nat} (hj : j < 8) : (xSt tm (fM (nI j).toNatClampNeg) && xFirst (nI k) (xNb tm fN)) = mOwn (nI k) tm hA rA lT (nI j) := by
  unfold mOwn
  rw [(R_mt0 R hj).2, R_first R]
theorem R_goq (R : Rel k tm fN fM fJ fT fC hA rA lT jA pT cF) {j i : Nat} (hj : j < 8) (hi : i < 16) : xGoq tm fJ fT fC (nI j) i = mGoq false tm jA pT cF (nI j) i := by
  unfold xGoq mGoq xStar
  rw [(R_tl0 R (mBr_st (xG_nI hj))).2.1, (R_tl0 R (mBr_nb (xG_nI hj) hi)).2.2]
  have hc : xCut tm fT fC (nI j) (nI i) = mCut tm cF (nI j) (nI i) := by
    unfold xCut mCut
    obtain ⟨T, hT, rfl⟩ := R.2.1
    exact cu_q (R_cu1 R hj hi)
  rw [hc]
  simp [Bool.or_comm]
theorem all16 : bitsI (fun _ => true) 16 = 65535 := by decide +kernel
theorem R_go (R : Rel k tm fN fM fJ fT fC hA rA lT jA pT cF) {j : Nat} (hj : j < 8) : xGo (nI k) tm fN fM fJ fT fC (nI j) = mGoes (nI k) tm hA rA lT jA pT cF (nI j) := by
  unfold xGo mGoes
  rw [if_pos (xG_nI hj), R_own R hj]
  cases hm : mOwn (nI k) tm hA rA lT (nI j) with
  | true =>
    rw [if_pos rfl, ← all16]
    exact bits_congr (fun i hi => by unfold mGoq; simp)
  | false =>
    rw [if_neg (by decide)]
    exact bits_congr (fun i hi => R_goq R hj hi)
theorem R_goes (R : Rel k tm fN fM fJ fT fC hA rA lT jA pT cF) (g : Int32) : xGoes (nI k) tm fN fM fJ fT fC g = mGoes (nI k) tm hA rA lT jA pT cF g := by
  by_cases h : xG g = true
  · obtain ⟨j, hj, rfl⟩ := xG_of h
    unfold xGoes
    rw [if_pos h, R_go R hj]
  · unfold xGoes mGoes
    rw [if_neg h, if_neg h]
theorem R_gr (R : Rel k tm fN fM fJ fT fC hA rA lT jA pT cF) : xGr (nI k) tm fN fM fJ fT fC = mGr (nI k) tm hA rA lT jA pT cF := bits_congr (fun i hi => by unfold xGrq mGrq; rw [R_go R hi])
-- how many
def cntN (q : Nat → Bool) : Nat → Nat
  | 0 => 0
  | n + 1 => cntN q n + (q n).toNat
theorem cntI_N (q : Nat → Bool) : ∀ n : Nat, cntI q n = nI (cntN q n)
  | 0 => nI_0.symm
  | n + 1 => by
    show (if q n = true then cntI q n + 1 else cntI q n) = nI (cntN q n + (q n).toNat)
    rw [cntI_N q n]
    cases q n with
    | true => exact nI_1 _
    | false => rfl
theorem cnt17 (q : Nat → Bool) (b : Nat) : cntN q (b + 17) = cntN q b + (q b).toNat + (q (b + 1)).toNat + (q (b + 2)).toNat + (q (b + 3)).toNat + (q (b + 4)).toNat + (q (b + 5)).toNat + (q (b + 6)).toNat + (q (b + 7)).toNat + (q (b + 8)).toNat + (q (b + 9)).toNat + (q (b + 10)).toNat + (q (b + 11)).toNat + (q (b + 12)).toNat + (q (b + 13)).toNat + (q (b + 14)).toNat + (q (b + 15)).toNat + (q (b + 16)).toNat := rfl
theorem cnt_rot {q q' : Nat → Bool} : ∀ n : Nat, (∀ g e, g < n → e < 17 → q (g * 17 + e) = q' (pm g e)) → cntN q (n * 17) = cntN q' (n * 17)
  | 0, _ => by simp [cntN]
  | n + 1, h => by
    have ih := cnt_rot n (fun g e hg he => h g e (by omega) he)
    rw [show (n + 1) * 17 = n * 17 + 17 by omega, cnt17, cnt17, ih]
    have e0 : ∀ e, e < 16 → q (n * 17 + e) = q' (n * 17 + (e + 1)) := fun e he => by
      rw [h n e (by omega) (by omega)]
      unfold pm
      rw [Nat.mod_eq_of_lt (by omega), Nat.mul_comm 17 n]
    have e16 : q (n * 17 + 16) = q' (n * 17) := by
      rw [h n 16 (by omega) (by omega)]
      unfold pm
      rw [Nat.mul_comm 17 n]
      rfl
    have a0 := e0 0 (by decide)
    rw [Nat.add_zero] at a0
    rw [a0, e0 1 (by decide), e0 2 (by decide), e0 3 (by decide), e0 4 (by decide), e0 5 (by decide), e0 6 (by decide), e0 7 (by decide), e0 8 (by decide), e0 9 (by decide), e0 10 (by decide), e0 11 (by decide), e0 12 (by decide), e0 13 (by decide), e0 14 (by decide), e0 15 (by decide), e16]
    simp only [Nat.reduceAdd]
    omega
theorem mPl_dm {i : Nat} (h : i < 136) : mPl (mDv i) (mMd i) = nI i := co_dec (N := 136) (P := fun i => mPl (mDv i) (mMd i) = nI i) (by decide +kernel) h
theorem pm_lt {g e : Nat} (hg : g < 8) : pm g e < 136 := by
  unfold pm
  have := Nat.mod_lt (e + 1) (show 0 < 17 by decide)
  omega
theorem R_cnt (R : Rel k tm fN fM fJ fT fC hA rA lT jA pT cF) : xCnt tm fJ = mCnt tm jA pT := by
  unfold xCnt mCnt
  rw [cntI_N, cntI_N]
  have key := cnt_rot (q := xNbq tm fJ) (q' := mCnq tm jA pT) 8 (fun g e hg he => by
    obtain ⟨-, ⟨T, hT, rfl⟩, -, -, -, hJ, -⟩ := R
    have h := tl_0 hT (by decide) (hJ g e hg he)
    unfold xNbq mCnq
    rw [h.2.1]
    unfold mTi
    rw [mPl_dm (pm_lt hg), nI_clamp (by have := pm_lt (g := g) (e := e) hg; omega)]
    rfl)
  exact congrArg nI key
theorem R_look (R : Rel k tm fN fM fJ fT fC hA rA lT jA pT cF) (w : Int32) : xLook (nI k) tm fN fM fJ fT fC w = mLook (nI k) tm hA rA lT jA pT cF w := by
  unfold xLook mLook
  rw [R_first R, R_ask R, R_crowd R, R_gr R, R_cnt R, R_nb R]
theorem he_eq (me n : Int32) : xHeB me n = mHeB me n := by
  unfold xHeB mHeB
  have : decide ((10 : Int32) ≤ n) = decide ((9 : Int32) < n) := by
    refine decide_eq_decide.mpr ?_
    rw [toI_le, toI_lt, show (10 : Int32).toInt = 10 by decide, show (9 : Int32).toInt = 9 by decide]
    omega
  rw [this]
theorem R_leb (R : Rel k tm fN fM fJ fT fC hA rA lT jA pT cF) (g : Int32) : xLeB (nI k) tm fN fM g = mLeB (nI k) tm hA rA lT g := by
  unfold xLeB mLeB
  rw [R_ask R]
  by_cases h : xG g = true
  · obtain ⟨j, hj, rfl⟩ := xG_of h
    rw [(R_mt0 R hj).1]
  · rw [Bool.not_eq_true] at h
    rw [h]; rfl
theorem R_prb (R : Rel k tm fN fM fJ fT fC hA rA lT jA pT cF) (g q : Int32) : xPrB tm fJ g q = mPrB tm jA pT g q := by
  unfold xPrB mPrB
  rw [br_eq]
  by_cases h : mBr g q = true
  · rw [(R_tl0 R h).1]
  · rw [Bool.not_eq_true] at h
    rw [h]; rfl
end ANS
