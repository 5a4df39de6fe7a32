-- the relation behind each call that writes
section UPD
variable {k : Nat} {tm : Int32} {fN fM fJ fT fC hA rA lT jA pT cF : Nat → Int32}
theorem upd_s {f : Nat → Int32} {i j : Nat} {x : Int32} (h : i = j) : upd f j x i = x := by subst h; exact pk_us
theorem R_tick (R : Rel k tm fN fM fJ fT fC hA rA lT jA pT cF) (n : Int32) : Rel k (xTickT tm n) fN fM fJ fT fC hA rA lT jA pT cF := by
  obtain ⟨hk, ⟨T, hT, rfl⟩, h⟩ := R
  refine ⟨hk, ?_, h⟩
  unfold xTickT
  by_cases hb : xTickB (nI T) n = true
  · rw [if_pos hb]; exact ⟨T, hT, rfl⟩
  · rw [if_neg hb]
    rw [Bool.not_eq_true] at hb
    unfold xTickB at hb
    simp only [Bool.or_eq_false_iff, decide_eq_false_iff_not, Bool.not_eq_false', decide_eq_true_eq] at hb
    obtain ⟨⟨h1, h2⟩, h3⟩ := hb
    have h0 : ¬ n < 0 := by
      rw [toI_lt] at h1 ⊢
      rw [show (1 : Int32).toInt = 1 by decide] at h1
      rw [show (0 : Int32).toInt = 0 by decide]
      omega
    obtain ⟨j, hj, rfl⟩ := nI_of h0
    have hj2 : j ≤ 100 := by
      rcases Nat.lt_or_ge 100 j with q | q
      · exact absurd (nI_lt (a := 100) q hj) h2
      · exact q
    refine ⟨T + j, ?_, nI_add T j⟩
    rw [nI_add] at h3
    exact (nI_leI (b := 100000) (by omega) (by decide)).mp h3
theorem R_hello (R : Rel k tm fN fM fJ fT fC hA rA lT jA pT cF) (n : Int32) : Rel k tm (xHeN (nI k) tm fN n) fM fJ fT fC (mHeA (nI k) tm hA n) rA lT jA pT cF := by
  unfold xHeN mHeA
  rw [← he_eq]
  by_cases hb : xHeB (nI k) n = true
  · rw [if_pos hb, if_pos hb]; exact R
  · rw [if_neg hb, if_neg hb]
    rw [Bool.not_eq_true] at hb
    obtain ⟨j, hj, rfl⟩ := vp_in_of (He_in hb) (by decide)
    obtain ⟨hk, ⟨T, hT, rfl⟩, hn, hm, h⟩ := R
    have hjk : k ≠ j := fun e => by
      subst e
      unfold xHeB at hb
      simp at hb
    rw [nI_cl (by omega)]
    refine ⟨hk, ⟨T, hT, rfl⟩, fun i hi => ?_, by rw [pk_un hjk]; exact hm, h⟩
    by_cases e : i = j
    · subst e
      rw [pk_us, pk_us]
      exact Or.inr ⟨T, hT, rfl, nI_add T 65⟩
    · rw [pk_un e, pk_un e]; exact hn i hi
theorem R_report (R : Rel k tm fN fM fJ fT fC hA rA lT jA pT cF) (g : Int32) : Rel k tm fN (xReM tm fM g) fJ fT fC hA (mReA tm rA g) (mReT lT g) jA pT cF := by
  unfold xReM mReA mReT
  by_cases hb : xG g = true
  · rw [if_pos hb, if_pos hb, if_pos hb]
    obtain ⟨j, hj, rfl⟩ := xG_of hb
    obtain ⟨hk, ⟨T, hT, rfl⟩, hn, hm, hM, h⟩ := R
    rw [nI_cl (by omega)]
    refine ⟨hk, ⟨T, hT, rfl⟩, hn, hm, fun i hi => ?_, h⟩
    by_cases e : i = j
    · subst e
      rw [pk_us, pk_us, pk_us]
      exact Or.inr ⟨T, 1000000, hT, Nat.le_refl _, rfl, rfl, by rw [Nat.min_eq_left (by omega)]; exact nI_add T 60⟩
    · rw [pk_un e, pk_un e, pk_un e]; exact hM i hi
  · rw [if_neg hb, if_neg hb, if_neg hb]; exact R
/-- a span is cut short on both sides -/
theorem tl_min {sp : Nat} {x a u : Int32} {T E : Nat} (hT : T ≤ 100000) (hs : sp ≤ 1000) (hE : E ≤ 100010) (h : tlRel sp x a u) (hst : xSt (nI T) x = true) : tlRel sp (xMin x (nI E)) a (mMin (nI E) u) := by
  rcases h with ⟨rfl, rfl⟩ | ⟨t, v, ht, hv, rfl, rfl, rfl⟩
  · rw [show (0 : Int32) = nI 0 from rfl, xSt_nI (by omega) (by decide)] at hst
    simp at hst
  · refine Or.inr ⟨t, min E v, ht, by omega, rfl, ?_, ?_⟩
    · unfold mMin
      by_cases h : v ≤ E
      · rw [if_pos ((nI_leI (by omega) (by omega)).mpr h), Nat.min_eq_right h]
      · rw [if_neg (fun q => h ((nI_leI (by omega) (by omega)).mp q)), Nat.min_eq_left (by omega)]
    · unfold xMin
      by_cases h : E < min (t + sp) v
      · rw [if_pos ((nI_ltI (by omega) (by omega)).mpr h), show min (t + sp) (min E v) = E by omega]
      · rw [if_neg (fun q => h ((nI_ltI (by omega) (by omega)).mp q)), show min (t + sp) (min E v) = min (t + sp) v by omega]
theorem R_leave (R : Rel k tm fN fM fJ fT fC hA rA lT jA pT cF) (g : Int32) : Rel k tm fN (xLeM (nI k) tm fN fM g) fJ fT fC hA rA (mLeT (nI k) tm hA rA lT g) jA pT cF := by
  have e := R_leb R g
  unfold xLeM mLeT
  rw [← e]
  by_cases hb : xLeB (nI k) tm fN fM g = true
  · rw [if_pos hb, if_pos hb]
    unfold xLeB at hb
    simp only [Bool.and_eq_true] at hb
    obtain ⟨⟨hg, hst⟩, -⟩ := hb
    obtain ⟨j, hj, rfl⟩ := xG_of hg
    obtain ⟨hk, ⟨T, hT, rfl⟩, hn, hm, hM, h⟩ := R
    rw [nI_cl (by omega)] at hst ⊢
    refine ⟨hk, ⟨T, hT, rfl⟩, hn, hm, fun i hi => ?_, h⟩
    by_cases e : i = j
    · subst e
      rw [pk_us, pk_us]
      have e4 : nI T + 4 = nI (T + 4) := nI_add T 4
      rw [e4]
      exact tl_min hT (by decide) (by omega) (hM i hi) hst
    · rw [pk_un e, pk_un e]; exact hM i hi
  · rw [if_neg hb, if_neg hb]; exact R
theorem pm_inj {g e g' e' : Nat} (he : e < 17) (he' : e' < 17) (h : pm g e = pm g' e') : g = g' ∧ e = e' := by
  unfold pm at h
  have h1 := Nat.mod_lt (e + 1) (show 0 < 17 by decide)
  have h2 := Nat.mod_lt (e' + 1) (show 0 < 17 by decide)
  have : g = g' := by omega
  refine ⟨this, ?_⟩
  omega
theorem R_prune (R : Rel k tm fN fM fJ fT fC hA rA lT jA pT cF) (g q : Int32) : Rel k tm fN fM (xPrJ tm fN fJ g q) fT fC hA rA lT jA (mPrP tm hA jA pT g q) cF := by
  have e := R_prb R g q
  have e2 := R_eff R
  obtain ⟨E, hE, eE⟩ := R_effn R
  unfold xPrJ mPrP
  rw [← e, ← e2, eE]
  by_cases hb : xPrB tm fJ g q = true
  · rw [if_pos hb, if_pos hb]
    unfold xPrB at hb
    rw [br_eq] at hb
    simp only [Bool.and_eq_true] at hb
    obtain ⟨hg, hst⟩ := hb
    obtain ⟨j, e0, hj, he, -, e1, e3⟩ := place hg
    obtain ⟨hk, ⟨T, hT, rfl⟩, hn, hm, hM, hJ, h⟩ := R
    rw [e1] at hst ⊢
    rw [e3]
    refine ⟨hk, ⟨T, hT, rfl⟩, hn, hm, hM, fun i e4 hi he4 => ?_, h⟩
    by_cases ee : i = j ∧ e4 = e0
    · obtain ⟨rfl, rfl⟩ := ee
      rw [pk_us, pk_us]
      exact tl_min hT (by decide) (by omega) (hJ i e4 hi he4) hst
    · rw [pk_un (fun q => ee ⟨by omega, by omega⟩), pk_un (fun q => ee (pm_inj he4 he q))]; exact hJ i e4 hi he4
  · rw [if_neg hb, if_neg hb]; exact R
-- a JOIN for * and the sources that are told
theorem xCuts_at {fr fo : Int32} {j i : Nat} (hj : j < 8) (hi : i < 16) : ∀ n : Nat, n ≤ 16 → xCutsI fC (nI j) fr fo n (j * 16 + i) = (if i < n ∧ bt fr i = true then fo else fC (j * 16 + i))
  | 0, _ => by simp [xCutsI]
  | n + 1, hn => by
    have ih := xCuts_at (fr := fr) (fo := fo) hj hi n (by omega)
    cases hb : xBit fr (nI n) with
    | true =>
      rw [xCutsI_t hb, Cp_nI, nI_cl (by omega)]
      rw [xBit_bt _ (by omega)] at hb
      by_cases e : i = n
      · subst e
        rw [pk_us, if_pos ⟨by omega, hb⟩]
      · rw [pk_un (by omega), ih]
        by_cases h2 : i < n
        · simp [h2, show i < n + 1 by omega]
        · simp [h2, show ¬ i < n + 1 by omega]
    | false =>
      rw [xCutsI_f hb, ih]
      rw [xBit_bt _ (by omega)] at hb
      by_cases e : i = n
      · subst e
        simp [hb]
      · by_cases h2 : i < n
        · simp [h2, show i < n + 1 by omega]
        · simp [h2, show ¬ i < n + 1 by omega]
theorem xCuts_off {fr fo : Int32} {j x : Nat} (hj : j < 8) (hx : ∀ i, i < 16 → x ≠ j * 16 + i) : ∀ n : Nat, n ≤ 16 → xCutsI fC (nI j) fr fo n x = fC x
  | 0, _ => rfl
  | n + 1, hn => by
    have ih := xCuts_off (fr := fr) (fo := fo) hj hx n (by omega)
    cases hb : xBit fr (nI n) with
    | true => rw [xCutsI_t hb, Cp_nI, nI_cl (by omega), pk_un (hx n (by omega)), ih]
    | false => rw [xCutsI_f hb, ih]
def mNew (was : Bool) (bits fo a : Int32) (i : Nat) : Int32 := if bt bits i = true then (if (!was || decide (a = -1)) = true then fo else a) else -1
theorem mCuts_at {was : Bool} {bits fo : Int32} {j i : Nat} (hj : j < 8) (hi : i < 16) : ∀ n : Nat, n ≤ 16 → mCutsI was cF (nI j) bits fo n (j * 16 + i) = (if i < n then mNew was bits fo (cF (j * 16 + i)) i else cF (j * 16 + i))
  | 0, _ => by simp [mCutsI]
  | n + 1, hn => by
    have ih := mCuts_at (was := was) (bits := bits) (fo := fo) hj hi n (by omega)
    have ep : (mCp (nI j) (nI n)).toNatClampNeg = j * 16 + n := by rw [mCp_eq, Cp_nI, nI_cl (by omega)]
    show (if mTold bits n = true then (if (!was || decide (mCutsI was cF (nI j) bits fo n (mCp (nI j) (nI n)).toNatClampNeg = -1)) = true then upd (mCutsI was cF (nI j) bits fo n) (mCp (nI j) (nI n)).toNatClampNeg fo else mCutsI was cF (nI j) bits fo n) else upd (mCutsI was cF (nI j) bits fo n) (mCp (nI j) (nI n)).toNatClampNeg (-1)) (j * 16 + i) = _
    rw [ep, mTold_bt _ (by omega)]
    by_cases e : i = n
    · subst e
      rw [if_neg (Nat.lt_irrefl i)] at ih
      rw [if_pos (Nat.lt_succ_self i), ih]
      unfold mNew
      by_cases h1 : bt bits i = true
      · rw [if_pos h1, if_pos h1]
        by_cases h2 : (!was || decide (cF (j * 16 + i) = -1)) = true
        · rw [if_pos h2, if_pos h2, pk_us]
        · rw [if_neg h2, if_neg h2, ih]
      · rw [if_neg h1, if_neg h1, pk_us]
    · have hne : j * 16 + i ≠ j * 16 + n := by omega
      have e2 : (if i < n + 1 then mNew was bits fo (cF (j * 16 + i)) i else cF (j * 16 + i)) = (if i < n then mNew was bits fo (cF (j * 16 + i)) i else cF (j * 16 + i)) := by
        by_cases h2 : i < n
        · simp [h2, show i < n + 1 by omega]
        · simp [h2, show ¬ i < n + 1 by omega]
      rw [e2, ← ih]
      by_cases h1 : bt bits n = true
      · rw [if_pos h1]
        by_cases h2 : (!was || decide (mCutsI was cF (nI j) bits fo n (j * 16 + n) = -1)) = true
        · rw [if_pos h2, pk_un hne]
        · rw [if_neg h2]
      · rw [if_neg h1, pk_un hne]
theorem mCuts_off {was : Bool} {bits fo : Int32} {j x : Nat} (hj : j < 8) (hx : ∀ i, i < 16 → x ≠ j * 16 + i) : ∀ n : Nat, n ≤ 16 → mCutsI was cF (nI j) bits fo n x = cF x
  | 0, _ => rfl
  | n + 1, hn => by
    have ih := mCuts_off (was := was) (bits := bits) (fo := fo) hj hx n (by omega)
    have ep : (mCp (nI j) (nI n)).toNatClampNeg = j * 16 + n := by rw [mCp_eq, Cp_nI, nI_cl (by omega)]
    show (if mTold bits n = true then (if (!was || decide (mCutsI was cF (nI j) bits fo n (mCp (nI j) (nI n)).toNatClampNeg = -1)) = true then upd (mCutsI was cF (nI j) bits fo n) (mCp (nI j) (nI n)).toNatClampNeg fo else mCutsI was cF (nI j) bits fo n) else upd (mCutsI was cF (nI j) bits fo n) (mCp (nI j) (nI n)).toNatClampNeg (-1)) x = _
    rw [ep]
    by_cases h1 : mTold bits n = true
    · rw [if_pos h1]
      by_cases h2 : (!was || decide (mCutsI was cF (nI j) bits fo n (j * 16 + n) = -1)) = true
      · rw [if_pos h2, pk_un (hx n (by omega)), ih]
      · rw [if_neg h2, ih]
    · rw [if_neg h1, pk_un (hx n (by omega)), ih]
theorem bt_told {x : Int32} {i : Nat} (hi : i < 16) : bt (x &&& 65535) i = bt x i := by
  rw [b_and, b_65535]; simp [hi]
theorem bt_fresh {x y : Int32} {i : Nat} (hi : i < 16) : bt (x &&& 65535 &&& (y ^^^ (-1))) i = (bt x i && !bt y i) := by
  rw [b_and, bt_told hi, b_xor, b_m1 i (by omega)]; simp
theorem R_cuts (R : Rel k tm fN fM fJ fT fC hA rA lT jA pT cF) {j : Nat} (hj : j < 8) (bits : Int32) : ∀ g i, g < 8 → i < 16 → cuRel (bt (upd fT j (bits &&& 65535) g) i) (xTellC tm fN fJ fT fC (nI j) (bits &&& 65535) (g * 16 + i)) (mCutsI (mWas tm jA pT (nI j) (-1)) cF (nI j) bits (mEff tm (mNb tm hA)) 16 (g * 16 + i)) := by
  intro g i hg hi
  obtain ⟨E, hE, eE⟩ := R_effn R
  have e2 := R_eff R
  have hcu := R.2.2.2.2.2.2
  unfold xTellC
  rw [← e2, eE]
  by_cases e : g = j
  · subst e
    rw [pk_us, bt_told hi, xCuts_at hg hi 16 (by decide), mCuts_at hg hi 16 (by decide), if_pos hi, bt_fresh hi]
    have hs : xStar tm fJ (nI g) = mWas tm jA pT (nI g) (-1) := (R_tl0 R (mBr_st (xG_nI hg))).2.1
    have hold := hcu g i hg hi
    unfold xBefore mNew
    rw [hs, nI_cl (by omega)]
    cases hb : bt bits i with
    | false => exact Or.inl ⟨rfl, rfl⟩
    | true =>
      refine Or.inr ⟨rfl, ?_⟩
      cases hw : mWas tm jA pT (nI g) (-1) with
      | false =>
        refine ⟨E, by omega, ?_, ?_⟩
        · simp
        · rw [if_neg (show ¬ (false = true) by decide), b_0]; simp [hi]
      | true =>
        rw [if_pos (show (true = true) from rfl)]
        rcases hold with ⟨h1, h2⟩ | ⟨h1, t, ht, h2, h3⟩
        · refine ⟨E, by omega, ?_, ?_⟩
          · simp [h2]
          · simp [h1, hi]
        · refine ⟨t, ht, ?_, ?_⟩
          · simp [h2, nI_m1 (t := t) (by omega)]
          · simp [h1, h3]
  · rw [pk_un e, xCuts_off hj (fun i2 hi2 => by omega) 16 (by decide), mCuts_off hj (fun i2 hi2 => by omega) 16 (by decide)]
    exact hcu g i hg hi
theorem R_join (R : Rel k tm fN fM fJ fT fC hA rA lT jA pT cF) (g q bits : Int32) : Rel k tm fN fM (xJoJ tm fJ g q) (xJoT fT g q bits) (xJoC tm fN fJ fT fC g q bits) hA rA lT (mJoA tm jA g q) (mJoP pT g q) (mJoC tm hA jA pT cF g q bits) := by
  have es : xJoS g q = mJoS g q := by unfold xJoS mJoS; rw [br_eq]
  have hcut : ∀ g2 i, g2 < 8 → i < 16 → cuRel (bt (xJoT fT g q bits g2) i) (xJoC tm fN fJ fT fC g q bits (g2 * 16 + i)) (mJoC tm hA jA pT cF g q bits (g2 * 16 + i)) := by
    intro g2 i hg2 hi
    unfold xJoT xJoC mJoC
    rw [es]
    by_cases hb : mJoS g q = true
    · rw [if_pos hb, if_pos hb, if_pos hb]
      unfold mJoS at hb
      simp only [Bool.and_eq_true, decide_eq_true_eq] at hb
      obtain ⟨hbr, rfl⟩ := hb
      obtain ⟨j, hj, rfl⟩ := xG_of (mBr_G hbr)
      rw [nI_cl (by omega)]
      exact R_cuts R hj bits g2 i hg2 hi
    · rw [if_neg hb, if_neg hb, if_neg hb]
      exact R.2.2.2.2.2.2 g2 i hg2 hi
  obtain ⟨hk, ⟨T, hT, rfl⟩, hn, hm, hM, hJ, hC⟩ := R
  refine ⟨hk, ⟨T, hT, rfl⟩, hn, hm, hM, ?_, hcut⟩
  unfold xJoJ mJoA mJoP
  rw [br_eq]
  by_cases hb : mBr g q = true
  · rw [if_pos hb, if_pos hb, if_pos hb]
    obtain ⟨j, e0, hj, he, -, e1, e3⟩ := place hb
    rw [e1, e3]
    intro i e4 hi he4
    by_cases ee : i = j ∧ e4 = e0
    · obtain ⟨rfl, rfl⟩ := ee
      rw [pk_us, pk_us, pk_us]
      exact Or.inr ⟨T, 1000000, hT, Nat.le_refl _, rfl, rfl, by rw [Nat.min_eq_left (by omega)]; exact nI_add T 70⟩
    · rw [pk_un (fun q => ee ⟨by omega, by omega⟩), pk_un (fun q => ee (pm_inj he4 he q)), pk_un (fun q => ee (pm_inj he4 he q))]; exact hJ i e4 hi he4
  · rw [if_neg hb, if_neg hb, if_neg hb]; exact hJ
theorem R_blank {gN gM gJ gT gC bA bR bL bJ bP bC : Nat → Int32} (hk : k < 10) (ht : ∃ T : Nat, T ≤ 100000 ∧ tm = nI T) (h1 : ∀ n, n < 10 → gN n = 0 ∧ bA n = -1) (h2 : ∀ g, g < 8 → gM g = 0 ∧ bR g = -1) (h3 : ∀ n, n < 136 → gJ n = 0 ∧ bJ n = -1) (h4 : ∀ g, g < 8 → gT g = 0) (h5 : ∀ n, n < 128 → bC n = -1) : Rel k tm gN gM gJ gT gC bA bR bL bJ bP bC :=
  ⟨hk, ht, fun n hn => Or.inl ⟨(h1 n hn).2, (h1 n hn).1⟩, (h1 k hk).2, fun g hg => Or.inl ⟨(h2 g hg).2, (h2 g hg).1⟩, fun g e hg he => Or.inl ⟨(h3 _ (pm_lt hg)).2, (h3 _ (by omega)).1⟩, fun g i hg hi => Or.inl ⟨by rw [h4 g hg]; exact b_0 i, h5 _ (by omega)⟩⟩
theorem R_forget (R : Rel k tm fN fM fJ fT fC hA rA lT jA pT cF) : Rel k tm (fillI fN (0 : Int32) 10) (fillI fM (0 : Int32) 8) (fillI fJ (0 : Int32) 136) (fillI fT (0 : Int32) 8) (fillI fC (0 : Int32) 128) (fillI hA (-1 : Int32) 10) (fillI rA (-1 : Int32) 8) lT (fillI jA (-1 : Int32) 136) pT (fillI cF (-1 : Int32) 128) :=
  R_blank R.1 R.2.1 (fun n hn => ⟨fill_lt hn, fill_lt hn⟩) (fun n hn => ⟨fill_lt hn, fill_lt hn⟩) (fun n hn => ⟨fill_lt hn, fill_lt hn⟩) (fun n hn => fill_lt hn) (fun n hn => fill_lt hn)
theorem R_start {k : Nat} (hk : k < 10) : Rel k 0 (fun _ => 0) (fun _ => 0) (fun _ => 0) (fun _ => 0) (fun _ => 0) (fillI (fun _ => 0) (-1 : Int32) 10) (fillI (fun _ => 0) (-1 : Int32) 8) (fun _ => 0) (fillI (fun _ => 0) (-1 : Int32) 136) (fun _ => 0) (fillI (fun _ => 0) (-1 : Int32) 128) :=
  R_blank hk ⟨0, by decide, rfl⟩ (fun n hn => ⟨rfl, fill_lt hn⟩) (fun n hn => ⟨rfl, fill_lt hn⟩) (fun n hn => ⟨rfl, fill_lt hn⟩) (fun n hn => rfl) (fun n hn => fill_lt hn)
theorem me_of (me : Int32) : ∃ k : Nat, k < 10 ∧ xMe0 me = nI k ∧ mMe0 me = nI k := by
  rcases pk_ix me (n := 10) (by decide) with a | a | ⟨j, hj, rfl⟩
  · refine ⟨0, by decide, ?_, ?_⟩
    · unfold xMe0 xMin xMax
      rw [toI_lt, show (0 : Int32).toInt = 0 by decide] at a
      have h1 : me < 9 := by rw [toI_lt, show (9 : Int32).toInt = 9 by decide]; omega
      have h2 : ¬ (0 : Int32) < me := by rw [toI_lt, show (0 : Int32).toInt = 0 by decide]; omega
      rw [if_pos h1, if_neg h2]; rfl
    · unfold mMe0
      rw [toI_lt, show (0 : Int32).toInt = 0 by decide] at a
      have h2 : ¬ (0 : Int32) ≤ me := by rw [toI_le, show (0 : Int32).toInt = 0 by decide]; omega
      rw [if_neg h2]; rfl
  · refine ⟨9, by decide, ?_, ?_⟩
    · unfold xMe0 xMin xMax
      rw [toI_le, show (nI 10).toInt = 10 by decide] at a
      have h1 : ¬ me < 9 := by rw [toI_lt, show (9 : Int32).toInt = 9 by decide]; omega
      rw [if_neg h1]; rfl
    · unfold mMe0
      rw [toI_le, show (nI 10).toInt = 10 by decide] at a
      have h1 : (0 : Int32) ≤ me := by rw [toI_le, show (0 : Int32).toInt = 0 by decide]; omega
      have h2 : ¬ me ≤ 9 := by rw [toI_le, show (9 : Int32).toInt = 9 by decide]; omega
      rw [if_pos h1, if_neg h2]; rfl
  · exact ⟨j, hj, co_dec (N := 10) (P := fun j => xMe0 (nI j) = nI j) (by decide +kernel) hj, co_dec (N := 10) (P := fun j => mMe0 (nI j) = nI j) (by decide +kernel) hj⟩
end UPD
