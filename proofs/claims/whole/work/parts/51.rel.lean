-- numbers
theorem nI_m1 {t : Nat} (h : t < 2 ^ 31) : ¬ nI t = -1 := by
  intro e
  have h1 : (nI t).toInt = (t : Int) := nI_toInt h
  rw [e, show (-1 : Int32).toInt = -1 by decide] at h1
  omega
theorem bits_congr {q q' : Nat → Bool} : ∀ {k : Nat}, (∀ i, i < k → q i = q' i) → bitsI q k = bitsI q' k
  | 0, _ => rfl
  | k + 1, h => by
    have e := bits_congr (k := k) (fun i hi => h i (by omega))
    show (if q k = true then bitsI q k ||| _ else bitsI q k) = (if q' k = true then bitsI q' k ||| _ else bitsI q' k)
    rw [e, h k (by omega)]
theorem xSt_nI {T v : Nat} (hT : T < 2 ^ 31) (hv : v < 2 ^ 31) : xSt (nI T) (nI v) = decide (T < v) := by
  unfold xSt
  rw [show decide (nI v ≤ nI T) = decide (v ≤ T) from decide_eq_decide.mpr (nI_leI hv hT)]
  by_cases h : T < v
  · simp [h]
  · simp [h, Nat.not_lt.mp h]
theorem fill_lt {f : Nat → Int32} {v : Int32} : ∀ {n j : Nat}, j < n → fillI f v n j = v
  | n + 1, j, h => by
    show (if j = n then v else fillI f v n j) = v
    by_cases e : j = n
    · rw [if_pos e]
    · rw [if_neg e]; exact fill_lt (by omega)
-- the relation, cell by cell
def nbRel (x a : Int32) : Prop := (a = -1 ∧ x = 0) ∨ ∃ t : Nat, t ≤ 100000 ∧ a = nI t ∧ x = nI (t + 65)
def tlRel (sp : Nat) (x a u : Int32) : Prop := (a = -1 ∧ x = 0) ∨ ∃ t v : Nat, t ≤ 100000 ∧ v ≤ 1000000 ∧ a = nI t ∧ u = nI v ∧ x = nI (min (t + sp) v)
def cuRel (b : Bool) (x a : Int32) : Prop := (b = false ∧ a = -1) ∨ (b = true ∧ ∃ t : Nat, t ≤ 200000 ∧ a = nI t ∧ x = nI t)
def pm (g e : Nat) : Nat := 17 * g + (e + 1) % 17
def Rel (k : Nat) (tm : Int32) (fN fM fJ fT fC hA rA lT jA pT cF : Nat → Int32) : Prop :=
  k < 10 ∧ (∃ T : Nat, T ≤ 100000 ∧ tm = nI T) ∧ (∀ n, n < 10 → nbRel (fN n) (hA n)) ∧ hA k = -1 ∧ (∀ g, g < 8 → tlRel 60 (fM g) (rA g) (lT g)) ∧ (∀ g e, g < 8 → e < 17 → tlRel 70 (fJ (g * 17 + e)) (jA (pm g e)) (pT (pm g e))) ∧ (∀ g i, g < 8 → i < 16 → cuRel (bt (fT g) i) (fC (g * 16 + i)) (cF (g * 16 + i)))
theorem nb_q {x a : Int32} {T : Nat} (hT : T ≤ 100000) (h : nbRel x a) : xSt (nI T) x = (!decide (a = -1) && !decide (a + 65 ≤ nI T)) := by
  rcases h with ⟨rfl, rfl⟩ | ⟨t, ht, rfl, rfl⟩
  · rw [show (0 : Int32) = nI 0 from rfl, xSt_nI (by omega) (by decide)]
    simp
  · rw [decide_eq_false (nI_m1 (t := t) (by omega))]
    show xSt (nI T) (nI (t + 65)) = (true && !decide (nI t + nI 65 ≤ nI T))
    rw [nI_add]
    rfl
theorem tl_q {sp : Nat} {x a u : Int32} {T : Nat} (hT : T ≤ 100000) (hs : sp ≤ 1000) (h : tlRel sp x a u) : ∃ v : Nat, v ≤ 1000000 ∧ x = nI v ∧ mT (nI T) a (nI sp) u = (if T < v then nI v else 0) := by
  rcases h with ⟨rfl, rfl⟩ | ⟨t, v, ht, hv, rfl, rfl, rfl⟩
  · exact ⟨0, by decide, rfl, by unfold mT; rw [if_pos rfl, if_neg (by omega)]⟩
  · refine ⟨min (t + sp) v, by omega, rfl, ?_⟩
    unfold mT
    rw [if_neg (nI_m1 (t := t) (by omega)), nI_add]
    have e1 : (if nI (t + sp) ≤ nI v then nI (t + sp) else nI v) = nI (min (t + sp) v) := by
      by_cases h : t + sp ≤ v
      · rw [if_pos ((nI_leI (by omega) (by omega)).mpr h), Nat.min_eq_left h]
      · rw [if_neg (fun q => h ((nI_leI (by omega) (by omega)).mp q)), Nat.min_eq_right (by omega)]
    rw [e1]
    by_cases h : T < min (t + sp) v
    · rw [if_neg (fun q => by have := (nI_leI (by omega) (by omega)).mp q; omega), if_pos h]
    · rw [if_pos ((nI_leI (by omega) (by omega)).mpr (by omega)), if_neg h]
theorem tl_tz {sp : Nat} {x a u : Int32} {T : Nat} (hT : T ≤ 100000) (hs : sp ≤ 1000) (h : tlRel sp x a u) : xTz (nI T) x = mT (nI T) a (nI sp) u := by
  obtain ⟨v, hv, rfl, e⟩ := tl_q hT hs h
  rw [e]
  unfold xTz
  rw [xSt_nI (by omega) (by omega)]
  by_cases q : T < v <;> simp [q]
theorem tl_0 {sp : Nat} {x a u : Int32} {T : Nat} (hT : T ≤ 100000) (hs : sp ≤ 1000) (h : tlRel sp x a u) : xSt (nI T) x = !decide (mT (nI T) a (nI sp) u = 0) ∧ xSt (nI T) x = !decide (mT (nI T) a (nI sp) u ≤ 0) ∧ xSt (nI T) x = decide (0 < mT (nI T) a (nI sp) u) := by
  obtain ⟨v, hv, rfl, e⟩ := tl_q hT hs h
  rw [e, xSt_nI (by omega) (by omega)]
  by_cases q : T < v
  · have h0 : ¬ nI v = 0 := nI_ne0 (by omega) (by omega)
    have h1 : ¬ nI v ≤ 0 := nI_nle (by omega) (by omega)
    have h2 : 0 < nI v := nI_lt (a := 0) (b := v) (by omega) (by omega)
    simp [q, h0, h1, h2]
  · have h2 : ¬ (0 : Int32) < 0 := by decide
    have h1 : (0 : Int32) ≤ 0 := by decide
    simp [q, h2, h1]
theorem cu_q {b : Bool} {x a : Int32} {T : Nat} (h : cuRel b x a) : (b && !decide (nI T < x)) = (!decide (a = -1) && !decide (nI T < a)) := by
  rcases h with ⟨rfl, rfl⟩ | ⟨rfl, t, ht, rfl, rfl⟩
  · simp
  · rw [decide_eq_false (nI_m1 (t := t) (by omega))]
    rfl
-- the neighbours' bits
theorem bits_nat2 (q : Nat → Bool) : ∀ k : Nat, k ≤ 31 → ∃ b : Nat, b < 2 ^ k ∧ bitsI q k = nI b ∧ ∀ j, j < k → b / 2 ^ j % 2 = (if q j = true then 1 else 0)
  | 0, _ => ⟨0, by decide, nI_0.symm, fun j h => absurd h (Nat.not_lt_zero j)⟩
  | k + 1, h => by
    obtain ⟨b, hb, e, hj⟩ := bits_nat2 q k (by omega)
    have hp : 2 ^ (k + 1) = 2 ^ k + 2 ^ k := by rw [Nat.pow_succ]; omega
    have hpos : 0 < 2 ^ k := Nat.two_pow_pos k
    cases hq : q k with
    | true =>
      refine ⟨b + 2 ^ k, by omega, by rw [bitsI_t hq, e]; exact or_bit (by omega) hb, fun j hjk => ?_⟩
      by_cases hjk2 : j = k
      · subst hjk2
        rw [hq, if_pos rfl, Nat.add_div_right _ hpos, Nat.div_eq_of_lt hb]
      · have hlt : j < k := by omega
        rw [← hj j hlt]
        have e2 : 2 ^ k = 2 ^ j * (2 * 2 ^ (k - j - 1)) := by
          rw [show k = j + (1 + (k - j - 1)) by omega, Nat.pow_add, Nat.pow_add, show j + (1 + (k - j - 1)) - j - 1 = k - j - 1 by omega]
        rw [e2, Nat.add_mul_div_left _ _ (Nat.two_pow_pos j), Nat.add_mul_mod_self_left]
    | false =>
      refine ⟨b, by omega, by rw [bitsI_f hq, e], fun j hjk => ?_⟩
      by_cases hjk2 : j = k
      · subst hjk2
        rw [hq, Nat.div_eq_of_lt hb]; rfl
      · exact hj j (by omega)
theorem shr_k {b k : Nat} (hb : b < 2 ^ 31) (hk : k < 31) : nI b >>> (nI k &&& 31) = nI (b / 2 ^ k) := pk_shrN hb _ k (s_l k (by omega))
theorem shl_1 {k : Nat} (hk : k < 30) : ((1 : Int32) <<< (nI k &&& 31)) = nI (2 ^ k) := by
  have := pk_shlN (n := 1) (nI k &&& 31) k (s_l k (by omega)) (by
    have : 2 ^ k ≤ 2 ^ 30 := Nat.pow_le_pow_right (by decide) (by omega)
    omega)
  rw [Nat.one_mul] at this
  exact this
theorem shl_ne {k : Nat} (hk : k < 30) : ¬ ((1 : Int32) <<< (nI k &&& 31)) = 0 := by
  have h2 : 2 ^ k ≤ 2 ^ 30 := Nat.pow_le_pow_right (by decide) (by omega)
  have h3 : 0 < 2 ^ k := Nat.two_pow_pos k
  rw [shl_1 hk]
  exact nI_ne0 h3 (by omega)
theorem first_q {b k : Nat} (hb : b < 1024) (hk : k < 10) (h0 : b / 2 ^ k % 2 = 0) : xFirst (nI k) (nI b) = mFirst (nI k) (nI b) := by
  unfold xFirst mFirst
  rw [nI_1, shr_k (by omega) (by omega), shr_k (by omega) (by omega)]
  have h1 : b / 2 ^ (k + 1) = b / 2 ^ k / 2 := by rw [Nat.pow_succ, Nat.div_div_eq_div_mul]
  have h2 : b / 2 ^ k ≤ b := Nat.div_le_self _ _
  rw [h1]
  refine decide_eq_decide.mpr ?_
  rw [show (0 : Int32) = nI 0 from rfl, nI_eq (by omega) (by decide), nI_eq (by omega) (by decide)]
  omega
theorem ask_q {b k : Nat} (hb : b < 1024) (hk : k < 10) : xAsk (nI k) (nI b) = mAsk (nI k) (nI b) := by
  have h2 : 2 ^ k ≤ 2 ^ 9 := Nat.pow_le_pow_right (by decide) (by omega)
  have h3 : 0 < 2 ^ k := Nat.two_pow_pos k
  unfold xAsk mAsk
  rw [shl_1 (by omega), pk_rem (by omega) h3 (by omega)]
  have e1 : nI (2 ^ k) - 1 = nI (2 ^ k - 1) := pk_sub (b := 1) h3
  rw [e1, pk_andN (by omega) k (pk_tn (by omega))]
theorem crowd_q {b : Nat} (hb : b < 1024) : xCrowd (nI b) = mCrowd (nI b) := co_dec (N := 1024) (P := fun b => xCrowd (nI b) = mCrowd (nI b)) (by decide +kernel) hb
