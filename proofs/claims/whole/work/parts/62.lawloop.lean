set_option maxHeartbeats 4000000 in
set_option maxRecDepth 100000 in
theorem law_loop {p : Program} {e : Env} {s : State} {m : MethodId} {below : List Frame} {meth : Method} {c : Code} {l : Launch} {b L : Nat} {xs : Nat → Int32} (hL : L ≤ 2049) (C0 : lw_At p s m meth c b L xs) {dC : Nat → ClassId} {dI : Nat → Nat → Nat} {h1 a1 a2 a3 a4 a5 h2 b1 b2 b3 b4 b5 b6 : Nat} {cA : ClassId} {k : Nat} (hK : va_K (dC, dI) vwCl [(cA, .int)] s) : ∀ (n i : Nat), i ≤ L + 1 → L + 2 ≤ i + n → ∀ (tm : Int32) (fN fM fJ fT fC hA rA lT jA pT cF : Nat → Int32), Rel k tm fN fM fJ fT fC hA rA lT jA pT cF → ∀ (H : Heap) (locs : List Loc) (ls : Array Slot), va_P (dC, dI) vwCl (wX h1 a1 a2 a3 a4 a5 cA (nI k) tm fN fM fJ fT fC ++ wM h2 b1 b2 b3 b4 b5 b6 cA (nI k) tm hA rA lT jA pT cF) H → va_D (fun q : Nat => s.heap.size ≤ q) (wX h1 a1 a2 a3 a4 a5 cA (nI k) tm fN fM fJ fT fC ++ wM h2 b1 b2 b3 b4 b5 b6 cA (nI k) tm hA rA lT jA pT cF) → va_S (fun q : Nat => s.heap.size ≤ q) s.heap H locs → lv_has ls 4 [(0, .ref b), (1, .ref h1), (2, .ref h2), (3, .int (nI i))] → W p l e room_1 s m #[Value.ref b] below meth c H locs 13 731 (lw_Z below #[Value.ref b] s) (F0 m 28 ls []) := by
  obtain ⟨hx, hb, hr, hml, hown, hts, hX, hbl, hlocks, hgv⟩ := id C0
  have hb : c.code = cL_law := hb
  have hown : s.vm.findClass RL = some m.cls := hown
  have hts : ∀ w ∈ wsL_law, w.before #[Value.ref b] s = true := fun w h => hts w (wsL_law_in w h)
  have S : CallFix p m c cL_law 4 s #[Value.ref b] wsL_law RL := ⟨hx, hb, hml, hown, hts⟩
  have hA9 : ∀ q : Nat, s.heap.size ≤ q → (fun q : Nat => s.heap.size ≤ q) q := fun _ h => h
  have hbA : ¬ (fun q : Nat => s.heap.size ≤ q) b := Nat.not_le.mpr hbl
  intro n
  induction n with
  | zero =>
    intro i h1 h2
    exact absurd h2 (by omega)
  | succ n ih =>
    intro i hi1 hin tm fN fM fJ fT fC hA rA lT jA pT cF R H locs ls hP hD hS hl
    refine lv_iload_n hx hb dL_law_28 rfl (lv_at hl 3 rfl) ?_
    refine lv_aload_n hx hb dL_law_29 rfl (lv_at hl 0 rfl) ?_
    refine va_slen hx hb hX hbl hbA hS dL_law_30 ?_
    refine lv_iconst (v := 4) hx hb dL_law_31 (by decide) ?_
    refine lv_isub hx hb dL_law_32 ?_
    refine lv_top (x' := nI L - nI 4) rfl ?_
    have eL : (nI L - nI 4).toInt = (L : Int) - 4 := pk_sub_toInt (by omega) (by decide)
    have eI : (nI i).toInt = (i : Int) := nI_toInt (by omega)
    refine lv_icmp_gt (tgt := 424) hx hb dL_law_33 (by decide) (fun c33 => ?_) (fun c33 => ?_)
    · refine lv_iconst (v := 1) hx hb dL_law_424 (by decide) ?_
      refine va_forget (fun q hq => hS.2.2 q hq) ?_
      exact lw_ret hx hb hr hlocks dL_law_425
    · rw [toI_lt, eL, eI] at c33
      have hi : i + 4 ≤ L := by omega
      have back : ∀ (tm : Int32) (fN fM fJ fT fC hA rA lT jA pT cF : Nat → Int32), Rel k tm fN fM fJ fT fC hA rA lT jA pT cF → ∀ (H : Heap) (locs : List Loc) (ls : Array Slot), va_P (dC, dI) vwCl (wX h1 a1 a2 a3 a4 a5 cA (nI k) tm fN fM fJ fT fC ++ wM h2 b1 b2 b3 b4 b5 b6 cA (nI k) tm hA rA lT jA pT cF) H → va_D (fun q : Nat => s.heap.size ≤ q) (wX h1 a1 a2 a3 a4 a5 cA (nI k) tm fN fM fJ fT fC ++ wM h2 b1 b2 b3 b4 b5 b6 cA (nI k) tm hA rA lT jA pT cF) → va_S (fun q : Nat => s.heap.size ≤ q) s.heap H locs → lv_has ls 4 [(0, .ref b), (1, .ref h1), (2, .ref h2), (3, .int (nI i))] → W p l e room_1 s m #[Value.ref b] below meth c H locs 13 731 (lw_Z below #[Value.ref b] s) (F0 m 418 ls []) := by
        intro tm fN fM fJ fT fC hA rA lT jA pT cF R H locs ls hP hD hS hl
        refine lv_iinc (v := nI (i + 4)) (lv' := [(3, .int (nI (i + 4))), (0, .ref b), (1, .ref h1), (2, .ref h2)]) hx hb dL_law_418 hl (k := 3) rfl (nI_add i 4) (by decide) rfl (fun ls hl => ?_)
        refine lv_goto (tgt := 28) hx hb dL_law_421 (by decide) ?_
        exact ih (i + 4) (by omega) (by omega) tm fN fM fJ fT fC hA rA lT jA pT cF R _ _ ls hP hD hS (lv_sub hl [1, 2, 3, 0] rfl)
      refine lv_aload_n hx hb dL_law_36 rfl (lv_at hl 0 rfl) ?_
      refine lv_iload_n hx hb dL_law_37 rfl (lv_at hl 3 rfl) ?_
      refine va_sld hx hb hX hbl hbA hS (vp_in_nI (by omega) (by omega)) dL_law_38 ?_
      refine lv_bipush (v := 15) hx hb dL_law_39 (by decide) ?_
      refine lv_iand hx hb dL_law_41 ?_
      obtain ⟨j, hj, ej⟩ := pk_andE (xs (nI i).toNatClampNeg) (m := 15) 4 (by decide)
      refine lv_top (x' := nI j) ej ?_
      have hj : j < 16 := hj
      have hcase : j = 0 ∨ j = 1 ∨ j = 2 ∨ j = 3 ∨ j = 4 ∨ j = 5 ∨ j = 6 ∨ j = 7 ∨ j = 8 ∨ j = 9 ∨ j = 10 ∨ j = 11 ∨ j = 12 ∨ j = 13 ∨ j = 14 ∨ j = 15 := by omega
      rcases hcase with rfl | rfl | rfl | rfl | rfl | rfl | rfl | rfl | rfl | rfl | rfl | rfl | rfl | rfl | rfl | rfl
      · refine lv_tableIn (off := 62) (tgt := 104) hx hb dL_law_42 (by decide) (by decide) rfl (by decide) ?_
        exact law_tick hL C0 hi hK back tm fN fM fJ fT fC hA rA lT jA pT cF R H locs ls hP hD hS hl
      · refine lv_tableIn (off := 85) (tgt := 127) hx hb dL_law_42 (by decide) (by decide) rfl (by decide) ?_
        exact law_hello hL C0 hi hK back tm fN fM fJ fT fC hA rA lT jA pT cF R H locs ls hP hD hS hl
      · refine lv_tableIn (off := 108) (tgt := 150) hx hb dL_law_42 (by decide) (by decide) rfl (by decide) ?_
        exact law_report hL C0 hi hK back tm fN fM fJ fT fC hA rA lT jA pT cF R H locs ls hP hD hS hl
      · refine lv_tableIn (off := 131) (tgt := 173) hx hb dL_law_42 (by decide) (by decide) rfl (by decide) ?_
        exact law_leave hL C0 hi hK back tm fN fM fJ fT fC hA rA lT jA pT cF R H locs ls hP hD hS hl
      · refine lv_tableIn (off := 154) (tgt := 196) hx hb dL_law_42 (by decide) (by decide) rfl (by decide) ?_
        exact law_join hL C0 hi hK back tm fN fM fJ fT fC hA rA lT jA pT cF R H locs ls hP hD hS hl
      · refine lv_tableIn (off := 197) (tgt := 239) hx hb dL_law_42 (by decide) (by decide) rfl (by decide) ?_
        exact law_prune hL C0 hi hK back tm fN fM fJ fT fC hA rA lT jA pT cF R H locs ls hP hD hS hl
      · refine lv_tableIn (off := 230) (tgt := 272) hx hb dL_law_42 (by decide) (by decide) rfl (by decide) ?_
        exact law_forget hL C0 hi hK back tm fN fM fJ fT fC hA rA lT jA pT cF R H locs ls hP hD hS hl
      · refine lv_tableIn (off := 241) (tgt := 283) hx hb dL_law_42 (by decide) (by decide) rfl (by decide) ?_
        exact law_joined hL C0 hi hK back tm fN fM fJ fT fC hA rA lT jA pT cF R H locs ls hP hD hS hl
      · refine lv_tableIn (off := 274) (tgt := 316) hx hb dL_law_42 (by decide) (by decide) rfl (by decide) ?_
        exact law_cut hL C0 hi hK back tm fN fM fJ fT fC hA rA lT jA pT cF R H locs ls hP hD hS hl
      · refine lv_tableIn (off := 307) (tgt := 349) hx hb dL_law_42 (by decide) (by decide) rfl (by decide) ?_
        exact law_members hL C0 hi hK back tm fN fM fJ fT fC hA rA lT jA pT cF R H locs ls hP hD hS hl
      · refine lv_tableIn (off := 330) (tgt := 372) hx hb dL_law_42 (by decide) (by decide) rfl (by decide) ?_
        exact law_goes hL C0 hi hK back tm fN fM fJ fT fC hA rA lT jA pT cF R H locs ls hP hD hS hl
      · refine lv_tableIn (off := 353) (tgt := 395) hx hb dL_law_42 (by decide) (by decide) rfl (by decide) ?_
        exact law_look hL C0 hi hK back tm fN fM fJ fT fC hA rA lT jA pT cF R H locs ls hP hD hS hl
      · refine lv_tableOut (tgt := 418) hx hb dL_law_42 (Or.inr (by decide)) (by decide) ?_
        exact back tm fN fM fJ fT fC hA rA lT jA pT cF R H locs ls hP hD hS hl
      · refine lv_tableOut (tgt := 418) hx hb dL_law_42 (Or.inr (by decide)) (by decide) ?_
        exact back tm fN fM fJ fT fC hA rA lT jA pT cF R H locs ls hP hD hS hl
      · refine lv_tableOut (tgt := 418) hx hb dL_law_42 (Or.inr (by decide)) (by decide) ?_
        exact back tm fN fM fJ fT fC hA rA lT jA pT cF R H locs ls hP hD hS hl
      · refine lv_tableOut (tgt := 418) hx hb dL_law_42 (Or.inr (by decide)) (by decide) ?_
        exact back tm fN fM fJ fT fC hA rA lT jA pT cF R H locs ls hP hD hS hl
set_option maxHeartbeats 4000000 in
set_option maxRecDepth 100000 in
theorem whole_start {p : Program} {e : Env} {s : State} {m : MethodId} {below : List Frame} {meth : Method} {c : Code} (l : Launch) {b L : Nat} {xs : Nat → Int32} (hL : L ≤ 2049) (C0 : lw_At p s m meth c b L xs) : W p l e room_1 s m #[Value.ref b] below meth c s.heap [] 0 0 (lw_Z below #[Value.ref b] s) (entryFrame m ([Value.ref b] : List Value).toArray 4) := by
  obtain ⟨hx, hb, hr, hml, hown, hts, hX, hbl, hlocks, hgv⟩ := id C0
  have hb : c.code = cL_law := hb
  have hown : s.vm.findClass RL = some m.cls := hown
  have hts : ∀ w ∈ wsL_law, w.before #[Value.ref b] s = true := fun w h => hts w (wsL_law_in w h)
  have S : CallFix p m c cL_law 4 s #[Value.ref b] wsL_law RL := ⟨hx, hb, hml, hown, hts⟩
  have hA9 : ∀ q : Nat, s.heap.size ≤ q → (fun q : Nat => s.heap.size ≤ q) q := fun _ h => h
  have hbA : ¬ (fun q : Nat => s.heap.size ≤ q) b := Nat.not_le.mpr hbl
  obtain ⟨c0, iS0, hKn0⟩ := u_known (C := RX0) (T := TX0) (N := 7) (n := 7) hts inlX0 (hts (.instantiable RX0 7) (by decide +kernel))
  obtain ⟨c1, iS1, hKn1⟩ := u_known (C := RX1) (T := TX1) (N := 8) (n := 8) hts inlX1 (hts (.instantiable RX1 8) (by decide +kernel))
  obtain ⟨dC, dI, hKc⟩ : ∃ (dC : Nat → ClassId) (dI : Nat → Nat → Nat), ∀ (k : Nat) (q : vw_C), vwCl[k]? = some q → u_Kn s q.1 q.2.1 q.2.2 (dC k) (dI k) := by
    refine ⟨fun k => if k = 0 then c0 else c1, fun k => if k = 0 then iS0 else iS1, ?_⟩
    intro k q hq
    match k, hq with
    | 0, hq => cases hq; exact hKn0
    | 1, hq => cases hq; exact hKn1
    | k + 2, hq => simp [vwCl] at hq
  have hS : va_S (fun q : Nat => s.heap.size ≤ q) s.heap s.heap [] := va_S.rf
  have hK : va_K (dC, dI) vwCl [] s := ⟨hKc, fun k q h => by simp at h⟩
  have hP : va_P (dC, dI) vwCl [] s.heap := fun k q h => by simp at h
  have hD : va_D (fun q : Nat => s.heap.size ≤ q) [] := ⟨fun i j p q h => by simp at h, fun k q h => by simp at h⟩
  have hl := lv_entry ([.ref b]) (n := 4) (Nat.le_of_ble_eq_true rfl)
  rw [lg_entry_eq]
  generalize (lg_sl ([.ref b]) ++ List.replicate (4 - (lg_sl ([.ref b])).length) Slot.unset).toArray = ls at hl ⊢
  have hl : lv_has ls 4 [(0, .ref b)] := hl
  have hL31 : L < 2 ^ 31 := by omega
  obtain ⟨v0, ev0⟩ : ∃ y : Int32, y = (if 0 < L then xs 0 else 0) := ⟨_, rfl⟩
  obtain ⟨k, hk, ek1, ek2⟩ := me_of v0
  refine va_new (ci := 0) (fs := [.int 0, .int 0, .null, .null, .null, .null, .null]) (C := RX0) (T := TX0) (N := 7) hx hb hts inlX0 tyX0 tyX0_ok hown (hts (.classLink RL 7 RX0) (by decide +kernel)) (hts (.instantiable RX0 7) (by decide +kernel)) (hts (.initialized RX0) (by decide +kernel)) hK hP hD hS hA9 rfl (fun j hj => by rcases (show j = 0 ∨ j = 1 ∨ j = 2 ∨ j = 3 ∨ j = 4 ∨ j = 5 ∨ j = 6 by omega) with rfl | rfl | rfl | rfl | rfl | rfl | rfl <;> rfl) (Nat.le_of_ble_eq_true rfl) (Nat.le_of_ble_eq_true rfl) dL_law_0 (fun h1 H hP hD hS => ?_)
  have hP : va_P (dC, dI) vwCl [(h1, .inr (0, [.int 0, .int 0, .null, .null, .null, .null, .null]))] H := hP
  have hD : va_D (fun q : Nat => s.heap.size ≤ q) [(h1, .inr (0, [.int 0, .int 0, .null, .null, .null, .null, .null]))] := hD
  refine W.widen (k := 1) (n := 7) (Nat.le_of_ble_eq_true rfl) (Nat.le_of_ble_eq_true rfl) ?_
  refine lv_dup hx hb dL_law_3 rfl ?_
  refine lv_aload_n hx hb dL_law_4 rfl (lv_at hl 0 rfl) ?_
  refine lv_iconst (v := 0) hx hb dL_law_5 (by decide) ?_
  refine W.callR (W.runS (As := [.ref b, .int 0]) (rest := [.ref h1, .ref h1]) S (c_L_cell l b L xs hL31) (va_cwS 2 hts gL_law_L_cell rfl rfl rfl hd_L_cell ⟨Nat.le_of_ble_eq_true rfl, Nat.le_of_ble_eq_true rfl⟩) ⟨fun a U g mk q => ⟨q.1, va_X.moved (u := U) (U := U.calling g mk a) (Vm.Alike.refl U.vm) q.2⟩, fun U hU hW => ⟨rfl, by show va_X b L xs U U.heap; rw [hU]; exact va_X.moved hW.alike (va_X.kept hX (hS.2.1 b hbl hbA))⟩⟩ rfl rfl hl.1 rfl (lv_room (Nat.le_of_ble_eq_true rfl)) dL_law_6 ⟨Nat.le_of_ble_eq_true rfl, Nat.le_of_ble_eq_true rfl⟩) ?_
  refine lv_top (x' := v0) ev0.symm ?_
  have hPc := hP.sub (ws' := [(h1, .inr (0, [.int 0, .int 0, .null, .null, .null, .null, .null]))]) [0] rfl
  have hDc := hD.sub (ws' := [(h1, .inr (0, [.int 0, .int 0, .null, .null, .null, .null, .null]))]) [0] (by decide) rfl
  have hKc := hK.sub (tys' := []) [] rfl
  have hFc := va_free (wc := [(h1, .inr (0, [.int 0, .int 0, .null, .null, .null, .null, .null]))]) hD hS hA9 [0] rfl
  refine va_callv (va_runI (As := [.int v0]) (rest := [.ref h1]) S (c_X0_init l dC dI h1 0 0 v0 H.size) (cwI 1 hts gL_law_X0_init rfl rfl rfl (hts (.initialized RX0) (by decide +kernel)) (hts (.methodLink RL 15 yX0_init) (by decide +kernel)) (hts (.instanceMethod yX0_init) (by decide +kernel)) rfl (by decide +kernel) ⟨Nat.le_of_ble_eq_true rfl, Nat.le_of_ble_eq_true rfl⟩) ⟨fun a U g mk q => by obtain ⟨q0, q1, qP, qK, qD⟩ := q; exact ⟨q0, q1, qP, va_K.moved (u := U) (U := U.calling g mk a) (Vm.Alike.refl U.vm) qK, qD⟩, fun U hU hW => ⟨rfl, by rw [hU], by rw [hU]; exact hPc, va_K.moved hW.alike hKc, hDc.weaken (fun _ _ _ _ => trivial)⟩⟩ rfl rfl hl.1 rfl (lv_room (Nat.le_of_ble_eq_true rfl)) dL_law_9 ⟨Nat.le_of_ble_eq_true rfl, Nat.le_of_ble_eq_true rfl⟩) hS (fun q _ h => hFc q h) hFc (fun u t H1 locs ht hvm hw hB hz1 hk1 hS => ?_)
  obtain ⟨a1, a2, a3, a4, a5, cA, hP1, hK1, hD1⟩ := hB
  rw [ht] at hP1
  have hK1 := va_K.moved hvm.symm hK1
  obtain ⟨hP, hD⟩ := va_join (wr := []) (w1 := wX h1 a1 a2 a3 a4 a5 cA (xMe0 v0) 0 (fun _ => 0) (fun _ => 0) (fun _ => 0) (fun _ => 0) (fun _ => 0)) hP hD [0] [] rfl rfl (by decide) (by decide) hk1 hFc hP1 hD1
  have hK : va_K (dC, dI) vwCl [(cA, .int)] s := hK1
  generalize H1 = H at hP hS ⊢
  have hP : va_P (dC, dI) vwCl (wX h1 a1 a2 a3 a4 a5 cA (xMe0 v0) 0 (fun _ => 0) (fun _ => 0) (fun _ => 0) (fun _ => 0) (fun _ => 0)) H := hP
  have hD : va_D (fun q : Nat => s.heap.size ≤ q) (wX h1 a1 a2 a3 a4 a5 cA (xMe0 v0) 0 (fun _ => 0) (fun _ => 0) (fun _ => 0) (fun _ => 0) (fun _ => 0)) := hD
  refine W.widen (k := 6) (n := 297) (Nat.le_of_ble_eq_true rfl) (Nat.le_of_ble_eq_true rfl) ?_
  refine lv_astore_n (lv' := [(1, .ref h1), (0, .ref b)]) hx hb dL_law_12 rfl hl (by decide) rfl (fun ls hl => ?_)
  refine va_new (ci := 1) (fs := [.int 0, .int 0, .null, .null, .null, .null, .null, .null]) (C := RX1) (T := TX1) (N := 8) hx hb hts inlX1 tyX1 tyX1_ok hown (hts (.classLink RL 18 RX1) (by decide +kernel)) (hts (.instantiable RX1 8) (by decide +kernel)) (hts (.initialized RX1) (by decide +kernel)) hK hP hD hS hA9 rfl (fun j hj => by rcases (show j = 0 ∨ j = 1 ∨ j = 2 ∨ j = 3 ∨ j = 4 ∨ j = 5 ∨ j = 6 ∨ j = 7 by omega) with rfl | rfl | rfl | rfl | rfl | rfl | rfl | rfl <;> rfl) (Nat.le_of_ble_eq_true rfl) (Nat.le_of_ble_eq_true rfl) dL_law_13 (fun h2 H hP hD hS => ?_)
  have hP : va_P (dC, dI) vwCl (wX h1 a1 a2 a3 a4 a5 cA (xMe0 v0) 0 (fun _ => 0) (fun _ => 0) (fun _ => 0) (fun _ => 0) (fun _ => 0) ++ [(h2, .inr (1, [.int 0, .int 0, .null, .null, .null, .null, .null, .null]))]) H := hP
  have hD : va_D (fun q : Nat => s.heap.size ≤ q) (wX h1 a1 a2 a3 a4 a5 cA (xMe0 v0) 0 (fun _ => 0) (fun _ => 0) (fun _ => 0) (fun _ => 0) (fun _ => 0) ++ [(h2, .inr (1, [.int 0, .int 0, .null, .null, .null, .null, .null, .null]))]) := hD
  refine W.widen (k := 7) (n := 305) (Nat.le_of_ble_eq_true rfl) (Nat.le_of_ble_eq_true rfl) ?_
  refine lv_dup hx hb dL_law_16 rfl ?_
  refine lv_aload_n hx hb dL_law_17 rfl (lv_at hl 1 rfl) ?_
  refine lv_iconst (v := 0) hx hb dL_law_18 (by decide) ?_
  refine W.callR (W.runS (As := [.ref b, .int 0]) (rest := [.ref h2, .ref h2]) S (c_L_cell l b L xs hL31) (va_cwS 2 hts gL_law_L_cell rfl rfl rfl hd_L_cell ⟨Nat.le_of_ble_eq_true rfl, Nat.le_of_ble_eq_true rfl⟩) ⟨fun a U g mk q => ⟨q.1, va_X.moved (u := U) (U := U.calling g mk a) (Vm.Alike.refl U.vm) q.2⟩, fun U hU hW => ⟨rfl, by show va_X b L xs U U.heap; rw [hU]; exact va_X.moved hW.alike (va_X.kept hX (hS.2.1 b hbl hbA))⟩⟩ rfl rfl hl.1 rfl (lv_room (Nat.le_of_ble_eq_true rfl)) dL_law_19 ⟨Nat.le_of_ble_eq_true rfl, Nat.le_of_ble_eq_true rfl⟩) ?_
  refine lv_top (x' := v0) ev0.symm ?_
  have hPc := hP.sub (ws' := [(h2, .inr (1, [.int 0, .int 0, .null, .null, .null, .null, .null, .null]))]) [6] rfl
  have hDc := hD.sub (ws' := [(h2, .inr (1, [.int 0, .int 0, .null, .null, .null, .null, .null, .null]))]) [6] (by decide) rfl
  have hKc := hK.sub (tys' := []) [] rfl
  have hFc := va_free (wc := [(h2, .inr (1, [.int 0, .int 0, .null, .null, .null, .null, .null, .null]))]) hD hS hA9 [6] rfl
  refine va_callv (va_runI (As := [.int v0]) (rest := [.ref h2]) S (c_X1_init l dC dI h2 0 0 v0 H.size) (cwI 1 hts gL_law_X1_init rfl rfl rfl (hts (.initialized RX1) (by decide +kernel)) (hts (.methodLink RL 20 yX1_init) (by decide +kernel)) (hts (.instanceMethod yX1_init) (by decide +kernel)) rfl (by decide +kernel) ⟨Nat.le_of_ble_eq_true rfl, Nat.le_of_ble_eq_true rfl⟩) ⟨fun a U g mk q => by obtain ⟨q0, q1, qP, qK, qD⟩ := q; exact ⟨q0, q1, qP, va_K.moved (u := U) (U := U.calling g mk a) (Vm.Alike.refl U.vm) qK, qD⟩, fun U hU hW => ⟨rfl, by rw [hU], by rw [hU]; exact hPc, va_K.moved hW.alike hKc, hDc.weaken (fun _ _ _ _ => trivial)⟩⟩ rfl rfl hl.1 rfl (lv_room (Nat.le_of_ble_eq_true rfl)) dL_law_22 ⟨Nat.le_of_ble_eq_true rfl, Nat.le_of_ble_eq_true rfl⟩) hS (fun q _ h => hFc q h) hFc (fun u t H1 locs ht hvm hw hB hz1 hk1 hS => ?_)
  obtain ⟨b1, b2, b3, b4, b5, b6, cB, hP1, hK1, hD1⟩ := hB
  rw [ht] at hP1
  have hK1 := va_K.moved hvm.symm hK1
  have hcc : cA = cB := (int_one (hK.app hK1)).symm
  subst hcc
  obtain ⟨hP, hD⟩ := va_join (wr := wX h1 a1 a2 a3 a4 a5 cA (xMe0 v0) 0 (fun _ => 0) (fun _ => 0) (fun _ => 0) (fun _ => 0) (fun _ => 0)) (w1 := wM h2 b1 b2 b3 b4 b5 b6 cA (mMe0 v0) 0 (fillI (fun _ => 0) (-1 : Int32) 10) (fillI (fun _ => 0) (-1 : Int32) 8) (fun _ => 0) (fillI (fun _ => 0) (-1 : Int32) 136) (fun _ => 0) (fillI (fun _ => 0) (-1 : Int32) 128)) hP hD [6] [0, 1, 2, 3, 4, 5] rfl rfl (by decide) (by decide) hk1 hFc hP1 hD1
  generalize H1 = H at hP hS ⊢
  rw [ek1, ek2] at hP hD
  refine W.widen (k := 13) (n := 731) (Nat.le_of_ble_eq_true rfl) (Nat.le_of_ble_eq_true rfl) ?_
  refine lv_astore_n (lv' := [(2, .ref h2), (1, .ref h1), (0, .ref b)]) hx hb dL_law_25 rfl hl (by decide) rfl (fun ls hl => ?_)
  refine lv_iconst (v := 1) hx hb dL_law_26 (by decide) ?_
  refine lv_istore_n (lv' := [(3, .int 1), (2, .ref h2), (1, .ref h1), (0, .ref b)]) hx hb dL_law_27 rfl hl (by decide) rfl (fun ls hl => ?_)
  exact law_loop hL C0 hK (L + 1) 1 (by omega) (by omega) 0 (fun _ => 0) (fun _ => 0) (fun _ => 0) (fun _ => 0) (fun _ => 0) (fillI (fun _ => 0) (-1 : Int32) 10) (fillI (fun _ => 0) (-1 : Int32) 8) (fun _ => 0) (fillI (fun _ => 0) (-1 : Int32) 136) (fun _ => 0) (fillI (fun _ => 0) (-1 : Int32) 128) (R_start hk) _ _ ls hP hD hS (lv_sub hl [3, 2, 1, 0] rfl)
