set_option maxHeartbeats 4000000 in
set_option maxRecDepth 100000 in
theorem law_tick {p : Program} {e : Env} {s : State} {m : MethodId} {below : List Frame} {meth : Method} {c : Code} {l : Launch} {b L : Nat} {xs : Nat → Int32} (hL : L ≤ 2049) (C0 : lw_At p s m meth c b L xs) {dC : Nat → ClassId} {dI : Nat → Nat → Nat} {h1 a1 a2 a3 a4 a5 h2 b1 b2 b3 b4 b5 b6 : Nat} {cA : ClassId} {k i : Nat} (hi : i + 4 ≤ L) (hK : va_K (dC, dI) vwCl [(cA, .int)] s) (back : ∀ (tm : Int32) (fN fM fJ fT fC hA rA lT jA pT cF : Nat → Int32), Rel k tm fN fM fJ fT fC hA rA lT jA pT cF → ∀ (H : Heap) (locs : List Loc) (ls : Array Slot), va_P (dC, dI) vwCl (wX h1 a1 a2 a3 a4 a5 cA (nI k) tm fN fM fJ fT fC ++ wM h2 b1 b2 b3 b4 b5 b6 cA (nI k) tm hA rA lT jA pT cF) H → va_D (fun q : Nat => s.heap.size ≤ q) (wX h1 a1 a2 a3 a4 a5 cA (nI k) tm fN fM fJ fT fC ++ wM h2 b1 b2 b3 b4 b5 b6 cA (nI k) tm hA rA lT jA pT cF) → va_S (fun q : Nat => s.heap.size ≤ q) s.heap H locs → lv_has ls 4 [(0, .ref b), (1, .ref h1), (2, .ref h2), (3, .int (nI i))] → W p l e room_1 s m #[Value.ref b] below meth c H locs 13 731 (lw_Z below #[Value.ref b] s) (F0 m 418 ls [])) (tm : Int32) (fN fM fJ fT fC hA rA lT jA pT cF : Nat → Int32) (R : Rel k tm fN fM fJ fT fC hA rA lT jA pT cF) (H : Heap) (locs : List Loc) (ls : Array Slot) (hP : va_P (dC, dI) vwCl (wX h1 a1 a2 a3 a4 a5 cA (nI k) tm fN fM fJ fT fC ++ wM h2 b1 b2 b3 b4 b5 b6 cA (nI k) tm hA rA lT jA pT cF) H) (hD : va_D (fun q : Nat => s.heap.size ≤ q) (wX h1 a1 a2 a3 a4 a5 cA (nI k) tm fN fM fJ fT fC ++ wM h2 b1 b2 b3 b4 b5 b6 cA (nI k) tm hA rA lT jA pT cF)) (hS : va_S (fun q : Nat => s.heap.size ≤ q) s.heap H locs) (hl : lv_has ls 4 [(0, .ref b), (1, .ref h1), (2, .ref h2), (3, .int (nI i))]) : W p l e room_1 s m #[Value.ref b] below meth c H locs 13 731 (lw_Z below #[Value.ref b] s) (F0 m 104 ls []) := by
  obtain ⟨hx, hb, hr, hml, hown, hts, hX, hbl, hlocks, hgv⟩ := id C0
  have hb : c.code = cL_law := hb
  have hown : s.vm.findClass RL = some m.cls := hown
  have hts : ∀ w ∈ wsL_law, w.before #[Value.ref b] s = true := fun w h => hts w (wsL_law_in w h)
  have S : CallFix p m c cL_law 4 s #[Value.ref b] wsL_law RL := ⟨hx, hb, hml, hown, hts⟩
  have hA9 : ∀ q : Nat, s.heap.size ≤ q → (fun q : Nat => s.heap.size ≤ q) q := fun _ h => h
  have hbA : ¬ (fun q : Nat => s.heap.size ≤ q) b := Nat.not_le.mpr hbl
  obtain ⟨v1, ev1⟩ : ∃ y : Int32, y = xs (i + 1) := ⟨_, rfl⟩
  refine lv_aload_n hx hb dL_law_104 rfl (lv_at hl 1 rfl) ?_
  refine lv_aload_n hx hb dL_law_105 rfl (lv_at hl 0 rfl) ?_
  refine lv_iload_n hx hb dL_law_106 rfl (lv_at hl 3 rfl) ?_
  refine lv_iconst (v := 1) hx hb dL_law_107 (by decide) ?_
  refine lv_iadd hx hb dL_law_108 ?_
  refine lv_top (x' := nI (i + 1)) (nI_add i 1) ?_
  refine va_sld hx hb hX hbl hbA hS (vp_in_nI (by omega) (by omega)) dL_law_109 ?_
  refine lv_top (x' := v1) (by rw [ev1, nI_clamp (by omega)]) ?_
  refine wr_Vi (As := [.int v1]) (rest := []) (ci := 0) (qc := (RX0, TX0, 7)) (wr := wM h2 b1 b2 b3 b4 b5 b6 cA (nI k) tm hA rA lT jA pT cF) (A0 := (fun q : Nat => s.heap.size ≤ q)) S (c_X0_tick l dC dI h1 a1 a2 a3 a4 a5 cA (nI k) tm fN fM fJ fT fC v1 _) gL_law_X0_tick rfl ⟨rfl, rfl⟩ hd_X0_tick ⟨Nat.le_of_ble_eq_true rfl, Nat.le_of_ble_eq_true rfl⟩ hK hP hD hS hA9 [0, 1, 2, 3, 4, 5] [6, 7, 8, 9, 10, 11, 12] rfl rfl (by decide) (by decide) (by decide) rfl rfl rfl rfl hl.1 rfl (Nat.le_of_ble_eq_true rfl) dL_law_110 ⟨Nat.le_of_ble_eq_true rfl, Nat.le_of_ble_eq_true rfl⟩ (fun H locs hP hD hS => ?_)
  have hP : va_P (dC, dI) vwCl (wM h2 b1 b2 b3 b4 b5 b6 cA (nI k) tm hA rA lT jA pT cF ++ wX h1 a1 a2 a3 a4 a5 cA (nI k) (xTickT tm v1) fN fM fJ fT fC) H := hP
  have hD : va_D (fun q : Nat => s.heap.size ≤ q) (wM h2 b1 b2 b3 b4 b5 b6 cA (nI k) tm hA rA lT jA pT cF ++ wX h1 a1 a2 a3 a4 a5 cA (nI k) (xTickT tm v1) fN fM fJ fT fC) := hD
  refine lv_aload_n hx hb dL_law_113 rfl (lv_at hl 2 rfl) ?_
  refine lv_aload_n hx hb dL_law_114 rfl (lv_at hl 0 rfl) ?_
  refine lv_iload_n hx hb dL_law_115 rfl (lv_at hl 3 rfl) ?_
  refine lv_iconst (v := 1) hx hb dL_law_116 (by decide) ?_
  refine lv_iadd hx hb dL_law_117 ?_
  refine lv_top (x' := nI (i + 1)) (nI_add i 1) ?_
  refine va_sld hx hb hX hbl hbA hS (vp_in_nI (by omega) (by omega)) dL_law_118 ?_
  refine lv_top (x' := v1) (by rw [ev1, nI_clamp (by omega)]) ?_
  refine wr_Vi (As := [.int v1]) (rest := [.int (xTickR tm v1)]) (ci := 1) (qc := (RX1, TX1, 8)) (wr := wX h1 a1 a2 a3 a4 a5 cA (nI k) (xTickT tm v1) fN fM fJ fT fC) (A0 := (fun q : Nat => s.heap.size ≤ q)) S (c_X1_tick l dC dI h2 b1 b2 b3 b4 b5 b6 cA (nI k) tm hA rA lT jA pT cF v1 _) gL_law_X1_tick rfl ⟨rfl, rfl⟩ hd_X1_tick ⟨Nat.le_of_ble_eq_true rfl, Nat.le_of_ble_eq_true rfl⟩ hK hP hD hS hA9 [0, 1, 2, 3, 4, 5, 6] [7, 8, 9, 10, 11, 12] rfl rfl (by decide) (by decide) (by decide) rfl rfl rfl rfl hl.1 rfl (Nat.le_of_ble_eq_true rfl) dL_law_119 ⟨Nat.le_of_ble_eq_true rfl, Nat.le_of_ble_eq_true rfl⟩ (fun H locs hP hD hS => ?_)
  have hP : va_P (dC, dI) vwCl (wX h1 a1 a2 a3 a4 a5 cA (nI k) (xTickT tm v1) fN fM fJ fT fC ++ wM h2 b1 b2 b3 b4 b5 b6 cA (nI k) (xTickT tm v1) hA rA lT jA pT cF) H := hP
  have hD : va_D (fun q : Nat => s.heap.size ≤ q) (wX h1 a1 a2 a3 a4 a5 cA (nI k) (xTickT tm v1) fN fM fJ fT fC ++ wM h2 b1 b2 b3 b4 b5 b6 cA (nI k) (xTickT tm v1) hA rA lT jA pT cF) := hD
  refine lv_icmp_eq (tgt := 418) hx hb dL_law_122 (by decide) (fun c9 => ?_) (fun c9 => ?_)
  · exact back (xTickT tm v1) fN fM fJ fT fC hA rA lT jA pT cF (R_tick R v1) _ _ ls hP hD hS hl
  · exact absurd (show xTickR tm v1 = xTickR tm v1 from rfl) c9
set_option maxHeartbeats 4000000 in
set_option maxRecDepth 100000 in
theorem law_hello {p : Program} {e : Env} {s : State} {m : MethodId} {below : List Frame} {meth : Method} {c : Code} {l : Launch} {b L : Nat} {xs : Nat → Int32} (hL : L ≤ 2049) (C0 : lw_At p s m meth c b L xs) {dC : Nat → ClassId} {dI : Nat → Nat → Nat} {h1 a1 a2 a3 a4 a5 h2 b1 b2 b3 b4 b5 b6 : Nat} {cA : ClassId} {k i : Nat} (hi : i + 4 ≤ L) (hK : va_K (dC, dI) vwCl [(cA, .int)] s) (back : ∀ (tm : Int32) (fN fM fJ fT fC hA rA lT jA pT cF : Nat → Int32), Rel k tm fN fM fJ fT fC hA rA lT jA pT cF → ∀ (H : Heap) (locs : List Loc) (ls : Array Slot), va_P (dC, dI) vwCl (wX h1 a1 a2 a3 a4 a5 cA (nI k) tm fN fM fJ fT fC ++ wM h2 b1 b2 b3 b4 b5 b6 cA (nI k) tm hA rA lT jA pT cF) H → va_D (fun q : Nat => s.heap.size ≤ q) (wX h1 a1 a2 a3 a4 a5 cA (nI k) tm fN fM fJ fT fC ++ wM h2 b1 b2 b3 b4 b5 b6 cA (nI k) tm hA rA lT jA pT cF) → va_S (fun q : Nat => s.heap.size ≤ q) s.heap H locs → lv_has ls 4 [(0, .ref b), (1, .ref h1), (2, .ref h2), (3, .int (nI i))] → W p l e room_1 s m #[Value.ref b] below meth c H locs 13 731 (lw_Z below #[Value.ref b] s) (F0 m 418 ls [])) (tm : Int32) (fN fM fJ fT fC hA rA lT jA pT cF : Nat → Int32) (R : Rel k tm fN fM fJ fT fC hA rA lT jA pT cF) (H : Heap) (locs : List Loc) (ls : Array Slot) (hP : va_P (dC, dI) vwCl (wX h1 a1 a2 a3 a4 a5 cA (nI k) tm fN fM fJ fT fC ++ wM h2 b1 b2 b3 b4 b5 b6 cA (nI k) tm hA rA lT jA pT cF) H) (hD : va_D (fun q : Nat => s.heap.size ≤ q) (wX h1 a1 a2 a3 a4 a5 cA (nI k) tm fN fM fJ fT fC ++ wM h2 b1 b2 b3 b4 b5 b6 cA (nI k) tm hA rA lT jA pT cF)) (hS : va_S (fun q : Nat => s.heap.size ≤ q) s.heap H locs) (hl : lv_has ls 4 [(0, .ref b), (1, .ref h1), (2, .ref h2), (3, .int (nI i))]) : W p l e room_1 s m #[Value.ref b] below meth c H locs 13 731 (lw_Z below #[Value.ref b] s) (F0 m 127 ls []) := by
  obtain ⟨hx, hb, hr, hml, hown, hts, hX, hbl, hlocks, hgv⟩ := id C0
  have hb : c.code = cL_law := hb
  have hown : s.vm.findClass RL = some m.cls := hown
  have hts : ∀ w ∈ wsL_law, w.before #[Value.ref b] s = true := fun w h => hts w (wsL_law_in w h)
  have S : CallFix p m c cL_law 4 s #[Value.ref b] wsL_law RL := ⟨hx, hb, hml, hown, hts⟩
  have hA9 : ∀ q : Nat, s.heap.size ≤ q → (fun q : Nat => s.heap.size ≤ q) q := fun _ h => h
  have hbA : ¬ (fun q : Nat => s.heap.size ≤ q) b := Nat.not_le.mpr hbl
  obtain ⟨v1, ev1⟩ : ∃ y : Int32, y = xs (i + 1) := ⟨_, rfl⟩
  refine lv_aload_n hx hb dL_law_127 rfl (lv_at hl 1 rfl) ?_
  refine lv_aload_n hx hb dL_law_128 rfl (lv_at hl 0 rfl) ?_
  refine lv_iload_n hx hb dL_law_129 rfl (lv_at hl 3 rfl) ?_
  refine lv_iconst (v := 1) hx hb dL_law_130 (by decide) ?_
  refine lv_iadd hx hb dL_law_131 ?_
  refine lv_top (x' := nI (i + 1)) (nI_add i 1) ?_
  refine va_sld hx hb hX hbl hbA hS (vp_in_nI (by omega) (by omega)) dL_law_132 ?_
  refine lv_top (x' := v1) (by rw [ev1, nI_clamp (by omega)]) ?_
  refine wr_Vi (As := [.int v1]) (rest := []) (ci := 0) (qc := (RX0, TX0, 7)) (wr := wM h2 b1 b2 b3 b4 b5 b6 cA (nI k) tm hA rA lT jA pT cF) (A0 := (fun q : Nat => s.heap.size ≤ q)) S (c_X0_hello l dC dI h1 a1 a2 a3 a4 a5 cA (nI k) tm fN fM fJ fT fC v1 _) gL_law_X0_hello rfl ⟨rfl, rfl⟩ hd_X0_hello ⟨Nat.le_of_ble_eq_true rfl, Nat.le_of_ble_eq_true rfl⟩ hK hP hD hS hA9 [0, 1, 2, 3, 4, 5] [6, 7, 8, 9, 10, 11, 12] rfl rfl (by decide) (by decide) (by decide) rfl rfl rfl rfl hl.1 rfl (Nat.le_of_ble_eq_true rfl) dL_law_133 ⟨Nat.le_of_ble_eq_true rfl, Nat.le_of_ble_eq_true rfl⟩ (fun H locs hP hD hS => ?_)
  have hP : va_P (dC, dI) vwCl (wM h2 b1 b2 b3 b4 b5 b6 cA (nI k) tm hA rA lT jA pT cF ++ wX h1 a1 a2 a3 a4 a5 cA (nI k) tm (xHeN ((nI k)) tm fN v1) fM fJ fT fC) H := hP
  have hD : va_D (fun q : Nat => s.heap.size ≤ q) (wM h2 b1 b2 b3 b4 b5 b6 cA (nI k) tm hA rA lT jA pT cF ++ wX h1 a1 a2 a3 a4 a5 cA (nI k) tm (xHeN ((nI k)) tm fN v1) fM fJ fT fC) := hD
  refine lv_aload_n hx hb dL_law_136 rfl (lv_at hl 2 rfl) ?_
  refine lv_aload_n hx hb dL_law_137 rfl (lv_at hl 0 rfl) ?_
  refine lv_iload_n hx hb dL_law_138 rfl (lv_at hl 3 rfl) ?_
  refine lv_iconst (v := 1) hx hb dL_law_139 (by decide) ?_
  refine lv_iadd hx hb dL_law_140 ?_
  refine lv_top (x' := nI (i + 1)) (nI_add i 1) ?_
  refine va_sld hx hb hX hbl hbA hS (vp_in_nI (by omega) (by omega)) dL_law_141 ?_
  refine lv_top (x' := v1) (by rw [ev1, nI_clamp (by omega)]) ?_
  refine wr_Vi (As := [.int v1]) (rest := [.int (bI (!xHeB (nI k) v1))]) (ci := 1) (qc := (RX1, TX1, 8)) (wr := wX h1 a1 a2 a3 a4 a5 cA (nI k) tm (xHeN ((nI k)) tm fN v1) fM fJ fT fC) (A0 := (fun q : Nat => s.heap.size ≤ q)) S (c_X1_hello l dC dI h2 b1 b2 b3 b4 b5 b6 cA (nI k) tm hA rA lT jA pT cF v1 _) gL_law_X1_hello rfl ⟨rfl, rfl⟩ hd_X1_hello ⟨Nat.le_of_ble_eq_true rfl, Nat.le_of_ble_eq_true rfl⟩ hK hP hD hS hA9 [0, 1, 2, 3, 4, 5, 6] [7, 8, 9, 10, 11, 12] rfl rfl (by decide) (by decide) (by decide) rfl rfl rfl rfl hl.1 rfl (Nat.le_of_ble_eq_true rfl) dL_law_142 ⟨Nat.le_of_ble_eq_true rfl, Nat.le_of_ble_eq_true rfl⟩ (fun H locs hP hD hS => ?_)
  have hP : va_P (dC, dI) vwCl (wX h1 a1 a2 a3 a4 a5 cA (nI k) tm (xHeN ((nI k)) tm fN v1) fM fJ fT fC ++ wM h2 b1 b2 b3 b4 b5 b6 cA (nI k) tm (mHeA ((nI k)) tm hA v1) rA lT jA pT cF) H := hP
  have hD : va_D (fun q : Nat => s.heap.size ≤ q) (wX h1 a1 a2 a3 a4 a5 cA (nI k) tm (xHeN ((nI k)) tm fN v1) fM fJ fT fC ++ wM h2 b1 b2 b3 b4 b5 b6 cA (nI k) tm (mHeA ((nI k)) tm hA v1) rA lT jA pT cF) := hD
  refine lv_icmp_eq (tgt := 418) hx hb dL_law_145 (by decide) (fun c9 => ?_) (fun c9 => ?_)
  · exact back tm (xHeN ((nI k)) tm fN v1) fM fJ fT fC (mHeA ((nI k)) tm hA v1) rA lT jA pT cF (R_hello R v1) _ _ ls hP hD hS hl
  · exact absurd (show bI (!xHeB (nI k) v1) = bI (!mHeB (nI k) v1) from by rw [he_eq]) c9
set_option maxHeartbeats 4000000 in
set_option maxRecDepth 100000 in
theorem law_report {p : Program} {e : Env} {s : State} {m : MethodId} {below : List Frame} {meth : Method} {c : Code} {l : Launch} {b L : Nat} {xs : Nat → Int32} (hL : L ≤ 2049) (C0 : lw_At p s m meth c b L xs) {dC : Nat → ClassId} {dI : Nat → Nat → Nat} {h1 a1 a2 a3 a4 a5 h2 b1 b2 b3 b4 b5 b6 : Nat} {cA : ClassId} {k i : Nat} (hi : i + 4 ≤ L) (hK : va_K (dC, dI) vwCl [(cA, .int)] s) (back : ∀ (tm : Int32) (fN fM fJ fT fC hA rA lT jA pT cF : Nat → Int32), Rel k tm fN fM fJ fT fC hA rA lT jA pT cF → ∀ (H : Heap) (locs : List Loc) (ls : Array Slot), va_P (dC, dI) vwCl (wX h1 a1 a2 a3 a4 a5 cA (nI k) tm fN fM fJ fT fC ++ wM h2 b1 b2 b3 b4 b5 b6 cA (nI k) tm hA rA lT jA pT cF) H → va_D (fun q : Nat => s.heap.size ≤ q) (wX h1 a1 a2 a3 a4 a5 cA (nI k) tm fN fM fJ fT fC ++ wM h2 b1 b2 b3 b4 b5 b6 cA (nI k) tm hA rA lT jA pT cF) → va_S (fun q : Nat => s.heap.size ≤ q) s.heap H locs → lv_has ls 4 [(0, .ref b), (1, .ref h1), (2, .ref h2), (3, .int (nI i))] → W p l e room_1 s m #[Value.ref b] below meth c H locs 13 731 (lw_Z below #[Value.ref b] s) (F0 m 418 ls [])) (tm : Int32) (fN fM fJ fT fC hA rA lT jA pT cF : Nat → Int32) (R : Rel k tm fN fM fJ fT fC hA rA lT jA pT cF) (H : Heap) (locs : List Loc) (ls : Array Slot) (hP : va_P (dC, dI) vwCl (wX h1 a1 a2 a3 a4 a5 cA (nI k) tm fN fM fJ fT fC ++ wM h2 b1 b2 b3 b4 b5 b6 cA (nI k) tm hA rA lT jA pT cF) H) (hD : va_D (fun q : Nat => s.heap.size ≤ q) (wX h1 a1 a2 a3 a4 a5 cA (nI k) tm fN fM fJ fT fC ++ wM h2 b1 b2 b3 b4 b5 b6 cA (nI k) tm hA rA lT jA pT cF)) (hS : va_S (fun q : Nat => s.heap.size ≤ q) s.heap H locs) (hl : lv_has ls 4 [(0, .ref b), (1, .ref h1), (2, .ref h2), (3, .int (nI i))]) : W p l e room_1 s m #[Value.ref b] below meth c H locs 13 731 (lw_Z below #[Value.ref b] s) (F0 m 150 ls []) := by
  obtain ⟨hx, hb, hr, hml, hown, hts, hX, hbl, hlocks, hgv⟩ := id C0
  have hb : c.code = cL_law := hb
  have hown : s.vm.findClass RL = some m.cls := hown
  have hts : ∀ w ∈ wsL_law, w.before #[Value.ref b] s = true := fun w h => hts w (wsL_law_in w h)
  have S : CallFix p m c cL_law 4 s #[Value.ref b] wsL_law RL := ⟨hx, hb, hml, hown, hts⟩
  have hA9 : ∀ q : Nat, s.heap.size ≤ q → (fun q : Nat => s.heap.size ≤ q) q := fun _ h => h
  have hbA : ¬ (fun q : Nat => s.heap.size ≤ q) b := Nat.not_le.mpr hbl
  obtain ⟨v1, ev1⟩ : ∃ y : Int32, y = xs (i + 1) := ⟨_, rfl⟩
  refine lv_aload_n hx hb dL_law_150 rfl (lv_at hl 1 rfl) ?_
  refine lv_aload_n hx hb dL_law_151 rfl (lv_at hl 0 rfl) ?_
  refine lv_iload_n hx hb dL_law_152 rfl (lv_at hl 3 rfl) ?_
  refine lv_iconst (v := 1) hx hb dL_law_153 (by decide) ?_
  refine lv_iadd hx hb dL_law_154 ?_
  refine lv_top (x' := nI (i + 1)) (nI_add i 1) ?_
  refine va_sld hx hb hX hbl hbA hS (vp_in_nI (by omega) (by omega)) dL_law_155 ?_
  refine lv_top (x' := v1) (by rw [ev1, nI_clamp (by omega)]) ?_
  refine wr_Vi (As := [.int v1]) (rest := []) (ci := 0) (qc := (RX0, TX0, 7)) (wr := wM h2 b1 b2 b3 b4 b5 b6 cA (nI k) tm hA rA lT jA pT cF) (A0 := (fun q : Nat => s.heap.size ≤ q)) S (c_X0_report l dC dI h1 a1 a2 a3 a4 a5 cA (nI k) tm fN fM fJ fT fC v1 _) gL_law_X0_report rfl ⟨rfl, rfl⟩ hd_X0_report ⟨Nat.le_of_ble_eq_true rfl, Nat.le_of_ble_eq_true rfl⟩ hK hP hD hS hA9 [0, 1, 2, 3, 4, 5] [6, 7, 8, 9, 10, 11, 12] rfl rfl (by decide) (by decide) (by decide) rfl rfl rfl rfl hl.1 rfl (Nat.le_of_ble_eq_true rfl) dL_law_156 ⟨Nat.le_of_ble_eq_true rfl, Nat.le_of_ble_eq_true rfl⟩ (fun H locs hP hD hS => ?_)
  have hP : va_P (dC, dI) vwCl (wM h2 b1 b2 b3 b4 b5 b6 cA (nI k) tm hA rA lT jA pT cF ++ wX h1 a1 a2 a3 a4 a5 cA (nI k) tm fN (xReM tm fM v1) fJ fT fC) H := hP
  have hD : va_D (fun q : Nat => s.heap.size ≤ q) (wM h2 b1 b2 b3 b4 b5 b6 cA (nI k) tm hA rA lT jA pT cF ++ wX h1 a1 a2 a3 a4 a5 cA (nI k) tm fN (xReM tm fM v1) fJ fT fC) := hD
  refine lv_aload_n hx hb dL_law_159 rfl (lv_at hl 2 rfl) ?_
  refine lv_aload_n hx hb dL_law_160 rfl (lv_at hl 0 rfl) ?_
  refine lv_iload_n hx hb dL_law_161 rfl (lv_at hl 3 rfl) ?_
  refine lv_iconst (v := 1) hx hb dL_law_162 (by decide) ?_
  refine lv_iadd hx hb dL_law_163 ?_
  refine lv_top (x' := nI (i + 1)) (nI_add i 1) ?_
  refine va_sld hx hb hX hbl hbA hS (vp_in_nI (by omega) (by omega)) dL_law_164 ?_
  refine lv_top (x' := v1) (by rw [ev1, nI_clamp (by omega)]) ?_
  refine wr_Vi (As := [.int v1]) (rest := [.int (bI (xG v1))]) (ci := 1) (qc := (RX1, TX1, 8)) (wr := wX h1 a1 a2 a3 a4 a5 cA (nI k) tm fN (xReM tm fM v1) fJ fT fC) (A0 := (fun q : Nat => s.heap.size ≤ q)) S (c_X1_report l dC dI h2 b1 b2 b3 b4 b5 b6 cA (nI k) tm hA rA lT jA pT cF v1 _) gL_law_X1_report rfl ⟨rfl, rfl⟩ hd_X1_report ⟨Nat.le_of_ble_eq_true rfl, Nat.le_of_ble_eq_true rfl⟩ hK hP hD hS hA9 [0, 1, 2, 3, 4, 5, 6] [7, 8, 9, 10, 11, 12] rfl rfl (by decide) (by decide) (by decide) rfl rfl rfl rfl hl.1 rfl (Nat.le_of_ble_eq_true rfl) dL_law_165 ⟨Nat.le_of_ble_eq_true rfl, Nat.le_of_ble_eq_true rfl⟩ (fun H locs hP hD hS => ?_)
  have hP : va_P (dC, dI) vwCl (wX h1 a1 a2 a3 a4 a5 cA (nI k) tm fN (xReM tm fM v1) fJ fT fC ++ wM h2 b1 b2 b3 b4 b5 b6 cA (nI k) tm hA (mReA tm rA v1) (mReT lT v1) jA pT cF) H := hP
  have hD : va_D (fun q : Nat => s.heap.size ≤ q) (wX h1 a1 a2 a3 a4 a5 cA (nI k) tm fN (xReM tm fM v1) fJ fT fC ++ wM h2 b1 b2 b3 b4 b5 b6 cA (nI k) tm hA (mReA tm rA v1) (mReT lT v1) jA pT cF) := hD
  refine lv_icmp_eq (tgt := 418) hx hb dL_law_168 (by decide) (fun c9 => ?_) (fun c9 => ?_)
  · exact back tm fN (xReM tm fM v1) fJ fT fC hA (mReA tm rA v1) (mReT lT v1) jA pT cF (R_report R v1) _ _ ls hP hD hS hl
  · exact absurd (show bI (xG v1) = bI (xG v1) from rfl) c9
set_option maxHeartbeats 4000000 in
set_option maxRecDepth 100000 in
theorem law_leave {p : Program} {e : Env} {s : State} {m : MethodId} {below : List Frame} {meth : Method} {c : Code} {l : Launch} {b L : Nat} {xs : Nat → Int32} (hL : L ≤ 2049) (C0 : lw_At p s m meth c b L xs) {dC : Nat → ClassId} {dI : Nat → Nat → Nat} {h1 a1 a2 a3 a4 a5 h2 b1 b2 b3 b4 b5 b6 : Nat} {cA : ClassId} {k i : Nat} (hi : i + 4 ≤ L) (hK : va_K (dC, dI) vwCl [(cA, .int)] s) (back : ∀ (tm : Int32) (fN fM fJ fT fC hA rA lT jA pT cF : Nat → Int32), Rel k tm fN fM fJ fT fC hA rA lT jA pT cF → ∀ (H : Heap) (locs : List Loc) (ls : Array Slot), va_P (dC, dI) vwCl (wX h1 a1 a2 a3 a4 a5 cA (nI k) tm fN fM fJ fT fC ++ wM h2 b1 b2 b3 b4 b5 b6 cA (nI k) tm hA rA lT jA pT cF) H → va_D (fun q : Nat => s.heap.size ≤ q) (wX h1 a1 a2 a3 a4 a5 cA (nI k) tm fN fM fJ fT fC ++ wM h2 b1 b2 b3 b4 b5 b6 cA (nI k) tm hA rA lT jA pT cF) → va_S (fun q : Nat => s.heap.size ≤ q) s.heap H locs → lv_has ls 4 [(0, .ref b), (1, .ref h1), (2, .ref h2), (3, .int (nI i))] → W p l e room_1 s m #[Value.ref b] below meth c H locs 13 731 (lw_Z below #[Value.ref b] s) (F0 m 418 ls [])) (tm : Int32) (fN fM fJ fT fC hA rA lT jA pT cF : Nat → Int32) (R : Rel k tm fN fM fJ fT fC hA rA lT jA pT cF) (H : Heap) (locs : List Loc) (ls : Array Slot) (hP : va_P (dC, dI) vwCl (wX h1 a1 a2 a3 a4 a5 cA (nI k) tm fN fM fJ fT fC ++ wM h2 b1 b2 b3 b4 b5 b6 cA (nI k) tm hA rA lT jA pT cF) H) (hD : va_D (fun q : Nat => s.heap.size ≤ q) (wX h1 a1 a2 a3 a4 a5 cA (nI k) tm fN fM fJ fT fC ++ wM h2 b1 b2 b3 b4 b5 b6 cA (nI k) tm hA rA lT jA pT cF)) (hS : va_S (fun q : Nat => s.heap.size ≤ q) s.heap H locs) (hl : lv_has ls 4 [(0, .ref b), (1, .ref h1), (2, .ref h2), (3, .int (nI i))]) : W p l e room_1 s m #[Value.ref b] below meth c H locs 13 731 (lw_Z below #[Value.ref b] s) (F0 m 173 ls []) := by
  obtain ⟨hx, hb, hr, hml, hown, hts, hX, hbl, hlocks, hgv⟩ := id C0
  have hb : c.code = cL_law := hb
  have hown : s.vm.findClass RL = some m.cls := hown
  have hts : ∀ w ∈ wsL_law, w.before #[Value.ref b] s = true := fun w h => hts w (wsL_law_in w h)
  have S : CallFix p m c cL_law 4 s #[Value.ref b] wsL_law RL := ⟨hx, hb, hml, hown, hts⟩
  have hA9 : ∀ q : Nat, s.heap.size ≤ q → (fun q : Nat => s.heap.size ≤ q) q := fun _ h => h
  have hbA : ¬ (fun q : Nat => s.heap.size ≤ q) b := Nat.not_le.mpr hbl
  obtain ⟨v1, ev1⟩ : ∃ y : Int32, y = xs (i + 1) := ⟨_, rfl⟩
  refine lv_aload_n hx hb dL_law_173 rfl (lv_at hl 1 rfl) ?_
  refine lv_aload_n hx hb dL_law_174 rfl (lv_at hl 0 rfl) ?_
  refine lv_iload_n hx hb dL_law_175 rfl (lv_at hl 3 rfl) ?_
  refine lv_iconst (v := 1) hx hb dL_law_176 (by decide) ?_
  refine lv_iadd hx hb dL_law_177 ?_
  refine lv_top (x' := nI (i + 1)) (nI_add i 1) ?_
  refine va_sld hx hb hX hbl hbA hS (vp_in_nI (by omega) (by omega)) dL_law_178 ?_
  refine lv_top (x' := v1) (by rw [ev1, nI_clamp (by omega)]) ?_
  refine wr_Vi (As := [.int v1]) (rest := []) (ci := 0) (qc := (RX0, TX0, 7)) (wr := wM h2 b1 b2 b3 b4 b5 b6 cA (nI k) tm hA rA lT jA pT cF) (A0 := (fun q : Nat => s.heap.size ≤ q)) S (c_X0_leave l dC dI h1 a1 a2 a3 a4 a5 cA (nI k) tm fN fM fJ fT fC v1 _) gL_law_X0_leave rfl ⟨rfl, rfl⟩ hd_X0_leave ⟨Nat.le_of_ble_eq_true rfl, Nat.le_of_ble_eq_true rfl⟩ hK hP hD hS hA9 [0, 1, 2, 3, 4, 5] [6, 7, 8, 9, 10, 11, 12] rfl rfl (by decide) (by decide) (by decide) rfl rfl rfl rfl hl.1 rfl (Nat.le_of_ble_eq_true rfl) dL_law_179 ⟨Nat.le_of_ble_eq_true rfl, Nat.le_of_ble_eq_true rfl⟩ (fun H locs hP hD hS => ?_)
  have hP : va_P (dC, dI) vwCl (wM h2 b1 b2 b3 b4 b5 b6 cA (nI k) tm hA rA lT jA pT cF ++ wX h1 a1 a2 a3 a4 a5 cA (nI k) tm fN (xLeM ((nI k)) tm fN fM v1) fJ fT fC) H := hP
  have hD : va_D (fun q : Nat => s.heap.size ≤ q) (wM h2 b1 b2 b3 b4 b5 b6 cA (nI k) tm hA rA lT jA pT cF ++ wX h1 a1 a2 a3 a4 a5 cA (nI k) tm fN (xLeM ((nI k)) tm fN fM v1) fJ fT fC) := hD
  refine lv_aload_n hx hb dL_law_182 rfl (lv_at hl 2 rfl) ?_
  refine lv_aload_n hx hb dL_law_183 rfl (lv_at hl 0 rfl) ?_
  refine lv_iload_n hx hb dL_law_184 rfl (lv_at hl 3 rfl) ?_
  refine lv_iconst (v := 1) hx hb dL_law_185 (by decide) ?_
  refine lv_iadd hx hb dL_law_186 ?_
  refine lv_top (x' := nI (i + 1)) (nI_add i 1) ?_
  refine va_sld hx hb hX hbl hbA hS (vp_in_nI (by omega) (by omega)) dL_law_187 ?_
  refine lv_top (x' := v1) (by rw [ev1, nI_clamp (by omega)]) ?_
  refine wr_Vi (As := [.int v1]) (rest := [.int (bI (xLeB (nI k) tm fN fM v1))]) (ci := 1) (qc := (RX1, TX1, 8)) (wr := wX h1 a1 a2 a3 a4 a5 cA (nI k) tm fN (xLeM ((nI k)) tm fN fM v1) fJ fT fC) (A0 := (fun q : Nat => s.heap.size ≤ q)) S (c_X1_leave l dC dI h2 b1 b2 b3 b4 b5 b6 cA (nI k) tm hA rA lT jA pT cF v1 ((shl_ne (by have := R.1; omega))) _) gL_law_X1_leave rfl ⟨rfl, rfl⟩ hd_X1_leave ⟨Nat.le_of_ble_eq_true rfl, Nat.le_of_ble_eq_true rfl⟩ hK hP hD hS hA9 [0, 1, 2, 3, 4, 5, 6] [7, 8, 9, 10, 11, 12] rfl rfl (by decide) (by decide) (by decide) rfl rfl rfl rfl hl.1 rfl (Nat.le_of_ble_eq_true rfl) dL_law_188 ⟨Nat.le_of_ble_eq_true rfl, Nat.le_of_ble_eq_true rfl⟩ (fun H locs hP hD hS => ?_)
  have hP : va_P (dC, dI) vwCl (wX h1 a1 a2 a3 a4 a5 cA (nI k) tm fN (xLeM ((nI k)) tm fN fM v1) fJ fT fC ++ wM h2 b1 b2 b3 b4 b5 b6 cA (nI k) tm hA rA (mLeT ((nI k)) tm hA rA lT v1) jA pT cF) H := hP
  have hD : va_D (fun q : Nat => s.heap.size ≤ q) (wX h1 a1 a2 a3 a4 a5 cA (nI k) tm fN (xLeM ((nI k)) tm fN fM v1) fJ fT fC ++ wM h2 b1 b2 b3 b4 b5 b6 cA (nI k) tm hA rA (mLeT ((nI k)) tm hA rA lT v1) jA pT cF) := hD
  refine lv_icmp_eq (tgt := 418) hx hb dL_law_191 (by decide) (fun c9 => ?_) (fun c9 => ?_)
  · exact back tm fN (xLeM ((nI k)) tm fN fM v1) fJ fT fC hA rA (mLeT ((nI k)) tm hA rA lT v1) jA pT cF (R_leave R v1) _ _ ls hP hD hS hl
  · exact absurd (show bI (xLeB (nI k) tm fN fM v1) = bI (mLeB (nI k) tm hA rA lT v1) from by rw [R_leb R]) c9
set_option maxHeartbeats 4000000 in
set_option maxRecDepth 100000 in
theorem law_join {p : Program} {e : Env} {s : State} {m : MethodId} {below : List Frame} {meth : Method} {c : Code} {l : Launch} {b L : Nat} {xs : Nat → Int32} (hL : L ≤ 2049) (C0 : lw_At p s m meth c b L xs) {dC : Nat → ClassId} {dI : Nat → Nat → Nat} {h1 a1 a2 a3 a4 a5 h2 b1 b2 b3 b4 b5 b6 : Nat} {cA : ClassId} {k i : Nat} (hi : i + 4 ≤ L) (hK : va_K (dC, dI) vwCl [(cA, .int)] s) (back : ∀ (tm : Int32) (fN fM fJ fT fC hA rA lT jA pT cF : Nat → Int32), Rel k tm fN fM fJ fT fC hA rA lT jA pT cF → ∀ (H : Heap) (locs : List Loc) (ls : Array Slot), va_P (dC, dI) vwCl (wX h1 a1 a2 a3 a4 a5 cA (nI k) tm fN fM fJ fT fC ++ wM h2 b1 b2 b3 b4 b5 b6 cA (nI k) tm hA rA lT jA pT cF) H → va_D (fun q : Nat => s.heap.size ≤ q) (wX h1 a1 a2 a3 a4 a5 cA (nI k) tm fN fM fJ fT fC ++ wM h2 b1 b2 b3 b4 b5 b6 cA (nI k) tm hA rA lT jA pT cF) → va_S (fun q : Nat => s.heap.size ≤ q) s.heap H locs → lv_has ls 4 [(0, .ref b), (1, .ref h1), (2, .ref h2), (3, .int (nI i))] → W p l e room_1 s m #[Value.ref b] below meth c H locs 13 731 (lw_Z below #[Value.ref b] s) (F0 m 418 ls [])) (tm : Int32) (fN fM fJ fT fC hA rA lT jA pT cF : Nat → Int32) (R : Rel k tm fN fM fJ fT fC hA rA lT jA pT cF) (H : Heap) (locs : List Loc) (ls : Array Slot) (hP : va_P (dC, dI) vwCl (wX h1 a1 a2 a3 a4 a5 cA (nI k) tm fN fM fJ fT fC ++ wM h2 b1 b2 b3 b4 b5 b6 cA (nI k) tm hA rA lT jA pT cF) H) (hD : va_D (fun q : Nat => s.heap.size ≤ q) (wX h1 a1 a2 a3 a4 a5 cA (nI k) tm fN fM fJ fT fC ++ wM h2 b1 b2 b3 b4 b5 b6 cA (nI k) tm hA rA lT jA pT cF)) (hS : va_S (fun q : Nat => s.heap.size ≤ q) s.heap H locs) (hl : lv_has ls 4 [(0, .ref b), (1, .ref h1), (2, .ref h2), (3, .int (nI i))]) : W p l e room_1 s m #[Value.ref b] below meth c H locs 13 731 (lw_Z below #[Value.ref b] s) (F0 m 196 ls []) := by
  obtain ⟨hx, hb, hr, hml, hown, hts, hX, hbl, hlocks, hgv⟩ := id C0
  have hb : c.code = cL_law := hb
  have hown : s.vm.findClass RL = some m.cls := hown
  have hts : ∀ w ∈ wsL_law, w.before #[Value.ref b] s = true := fun w h => hts w (wsL_law_in w h)
  have S : CallFix p m c cL_law 4 s #[Value.ref b] wsL_law RL := ⟨hx, hb, hml, hown, hts⟩
  have hA9 : ∀ q : Nat, s.heap.size ≤ q → (fun q : Nat => s.heap.size ≤ q) q := fun _ h => h
  have hbA : ¬ (fun q : Nat => s.heap.size ≤ q) b := Nat.not_le.mpr hbl
  obtain ⟨v1, ev1⟩ : ∃ y : Int32, y = xs (i + 1) := ⟨_, rfl⟩
  obtain ⟨v2, ev2⟩ : ∃ y : Int32, y = xs (i + 2) := ⟨_, rfl⟩
  obtain ⟨v3, ev3⟩ : ∃ y : Int32, y = xs (i + 3) := ⟨_, rfl⟩
  refine lv_aload_n hx hb dL_law_196 rfl (lv_at hl 1 rfl) ?_
  refine lv_aload_n hx hb dL_law_197 rfl (lv_at hl 0 rfl) ?_
  refine lv_iload_n hx hb dL_law_198 rfl (lv_at hl 3 rfl) ?_
  refine lv_iconst (v := 1) hx hb dL_law_199 (by decide) ?_
  refine lv_iadd hx hb dL_law_200 ?_
  refine lv_top (x' := nI (i + 1)) (nI_add i 1) ?_
  refine va_sld hx hb hX hbl hbA hS (vp_in_nI (by omega) (by omega)) dL_law_201 ?_
  refine lv_top (x' := v1) (by rw [ev1, nI_clamp (by omega)]) ?_
  refine lv_aload_n hx hb dL_law_202 rfl (lv_at hl 0 rfl) ?_
  refine lv_iload_n hx hb dL_law_203 rfl (lv_at hl 3 rfl) ?_
  refine lv_iconst (v := 2) hx hb dL_law_204 (by decide) ?_
  refine lv_iadd hx hb dL_law_205 ?_
  refine lv_top (x' := nI (i + 2)) (nI_add i 2) ?_
  refine va_sld hx hb hX hbl hbA hS (vp_in_nI (by omega) (by omega)) dL_law_206 ?_
  refine lv_top (x' := v2) (by rw [ev2, nI_clamp (by omega)]) ?_
  refine lv_aload_n hx hb dL_law_207 rfl (lv_at hl 0 rfl) ?_
  refine lv_iload_n hx hb dL_law_208 rfl (lv_at hl 3 rfl) ?_
  refine lv_iconst (v := 3) hx hb dL_law_209 (by decide) ?_
  refine lv_iadd hx hb dL_law_210 ?_
  refine lv_top (x' := nI (i + 3)) (nI_add i 3) ?_
  refine va_sld hx hb hX hbl hbA hS (vp_in_nI (by omega) (by omega)) dL_law_211 ?_
  refine lv_top (x' := v3) (by rw [ev3, nI_clamp (by omega)]) ?_
  refine wr_Vi (As := [.int v1, .int v2, .int v3]) (rest := []) (ci := 0) (qc := (RX0, TX0, 7)) (wr := wM h2 b1 b2 b3 b4 b5 b6 cA (nI k) tm hA rA lT jA pT cF) (A0 := (fun q : Nat => s.heap.size ≤ q)) S (c_X0_join l dC dI h1 a1 a2 a3 a4 a5 cA (nI k) tm fN fM fJ fT fC v1 v2 v3 _) gL_law_X0_join rfl ⟨rfl, rfl⟩ hd_X0_join ⟨Nat.le_of_ble_eq_true rfl, Nat.le_of_ble_eq_true rfl⟩ hK hP hD hS hA9 [0, 1, 2, 3, 4, 5] [6, 7, 8, 9, 10, 11, 12] rfl rfl (by decide) (by decide) (by decide) rfl rfl rfl rfl hl.1 rfl (Nat.le_of_ble_eq_true rfl) dL_law_212 ⟨Nat.le_of_ble_eq_true rfl, Nat.le_of_ble_eq_true rfl⟩ (fun H locs hP hD hS => ?_)
  have hP : va_P (dC, dI) vwCl (wM h2 b1 b2 b3 b4 b5 b6 cA (nI k) tm hA rA lT jA pT cF ++ wX h1 a1 a2 a3 a4 a5 cA (nI k) tm fN fM (xJoJ tm fJ v1 v2) (xJoT fT v1 v2 v3) (xJoC tm fN fJ fT fC v1 v2 v3)) H := hP
  have hD : va_D (fun q : Nat => s.heap.size ≤ q) (wM h2 b1 b2 b3 b4 b5 b6 cA (nI k) tm hA rA lT jA pT cF ++ wX h1 a1 a2 a3 a4 a5 cA (nI k) tm fN fM (xJoJ tm fJ v1 v2) (xJoT fT v1 v2 v3) (xJoC tm fN fJ fT fC v1 v2 v3)) := hD
  refine lv_aload_n hx hb dL_law_215 rfl (lv_at hl 2 rfl) ?_
  refine lv_aload_n hx hb dL_law_216 rfl (lv_at hl 0 rfl) ?_
  refine lv_iload_n hx hb dL_law_217 rfl (lv_at hl 3 rfl) ?_
  refine lv_iconst (v := 1) hx hb dL_law_218 (by decide) ?_
  refine lv_iadd hx hb dL_law_219 ?_
  refine lv_top (x' := nI (i + 1)) (nI_add i 1) ?_
  refine va_sld hx hb hX hbl hbA hS (vp_in_nI (by omega) (by omega)) dL_law_220 ?_
  refine lv_top (x' := v1) (by rw [ev1, nI_clamp (by omega)]) ?_
  refine lv_aload_n hx hb dL_law_221 rfl (lv_at hl 0 rfl) ?_
  refine lv_iload_n hx hb dL_law_222 rfl (lv_at hl 3 rfl) ?_
  refine lv_iconst (v := 2) hx hb dL_law_223 (by decide) ?_
  refine lv_iadd hx hb dL_law_224 ?_
  refine lv_top (x' := nI (i + 2)) (nI_add i 2) ?_
  refine va_sld hx hb hX hbl hbA hS (vp_in_nI (by omega) (by omega)) dL_law_225 ?_
  refine lv_top (x' := v2) (by rw [ev2, nI_clamp (by omega)]) ?_
  refine lv_aload_n hx hb dL_law_226 rfl (lv_at hl 0 rfl) ?_
  refine lv_iload_n hx hb dL_law_227 rfl (lv_at hl 3 rfl) ?_
  refine lv_iconst (v := 3) hx hb dL_law_228 (by decide) ?_
  refine lv_iadd hx hb dL_law_229 ?_
  refine lv_top (x' := nI (i + 3)) (nI_add i 3) ?_
  refine va_sld hx hb hX hbl hbA hS (vp_in_nI (by omega) (by omega)) dL_law_230 ?_
  refine lv_top (x' := v3) (by rw [ev3, nI_clamp (by omega)]) ?_
  refine wr_Vi (As := [.int v1, .int v2, .int v3]) (rest := [.int (bI (xJoB v1 v2))]) (ci := 1) (qc := (RX1, TX1, 8)) (wr := wX h1 a1 a2 a3 a4 a5 cA (nI k) tm fN fM (xJoJ tm fJ v1 v2) (xJoT fT v1 v2 v3) (xJoC tm fN fJ fT fC v1 v2 v3)) (A0 := (fun q : Nat => s.heap.size ≤ q)) S (c_X1_join l dC dI h2 b1 b2 b3 b4 b5 b6 cA (nI k) tm hA rA lT jA pT cF v1 v2 v3 _) gL_law_X1_join rfl ⟨rfl, rfl⟩ hd_X1_join ⟨Nat.le_of_ble_eq_true rfl, Nat.le_of_ble_eq_true rfl⟩ hK hP hD hS hA9 [0, 1, 2, 3, 4, 5, 6] [7, 8, 9, 10, 11, 12] rfl rfl (by decide) (by decide) (by decide) rfl rfl rfl rfl hl.1 rfl (Nat.le_of_ble_eq_true rfl) dL_law_231 ⟨Nat.le_of_ble_eq_true rfl, Nat.le_of_ble_eq_true rfl⟩ (fun H locs hP hD hS => ?_)
  have hP : va_P (dC, dI) vwCl (wX h1 a1 a2 a3 a4 a5 cA (nI k) tm fN fM (xJoJ tm fJ v1 v2) (xJoT fT v1 v2 v3) (xJoC tm fN fJ fT fC v1 v2 v3) ++ wM h2 b1 b2 b3 b4 b5 b6 cA (nI k) tm hA rA lT (mJoA tm jA v1 v2) (mJoP pT v1 v2) (mJoC tm hA jA pT cF v1 v2 v3)) H := hP
  have hD : va_D (fun q : Nat => s.heap.size ≤ q) (wX h1 a1 a2 a3 a4 a5 cA (nI k) tm fN fM (xJoJ tm fJ v1 v2) (xJoT fT v1 v2 v3) (xJoC tm fN fJ fT fC v1 v2 v3) ++ wM h2 b1 b2 b3 b4 b5 b6 cA (nI k) tm hA rA lT (mJoA tm jA v1 v2) (mJoP pT v1 v2) (mJoC tm hA jA pT cF v1 v2 v3)) := hD
  refine lv_icmp_eq (tgt := 418) hx hb dL_law_234 (by decide) (fun c9 => ?_) (fun c9 => ?_)
  · exact back tm fN fM (xJoJ tm fJ v1 v2) (xJoT fT v1 v2 v3) (xJoC tm fN fJ fT fC v1 v2 v3) hA rA lT (mJoA tm jA v1 v2) (mJoP pT v1 v2) (mJoC tm hA jA pT cF v1 v2 v3) (R_join R v1 v2 v3) _ _ ls hP hD hS hl
  · exact absurd (show bI (xJoB v1 v2) = bI (mBr v1 v2) from by rw [br_eq]) c9
set_option maxHeartbeats 4000000 in
set_option maxRecDepth 100000 in
theorem law_prune {p : Program} {e : Env} {s : State} {m : MethodId} {below : List Frame} {meth : Method} {c : Code} {l : Launch} {b L : Nat} {xs : Nat → Int32} (hL : L ≤ 2049) (C0 : lw_At p s m meth c b L xs) {dC : Nat → ClassId} {dI : Nat → Nat → Nat} {h1 a1 a2 a3 a4 a5 h2 b1 b2 b3 b4 b5 b6 : Nat} {cA : ClassId} {k i : Nat} (hi : i + 4 ≤ L) (hK : va_K (dC, dI) vwCl [(cA, .int)] s) (back : ∀ (tm : Int32) (fN fM fJ fT fC hA rA lT jA pT cF : Nat → Int32), Rel k tm fN fM fJ fT fC hA rA lT jA pT cF → ∀ (H : Heap) (locs : List Loc) (ls : Array Slot), va_P (dC, dI) vwCl (wX h1 a1 a2 a3 a4 a5 cA (nI k) tm fN fM fJ fT fC ++ wM h2 b1 b2 b3 b4 b5 b6 cA (nI k) tm hA rA lT jA pT cF) H → va_D (fun q : Nat => s.heap.size ≤ q) (wX h1 a1 a2 a3 a4 a5 cA (nI k) tm fN fM fJ fT fC ++ wM h2 b1 b2 b3 b4 b5 b6 cA (nI k) tm hA rA lT jA pT cF) → va_S (fun q : Nat => s.heap.size ≤ q) s.heap H locs → lv_has ls 4 [(0, .ref b), (1, .ref h1), (2, .ref h2), (3, .int (nI i))] → W p l e room_1 s m #[Value.ref b] below meth c H locs 13 731 (lw_Z below #[Value.ref b] s) (F0 m 418 ls [])) (tm : Int32) (fN fM fJ fT fC hA rA lT jA pT cF : Nat → Int32) (R : Rel k tm fN fM fJ fT fC hA rA lT jA pT cF) (H : Heap) (locs : List Loc) (ls : Array Slot) (hP : va_P (dC, dI) vwCl (wX h1 a1 a2 a3 a4 a5 cA (nI k) tm fN fM fJ fT fC ++ wM h2 b1 b2 b3 b4 b5 b6 cA (nI k) tm hA rA lT jA pT cF) H) (hD : va_D (fun q : Nat => s.heap.size ≤ q) (wX h1 a1 a2 a3 a4 a5 cA (nI k) tm fN fM fJ fT fC ++ wM h2 b1 b2 b3 b4 b5 b6 cA (nI k) tm hA rA lT jA pT cF)) (hS : va_S (fun q : Nat => s.heap.size ≤ q) s.heap H locs) (hl : lv_has ls 4 [(0, .ref b), (1, .ref h1), (2, .ref h2), (3, .int (nI i))]) : W p l e room_1 s m #[Value.ref b] below meth c H locs 13 731 (lw_Z below #[Value.ref b] s) (F0 m 239 ls []) := by
  obtain ⟨hx, hb, hr, hml, hown, hts, hX, hbl, hlocks, hgv⟩ := id C0
  have hb : c.code = cL_law := hb
  have hown : s.vm.findClass RL = some m.cls := hown
  have hts : ∀ w ∈ wsL_law, w.before #[Value.ref b] s = true := fun w h => hts w (wsL_law_in w h)
  have S : CallFix p m c cL_law 4 s #[Value.ref b] wsL_law RL := ⟨hx, hb, hml, hown, hts⟩
  have hA9 : ∀ q : Nat, s.heap.size ≤ q → (fun q : Nat => s.heap.size ≤ q) q := fun _ h => h
  have hbA : ¬ (fun q : Nat => s.heap.size ≤ q) b := Nat.not_le.mpr hbl
  obtain ⟨v1, ev1⟩ : ∃ y : Int32, y = xs (i + 1) := ⟨_, rfl⟩
  obtain ⟨v2, ev2⟩ : ∃ y : Int32, y = xs (i + 2) := ⟨_, rfl⟩
  refine lv_aload_n hx hb dL_law_239 rfl (lv_at hl 1 rfl) ?_
  refine lv_aload_n hx hb dL_law_240 rfl (lv_at hl 0 rfl) ?_
  refine lv_iload_n hx hb dL_law_241 rfl (lv_at hl 3 rfl) ?_
  refine lv_iconst (v := 1) hx hb dL_law_242 (by decide) ?_
  refine lv_iadd hx hb dL_law_243 ?_
  refine lv_top (x' := nI (i + 1)) (nI_add i 1) ?_
  refine va_sld hx hb hX hbl hbA hS (vp_in_nI (by omega) (by omega)) dL_law_244 ?_
  refine lv_top (x' := v1) (by rw [ev1, nI_clamp (by omega)]) ?_
  refine lv_aload_n hx hb dL_law_245 rfl (lv_at hl 0 rfl) ?_
  refine lv_iload_n hx hb dL_law_246 rfl (lv_at hl 3 rfl) ?_
  refine lv_iconst (v := 2) hx hb dL_law_247 (by decide) ?_
  refine lv_iadd hx hb dL_law_248 ?_
  refine lv_top (x' := nI (i + 2)) (nI_add i 2) ?_
  refine va_sld hx hb hX hbl hbA hS (vp_in_nI (by omega) (by omega)) dL_law_249 ?_
  refine lv_top (x' := v2) (by rw [ev2, nI_clamp (by omega)]) ?_
  refine wr_Vi (As := [.int v1, .int v2]) (rest := []) (ci := 0) (qc := (RX0, TX0, 7)) (wr := wM h2 b1 b2 b3 b4 b5 b6 cA (nI k) tm hA rA lT jA pT cF) (A0 := (fun q : Nat => s.heap.size ≤ q)) S (c_X0_prune l dC dI h1 a1 a2 a3 a4 a5 cA (nI k) tm fN fM fJ fT fC v1 v2 _) gL_law_X0_prune rfl ⟨rfl, rfl⟩ hd_X0_prune ⟨Nat.le_of_ble_eq_true rfl, Nat.le_of_ble_eq_true rfl⟩ hK hP hD hS hA9 [0, 1, 2, 3, 4, 5] [6, 7, 8, 9, 10, 11, 12] rfl rfl (by decide) (by decide) (by decide) rfl rfl rfl rfl hl.1 rfl (Nat.le_of_ble_eq_true rfl) dL_law_250 ⟨Nat.le_of_ble_eq_true rfl, Nat.le_of_ble_eq_true rfl⟩ (fun H locs hP hD hS => ?_)
  have hP : va_P (dC, dI) vwCl (wM h2 b1 b2 b3 b4 b5 b6 cA (nI k) tm hA rA lT jA pT cF ++ wX h1 a1 a2 a3 a4 a5 cA (nI k) tm fN fM (xPrJ tm fN fJ v1 v2) fT fC) H := hP
  have hD : va_D (fun q : Nat => s.heap.size ≤ q) (wM h2 b1 b2 b3 b4 b5 b6 cA (nI k) tm hA rA lT jA pT cF ++ wX h1 a1 a2 a3 a4 a5 cA (nI k) tm fN fM (xPrJ tm fN fJ v1 v2) fT fC) := hD
  refine lv_aload_n hx hb dL_law_253 rfl (lv_at hl 2 rfl) ?_
  refine lv_aload_n hx hb dL_law_254 rfl (lv_at hl 0 rfl) ?_
  refine lv_iload_n hx hb dL_law_255 rfl (lv_at hl 3 rfl) ?_
  refine lv_iconst (v := 1) hx hb dL_law_256 (by decide) ?_
  refine lv_iadd hx hb dL_law_257 ?_
  refine lv_top (x' := nI (i + 1)) (nI_add i 1) ?_
  refine va_sld hx hb hX hbl hbA hS (vp_in_nI (by omega) (by omega)) dL_law_258 ?_
  refine lv_top (x' := v1) (by rw [ev1, nI_clamp (by omega)]) ?_
  refine lv_aload_n hx hb dL_law_259 rfl (lv_at hl 0 rfl) ?_
  refine lv_iload_n hx hb dL_law_260 rfl (lv_at hl 3 rfl) ?_
  refine lv_iconst (v := 2) hx hb dL_law_261 (by decide) ?_
  refine lv_iadd hx hb dL_law_262 ?_
  refine lv_top (x' := nI (i + 2)) (nI_add i 2) ?_
  refine va_sld hx hb hX hbl hbA hS (vp_in_nI (by omega) (by omega)) dL_law_263 ?_
  refine lv_top (x' := v2) (by rw [ev2, nI_clamp (by omega)]) ?_
  refine wr_Vi (As := [.int v1, .int v2]) (rest := [.int (bI (xPrB tm fJ v1 v2))]) (ci := 1) (qc := (RX1, TX1, 8)) (wr := wX h1 a1 a2 a3 a4 a5 cA (nI k) tm fN fM (xPrJ tm fN fJ v1 v2) fT fC) (A0 := (fun q : Nat => s.heap.size ≤ q)) S (c_X1_prune l dC dI h2 b1 b2 b3 b4 b5 b6 cA (nI k) tm hA rA lT jA pT cF v1 v2 _) gL_law_X1_prune rfl ⟨rfl, rfl⟩ hd_X1_prune ⟨Nat.le_of_ble_eq_true rfl, Nat.le_of_ble_eq_true rfl⟩ hK hP hD hS hA9 [0, 1, 2, 3, 4, 5, 6] [7, 8, 9, 10, 11, 12] rfl rfl (by decide) (by decide) (by decide) rfl rfl rfl rfl hl.1 rfl (Nat.le_of_ble_eq_true rfl) dL_law_264 ⟨Nat.le_of_ble_eq_true rfl, Nat.le_of_ble_eq_true rfl⟩ (fun H locs hP hD hS => ?_)
  have hP : va_P (dC, dI) vwCl (wX h1 a1 a2 a3 a4 a5 cA (nI k) tm fN fM (xPrJ tm fN fJ v1 v2) fT fC ++ wM h2 b1 b2 b3 b4 b5 b6 cA (nI k) tm hA rA lT jA (mPrP tm hA jA pT v1 v2) cF) H := hP
  have hD : va_D (fun q : Nat => s.heap.size ≤ q) (wX h1 a1 a2 a3 a4 a5 cA (nI k) tm fN fM (xPrJ tm fN fJ v1 v2) fT fC ++ wM h2 b1 b2 b3 b4 b5 b6 cA (nI k) tm hA rA lT jA (mPrP tm hA jA pT v1 v2) cF) := hD
  refine lv_icmp_eq (tgt := 418) hx hb dL_law_267 (by decide) (fun c9 => ?_) (fun c9 => ?_)
  · exact back tm fN fM (xPrJ tm fN fJ v1 v2) fT fC hA rA lT jA (mPrP tm hA jA pT v1 v2) cF (R_prune R v1 v2) _ _ ls hP hD hS hl
  · exact absurd (show bI (xPrB tm fJ v1 v2) = bI (mPrB tm jA pT v1 v2) from by rw [R_prb R]) c9
set_option maxHeartbeats 4000000 in
set_option maxRecDepth 100000 in
theorem law_forget {p : Program} {e : Env} {s : State} {m : MethodId} {below : List Frame} {meth : Method} {c : Code} {l : Launch} {b L : Nat} {xs : Nat → Int32} (hL : L ≤ 2049) (C0 : lw_At p s m meth c b L xs) {dC : Nat → ClassId} {dI : Nat → Nat → Nat} {h1 a1 a2 a3 a4 a5 h2 b1 b2 b3 b4 b5 b6 : Nat} {cA : ClassId} {k i : Nat} (hi : i + 4 ≤ L) (hK : va_K (dC, dI) vwCl [(cA, .int)] s) (back : ∀ (tm : Int32) (fN fM fJ fT fC hA rA lT jA pT cF : Nat → Int32), Rel k tm fN fM fJ fT fC hA rA lT jA pT cF → ∀ (H : Heap) (locs : List Loc) (ls : Array Slot), va_P (dC, dI) vwCl (wX h1 a1 a2 a3 a4 a5 cA (nI k) tm fN fM fJ fT fC ++ wM h2 b1 b2 b3 b4 b5 b6 cA (nI k) tm hA rA lT jA pT cF) H → va_D (fun q : Nat => s.heap.size ≤ q) (wX h1 a1 a2 a3 a4 a5 cA (nI k) tm fN fM fJ fT fC ++ wM h2 b1 b2 b3 b4 b5 b6 cA (nI k) tm hA rA lT jA pT cF) → va_S (fun q : Nat => s.heap.size ≤ q) s.heap H locs → lv_has ls 4 [(0, .ref b), (1, .ref h1), (2, .ref h2), (3, .int (nI i))] → W p l e room_1 s m #[Value.ref b] below meth c H locs 13 731 (lw_Z below #[Value.ref b] s) (F0 m 418 ls [])) (tm : Int32) (fN fM fJ fT fC hA rA lT jA pT cF : Nat → Int32) (R : Rel k tm fN fM fJ fT fC hA rA lT jA pT cF) (H : Heap) (locs : List Loc) (ls : Array Slot) (hP : va_P (dC, dI) vwCl (wX h1 a1 a2 a3 a4 a5 cA (nI k) tm fN fM fJ fT fC ++ wM h2 b1 b2 b3 b4 b5 b6 cA (nI k) tm hA rA lT jA pT cF) H) (hD : va_D (fun q : Nat => s.heap.size ≤ q) (wX h1 a1 a2 a3 a4 a5 cA (nI k) tm fN fM fJ fT fC ++ wM h2 b1 b2 b3 b4 b5 b6 cA (nI k) tm hA rA lT jA pT cF)) (hS : va_S (fun q : Nat => s.heap.size ≤ q) s.heap H locs) (hl : lv_has ls 4 [(0, .ref b), (1, .ref h1), (2, .ref h2), (3, .int (nI i))]) : W p l e room_1 s m #[Value.ref b] below meth c H locs 13 731 (lw_Z below #[Value.ref b] s) (F0 m 272 ls []) := by
  obtain ⟨hx, hb, hr, hml, hown, hts, hX, hbl, hlocks, hgv⟩ := id C0
  have hb : c.code = cL_law := hb
  have hown : s.vm.findClass RL = some m.cls := hown
  have hts : ∀ w ∈ wsL_law, w.before #[Value.ref b] s = true := fun w h => hts w (wsL_law_in w h)
  have S : CallFix p m c cL_law 4 s #[Value.ref b] wsL_law RL := ⟨hx, hb, hml, hown, hts⟩
  have hA9 : ∀ q : Nat, s.heap.size ≤ q → (fun q : Nat => s.heap.size ≤ q) q := fun _ h => h
  have hbA : ¬ (fun q : Nat => s.heap.size ≤ q) b := Nat.not_le.mpr hbl
  refine lv_aload_n hx hb dL_law_272 rfl (lv_at hl 1 rfl) ?_
  refine wr_Vv (As := []) (rest := []) (ci := 0) (qc := (RX0, TX0, 7)) (wr := wM h2 b1 b2 b3 b4 b5 b6 cA (nI k) tm hA rA lT jA pT cF) (A0 := (fun q : Nat => s.heap.size ≤ q)) S (c_X0_forget l dC dI h1 a1 a2 a3 a4 a5 cA (nI k) tm fN fM fJ fT fC _) gL_law_X0_forget rfl ⟨rfl, rfl⟩ hd_X0_forget ⟨Nat.le_of_ble_eq_true rfl, Nat.le_of_ble_eq_true rfl⟩ hK hP hD hS hA9 [0, 1, 2, 3, 4, 5] [6, 7, 8, 9, 10, 11, 12] rfl rfl (by decide) (by decide) (by decide) rfl rfl rfl rfl hl.1 rfl (Nat.le_of_ble_eq_true rfl) dL_law_273 ⟨Nat.le_of_ble_eq_true rfl, Nat.le_of_ble_eq_true rfl⟩ (fun H locs hP hD hS => ?_)
  have hP : va_P (dC, dI) vwCl (wM h2 b1 b2 b3 b4 b5 b6 cA (nI k) tm hA rA lT jA pT cF ++ wX h1 a1 a2 a3 a4 a5 cA (nI k) tm (fillI fN (0 : Int32) 10) (fillI fM (0 : Int32) 8) (fillI fJ (0 : Int32) 136) (fillI fT (0 : Int32) 8) (fillI fC (0 : Int32) 128)) H := hP
  have hD : va_D (fun q : Nat => s.heap.size ≤ q) (wM h2 b1 b2 b3 b4 b5 b6 cA (nI k) tm hA rA lT jA pT cF ++ wX h1 a1 a2 a3 a4 a5 cA (nI k) tm (fillI fN (0 : Int32) 10) (fillI fM (0 : Int32) 8) (fillI fJ (0 : Int32) 136) (fillI fT (0 : Int32) 8) (fillI fC (0 : Int32) 128)) := hD
  refine lv_aload_n hx hb dL_law_276 rfl (lv_at hl 2 rfl) ?_
  refine wr_Vv (As := []) (rest := []) (ci := 1) (qc := (RX1, TX1, 8)) (wr := wX h1 a1 a2 a3 a4 a5 cA (nI k) tm (fillI fN (0 : Int32) 10) (fillI fM (0 : Int32) 8) (fillI fJ (0 : Int32) 136) (fillI fT (0 : Int32) 8) (fillI fC (0 : Int32) 128)) (A0 := (fun q : Nat => s.heap.size ≤ q)) S (c_X1_forget l dC dI h2 b1 b2 b3 b4 b5 b6 cA (nI k) tm hA rA lT jA pT cF _) gL_law_X1_forget rfl ⟨rfl, rfl⟩ hd_X1_forget ⟨Nat.le_of_ble_eq_true rfl, Nat.le_of_ble_eq_true rfl⟩ hK hP hD hS hA9 [0, 1, 2, 3, 4, 5, 6] [7, 8, 9, 10, 11, 12] rfl rfl (by decide) (by decide) (by decide) rfl rfl rfl rfl hl.1 rfl (Nat.le_of_ble_eq_true rfl) dL_law_277 ⟨Nat.le_of_ble_eq_true rfl, Nat.le_of_ble_eq_true rfl⟩ (fun H locs hP hD hS => ?_)
  have hP : va_P (dC, dI) vwCl (wX h1 a1 a2 a3 a4 a5 cA (nI k) tm (fillI fN (0 : Int32) 10) (fillI fM (0 : Int32) 8) (fillI fJ (0 : Int32) 136) (fillI fT (0 : Int32) 8) (fillI fC (0 : Int32) 128) ++ wM h2 b1 b2 b3 b4 b5 b6 cA (nI k) tm (fillI hA (-1 : Int32) 10) (fillI rA (-1 : Int32) 8) lT (fillI jA (-1 : Int32) 136) pT (fillI cF (-1 : Int32) 128)) H := hP
  have hD : va_D (fun q : Nat => s.heap.size ≤ q) (wX h1 a1 a2 a3 a4 a5 cA (nI k) tm (fillI fN (0 : Int32) 10) (fillI fM (0 : Int32) 8) (fillI fJ (0 : Int32) 136) (fillI fT (0 : Int32) 8) (fillI fC (0 : Int32) 128) ++ wM h2 b1 b2 b3 b4 b5 b6 cA (nI k) tm (fillI hA (-1 : Int32) 10) (fillI rA (-1 : Int32) 8) lT (fillI jA (-1 : Int32) 136) pT (fillI cF (-1 : Int32) 128)) := hD
  refine lv_goto (tgt := 418) hx hb dL_law_280 (by decide) ?_
  exact back tm (fillI fN (0 : Int32) 10) (fillI fM (0 : Int32) 8) (fillI fJ (0 : Int32) 136) (fillI fT (0 : Int32) 8) (fillI fC (0 : Int32) 128) (fillI hA (-1 : Int32) 10) (fillI rA (-1 : Int32) 8) lT (fillI jA (-1 : Int32) 136) pT (fillI cF (-1 : Int32) 128) (R_forget R) _ _ ls hP hD hS hl
set_option maxHeartbeats 4000000 in
set_option maxRecDepth 100000 in
theorem law_joined {p : Program} {e : Env} {s : State} {m : MethodId} {below : List Frame} {meth : Method} {c : Code} {l : Launch} {b L : Nat} {xs : Nat → Int32} (hL : L ≤ 2049) (C0 : lw_At p s m meth c b L xs) {dC : Nat → ClassId} {dI : Nat → Nat → Nat} {h1 a1 a2 a3 a4 a5 h2 b1 b2 b3 b4 b5 b6 : Nat} {cA : ClassId} {k i : Nat} (hi : i + 4 ≤ L) (hK : va_K (dC, dI) vwCl [(cA, .int)] s) (back : ∀ (tm : Int32) (fN fM fJ fT fC hA rA lT jA pT cF : Nat → Int32), Rel k tm fN fM fJ fT fC hA rA lT jA pT cF → ∀ (H : Heap) (locs : List Loc) (ls : Array Slot), va_P (dC, dI) vwCl (wX h1 a1 a2 a3 a4 a5 cA (nI k) tm fN fM fJ fT fC ++ wM h2 b1 b2 b3 b4 b5 b6 cA (nI k) tm hA rA lT jA pT cF) H → va_D (fun q : Nat => s.heap.size ≤ q) (wX h1 a1 a2 a3 a4 a5 cA (nI k) tm fN fM fJ fT fC ++ wM h2 b1 b2 b3 b4 b5 b6 cA (nI k) tm hA rA lT jA pT cF) → va_S (fun q : Nat => s.heap.size ≤ q) s.heap H locs → lv_has ls 4 [(0, .ref b), (1, .ref h1), (2, .ref h2), (3, .int (nI i))] → W p l e room_1 s m #[Value.ref b] below meth c H locs 13 731 (lw_Z below #[Value.ref b] s) (F0 m 418 ls [])) (tm : Int32) (fN fM fJ fT fC hA rA lT jA pT cF : Nat → Int32) (R : Rel k tm fN fM fJ fT fC hA rA lT jA pT cF) (H : Heap) (locs : List Loc) (ls : Array Slot) (hP : va_P (dC, dI) vwCl (wX h1 a1 a2 a3 a4 a5 cA (nI k) tm fN fM fJ fT fC ++ wM h2 b1 b2 b3 b4 b5 b6 cA (nI k) tm hA rA lT jA pT cF) H) (hD : va_D (fun q : Nat => s.heap.size ≤ q) (wX h1 a1 a2 a3 a4 a5 cA (nI k) tm fN fM fJ fT fC ++ wM h2 b1 b2 b3 b4 b5 b6 cA (nI k) tm hA rA lT jA pT cF)) (hS : va_S (fun q : Nat => s.heap.size ≤ q) s.heap H locs) (hl : lv_has ls 4 [(0, .ref b), (1, .ref h1), (2, .ref h2), (3, .int (nI i))]) : W p l e room_1 s m #[Value.ref b] below meth c H locs 13 731 (lw_Z below #[Value.ref b] s) (F0 m 283 ls []) := by
  obtain ⟨hx, hb, hr, hml, hown, hts, hX, hbl, hlocks, hgv⟩ := id C0
  have hb : c.code = cL_law := hb
  have hown : s.vm.findClass RL = some m.cls := hown
  have hts : ∀ w ∈ wsL_law, w.before #[Value.ref b] s = true := fun w h => hts w (wsL_law_in w h)
  have S : CallFix p m c cL_law 4 s #[Value.ref b] wsL_law RL := ⟨hx, hb, hml, hown, hts⟩
  have hA9 : ∀ q : Nat, s.heap.size ≤ q → (fun q : Nat => s.heap.size ≤ q) q := fun _ h => h
  have hbA : ¬ (fun q : Nat => s.heap.size ≤ q) b := Nat.not_le.mpr hbl
  obtain ⟨v1, ev1⟩ : ∃ y : Int32, y = xs (i + 1) := ⟨_, rfl⟩
  obtain ⟨v2, ev2⟩ : ∃ y : Int32, y = xs (i + 2) := ⟨_, rfl⟩
  refine lv_aload_n hx hb dL_law_283 rfl (lv_at hl 1 rfl) ?_
  refine lv_aload_n hx hb dL_law_284 rfl (lv_at hl 0 rfl) ?_
  refine lv_iload_n hx hb dL_law_285 rfl (lv_at hl 3 rfl) ?_
  refine lv_iconst (v := 1) hx hb dL_law_286 (by decide) ?_
  refine lv_iadd hx hb dL_law_287 ?_
  refine lv_top (x' := nI (i + 1)) (nI_add i 1) ?_
  refine va_sld hx hb hX hbl hbA hS (vp_in_nI (by omega) (by omega)) dL_law_288 ?_
  refine lv_top (x' := v1) (by rw [ev1, nI_clamp (by omega)]) ?_
  refine lv_aload_n hx hb dL_law_289 rfl (lv_at hl 0 rfl) ?_
  refine lv_iload_n hx hb dL_law_290 rfl (lv_at hl 3 rfl) ?_
  refine lv_iconst (v := 2) hx hb dL_law_291 (by decide) ?_
  refine lv_iadd hx hb dL_law_292 ?_
  refine lv_top (x' := nI (i + 2)) (nI_add i 2) ?_
  refine va_sld hx hb hX hbl hbA hS (vp_in_nI (by omega) (by omega)) dL_law_293 ?_
  refine lv_top (x' := v2) (by rw [ev2, nI_clamp (by omega)]) ?_
  have hPX : va_P (dC, dI) vwCl (wX h1 a1 a2 a3 a4 a5 cA (nI k) tm fN fM fJ fT fC) H := hP.sub [0, 1, 2, 3, 4, 5] rfl
  have hPM : va_P (dC, dI) vwCl (wM h2 b1 b2 b3 b4 b5 b6 cA (nI k) tm hA rA lT jA pT cF) H := hP.sub [6, 7, 8, 9, 10, 11, 12] rfl
  refine rd_V (As := [.int v1, .int v2]) (rest := []) (ci := 0) (qc := (RX0, TX0, 7)) S (c_X0_joined l dC dI h1 a1 a2 a3 a4 a5 cA (nI k) tm fN fM fJ fT fC v1 v2) gL_law_X0_joined rfl ⟨rfl, rfl⟩ hd_X0_joined ⟨Nat.le_of_ble_eq_true rfl, Nat.le_of_ble_eq_true rfl⟩ hK hPX rfl rfl rfl hl.1 rfl (Nat.le_of_ble_eq_true rfl) dL_law_294 ⟨Nat.le_of_ble_eq_true rfl, Nat.le_of_ble_eq_true rfl⟩ ?_
  refine lv_aload_n hx hb dL_law_297 rfl (lv_at hl 2 rfl) ?_
  refine lv_aload_n hx hb dL_law_298 rfl (lv_at hl 0 rfl) ?_
  refine lv_iload_n hx hb dL_law_299 rfl (lv_at hl 3 rfl) ?_
  refine lv_iconst (v := 1) hx hb dL_law_300 (by decide) ?_
  refine lv_iadd hx hb dL_law_301 ?_
  refine lv_top (x' := nI (i + 1)) (nI_add i 1) ?_
  refine va_sld hx hb hX hbl hbA hS (vp_in_nI (by omega) (by omega)) dL_law_302 ?_
  refine lv_top (x' := v1) (by rw [ev1, nI_clamp (by omega)]) ?_
  refine lv_aload_n hx hb dL_law_303 rfl (lv_at hl 0 rfl) ?_
  refine lv_iload_n hx hb dL_law_304 rfl (lv_at hl 3 rfl) ?_
  refine lv_iconst (v := 2) hx hb dL_law_305 (by decide) ?_
  refine lv_iadd hx hb dL_law_306 ?_
  refine lv_top (x' := nI (i + 2)) (nI_add i 2) ?_
  refine va_sld hx hb hX hbl hbA hS (vp_in_nI (by omega) (by omega)) dL_law_307 ?_
  refine lv_top (x' := v2) (by rw [ev2, nI_clamp (by omega)]) ?_
  refine rd_V (As := [.int v1, .int v2]) (rest := [.int (xJd tm fJ v1 v2)]) (ci := 1) (qc := (RX1, TX1, 8)) S (c_X1_joined l dC dI h2 b1 b2 b3 b4 b5 b6 cA (nI k) tm hA rA lT jA pT cF v1 v2) gL_law_X1_joined rfl ⟨rfl, rfl⟩ hd_X1_joined ⟨Nat.le_of_ble_eq_true rfl, Nat.le_of_ble_eq_true rfl⟩ hK hPM rfl rfl rfl hl.1 rfl (Nat.le_of_ble_eq_true rfl) dL_law_308 ⟨Nat.le_of_ble_eq_true rfl, Nat.le_of_ble_eq_true rfl⟩ ?_
  refine lv_icmp_eq (tgt := 418) hx hb dL_law_311 (by decide) (fun c9 => ?_) (fun c9 => ?_)
  · exact back tm fN fM fJ fT fC hA rA lT jA pT cF (R) _ _ ls hP hD hS hl
  · exact absurd (show xJd tm fJ v1 v2 = mJd tm jA pT v1 v2 from R_jd R v1 v2) c9
set_option maxHeartbeats 4000000 in
set_option maxRecDepth 100000 in
theorem law_cut {p : Program} {e : Env} {s : State} {m : MethodId} {below : List Frame} {meth : Method} {c : Code} {l : Launch} {b L : Nat} {xs : Nat → Int32} (hL : L ≤ 2049) (C0 : lw_At p s m meth c b L xs) {dC : Nat → ClassId} {dI : Nat → Nat → Nat} {h1 a1 a2 a3 a4 a5 h2 b1 b2 b3 b4 b5 b6 : Nat} {cA : ClassId} {k i : Nat} (hi : i + 4 ≤ L) (hK : va_K (dC, dI) vwCl [(cA, .int)] s) (back : ∀ (tm : Int32) (fN fM fJ fT fC hA rA lT jA pT cF : Nat → Int32), Rel k tm fN fM fJ fT fC hA rA lT jA pT cF → ∀ (H : Heap) (locs : List Loc) (ls : Array Slot), va_P (dC, dI) vwCl (wX h1 a1 a2 a3 a4 a5 cA (nI k) tm fN fM fJ fT fC ++ wM h2 b1 b2 b3 b4 b5 b6 cA (nI k) tm hA rA lT jA pT cF) H → va_D (fun q : Nat => s.heap.size ≤ q) (wX h1 a1 a2 a3 a4 a5 cA (nI k) tm fN fM fJ fT fC ++ wM h2 b1 b2 b3 b4 b5 b6 cA (nI k) tm hA rA lT jA pT cF) → va_S (fun q : Nat => s.heap.size ≤ q) s.heap H locs → lv_has ls 4 [(0, .ref b), (1, .ref h1), (2, .ref h2), (3, .int (nI i))] → W p l e room_1 s m #[Value.ref b] below meth c H locs 13 731 (lw_Z below #[Value.ref b] s) (F0 m 418 ls [])) (tm : Int32) (fN fM fJ fT fC hA rA lT jA pT cF : Nat → Int32) (R : Rel k tm fN fM fJ fT fC hA rA lT jA pT cF) (H : Heap) (locs : List Loc) (ls : Array Slot) (hP : va_P (dC, dI) vwCl (wX h1 a1 a2 a3 a4 a5 cA (nI k) tm fN fM fJ fT fC ++ wM h2 b1 b2 b3 b4 b5 b6 cA (nI k) tm hA rA lT jA pT cF) H) (hD : va_D (fun q : Nat => s.heap.size ≤ q) (wX h1 a1 a2 a3 a4 a5 cA (nI k) tm fN fM fJ fT fC ++ wM h2 b1 b2 b3 b4 b5 b6 cA (nI k) tm hA rA lT jA pT cF)) (hS : va_S (fun q : Nat => s.heap.size ≤ q) s.heap H locs) (hl : lv_has ls 4 [(0, .ref b), (1, .ref h1), (2, .ref h2), (3, .int (nI i))]) : W p l e room_1 s m #[Value.ref b] below meth c H locs 13 731 (lw_Z below #[Value.ref b] s) (F0 m 316 ls []) := by
  obtain ⟨hx, hb, hr, hml, hown, hts, hX, hbl, hlocks, hgv⟩ := id C0
  have hb : c.code = cL_law := hb
  have hown : s.vm.findClass RL = some m.cls := hown
  have hts : ∀ w ∈ wsL_law, w.before #[Value.ref b] s = true := fun w h => hts w (wsL_law_in w h)
  have S : CallFix p m c cL_law 4 s #[Value.ref b] wsL_law RL := ⟨hx, hb, hml, hown, hts⟩
  have hA9 : ∀ q : Nat, s.heap.size ≤ q → (fun q : Nat => s.heap.size ≤ q) q := fun _ h => h
  have hbA : ¬ (fun q : Nat => s.heap.size ≤ q) b := Nat.not_le.mpr hbl
  obtain ⟨v1, ev1⟩ : ∃ y : Int32, y = xs (i + 1) := ⟨_, rfl⟩
  obtain ⟨v2, ev2⟩ : ∃ y : Int32, y = xs (i + 2) := ⟨_, rfl⟩
  refine lv_aload_n hx hb dL_law_316 rfl (lv_at hl 1 rfl) ?_
  refine lv_aload_n hx hb dL_law_317 rfl (lv_at hl 0 rfl) ?_
  refine lv_iload_n hx hb dL_law_318 rfl (lv_at hl 3 rfl) ?_
  refine lv_iconst (v := 1) hx hb dL_law_319 (by decide) ?_
  refine lv_iadd hx hb dL_law_320 ?_
  refine lv_top (x' := nI (i + 1)) (nI_add i 1) ?_
  refine va_sld hx hb hX hbl hbA hS (vp_in_nI (by omega) (by omega)) dL_law_321 ?_
  refine lv_top (x' := v1) (by rw [ev1, nI_clamp (by omega)]) ?_
  refine lv_aload_n hx hb dL_law_322 rfl (lv_at hl 0 rfl) ?_
  refine lv_iload_n hx hb dL_law_323 rfl (lv_at hl 3 rfl) ?_
  refine lv_iconst (v := 2) hx hb dL_law_324 (by decide) ?_
  refine lv_iadd hx hb dL_law_325 ?_
  refine lv_top (x' := nI (i + 2)) (nI_add i 2) ?_
  refine va_sld hx hb hX hbl hbA hS (vp_in_nI (by omega) (by omega)) dL_law_326 ?_
  refine lv_top (x' := v2) (by rw [ev2, nI_clamp (by omega)]) ?_
  have hPX : va_P (dC, dI) vwCl (wX h1 a1 a2 a3 a4 a5 cA (nI k) tm fN fM fJ fT fC) H := hP.sub [0, 1, 2, 3, 4, 5] rfl
  have hPM : va_P (dC, dI) vwCl (wM h2 b1 b2 b3 b4 b5 b6 cA (nI k) tm hA rA lT jA pT cF) H := hP.sub [6, 7, 8, 9, 10, 11, 12] rfl
  refine rd_V (As := [.int v1, .int v2]) (rest := []) (ci := 0) (qc := (RX0, TX0, 7)) S (c_X0_cut l dC dI h1 a1 a2 a3 a4 a5 cA (nI k) tm fN fM fJ fT fC v1 v2) gL_law_X0_cut rfl ⟨rfl, rfl⟩ hd_X0_cut ⟨Nat.le_of_ble_eq_true rfl, Nat.le_of_ble_eq_true rfl⟩ hK hPX rfl rfl rfl hl.1 rfl (Nat.le_of_ble_eq_true rfl) dL_law_327 ⟨Nat.le_of_ble_eq_true rfl, Nat.le_of_ble_eq_true rfl⟩ ?_
  refine lv_aload_n hx hb dL_law_330 rfl (lv_at hl 2 rfl) ?_
  refine lv_aload_n hx hb dL_law_331 rfl (lv_at hl 0 rfl) ?_
  refine lv_iload_n hx hb dL_law_332 rfl (lv_at hl 3 rfl) ?_
  refine lv_iconst (v := 1) hx hb dL_law_333 (by decide) ?_
  refine lv_iadd hx hb dL_law_334 ?_
  refine lv_top (x' := nI (i + 1)) (nI_add i 1) ?_
  refine va_sld hx hb hX hbl hbA hS (vp_in_nI (by omega) (by omega)) dL_law_335 ?_
  refine lv_top (x' := v1) (by rw [ev1, nI_clamp (by omega)]) ?_
  refine lv_aload_n hx hb dL_law_336 rfl (lv_at hl 0 rfl) ?_
  refine lv_iload_n hx hb dL_law_337 rfl (lv_at hl 3 rfl) ?_
  refine lv_iconst (v := 2) hx hb dL_law_338 (by decide) ?_
  refine lv_iadd hx hb dL_law_339 ?_
  refine lv_top (x' := nI (i + 2)) (nI_add i 2) ?_
  refine va_sld hx hb hX hbl hbA hS (vp_in_nI (by omega) (by omega)) dL_law_340 ?_
  refine lv_top (x' := v2) (by rw [ev2, nI_clamp (by omega)]) ?_
  refine rd_V (As := [.int v1, .int v2]) (rest := [.int (xCu tm fJ fT fC v1 v2)]) (ci := 1) (qc := (RX1, TX1, 8)) S (c_X1_cut l dC dI h2 b1 b2 b3 b4 b5 b6 cA (nI k) tm hA rA lT jA pT cF v1 v2) gL_law_X1_cut rfl ⟨rfl, rfl⟩ hd_X1_cut ⟨Nat.le_of_ble_eq_true rfl, Nat.le_of_ble_eq_true rfl⟩ hK hPM rfl rfl rfl hl.1 rfl (Nat.le_of_ble_eq_true rfl) dL_law_341 ⟨Nat.le_of_ble_eq_true rfl, Nat.le_of_ble_eq_true rfl⟩ ?_
  refine lv_icmp_eq (tgt := 418) hx hb dL_law_344 (by decide) (fun c9 => ?_) (fun c9 => ?_)
  · exact back tm fN fM fJ fT fC hA rA lT jA pT cF (R) _ _ ls hP hD hS hl
  · exact absurd (show xCu tm fJ fT fC v1 v2 = mCu tm jA pT cF v1 v2 from R_cu R v1 v2) c9
set_option maxHeartbeats 4000000 in
set_option maxRecDepth 100000 in
theorem law_members {p : Program} {e : Env} {s : State} {m : MethodId} {below : List Frame} {meth : Method} {c : Code} {l : Launch} {b L : Nat} {xs : Nat → Int32} (hL : L ≤ 2049) (C0 : lw_At p s m meth c b L xs) {dC : Nat → ClassId} {dI : Nat → Nat → Nat} {h1 a1 a2 a3 a4 a5 h2 b1 b2 b3 b4 b5 b6 : Nat} {cA : ClassId} {k i : Nat} (hi : i + 4 ≤ L) (hK : va_K (dC, dI) vwCl [(cA, .int)] s) (back : ∀ (tm : Int32) (fN fM fJ fT fC hA rA lT jA pT cF : Nat → Int32), Rel k tm fN fM fJ fT fC hA rA lT jA pT cF → ∀ (H : Heap) (locs : List Loc) (ls : Array Slot), va_P (dC, dI) vwCl (wX h1 a1 a2 a3 a4 a5 cA (nI k) tm fN fM fJ fT fC ++ wM h2 b1 b2 b3 b4 b5 b6 cA (nI k) tm hA rA lT jA pT cF) H → va_D (fun q : Nat => s.heap.size ≤ q) (wX h1 a1 a2 a3 a4 a5 cA (nI k) tm fN fM fJ fT fC ++ wM h2 b1 b2 b3 b4 b5 b6 cA (nI k) tm hA rA lT jA pT cF) → va_S (fun q : Nat => s.heap.size ≤ q) s.heap H locs → lv_has ls 4 [(0, .ref b), (1, .ref h1), (2, .ref h2), (3, .int (nI i))] → W p l e room_1 s m #[Value.ref b] below meth c H locs 13 731 (lw_Z below #[Value.ref b] s) (F0 m 418 ls [])) (tm : Int32) (fN fM fJ fT fC hA rA lT jA pT cF : Nat → Int32) (R : Rel k tm fN fM fJ fT fC hA rA lT jA pT cF) (H : Heap) (locs : List Loc) (ls : Array Slot) (hP : va_P (dC, dI) vwCl (wX h1 a1 a2 a3 a4 a5 cA (nI k) tm fN fM fJ fT fC ++ wM h2 b1 b2 b3 b4 b5 b6 cA (nI k) tm hA rA lT jA pT cF) H) (hD : va_D (fun q : Nat => s.heap.size ≤ q) (wX h1 a1 a2 a3 a4 a5 cA (nI k) tm fN fM fJ fT fC ++ wM h2 b1 b2 b3 b4 b5 b6 cA (nI k) tm hA rA lT jA pT cF)) (hS : va_S (fun q : Nat => s.heap.size ≤ q) s.heap H locs) (hl : lv_has ls 4 [(0, .ref b), (1, .ref h1), (2, .ref h2), (3, .int (nI i))]) : W p l e room_1 s m #[Value.ref b] below meth c H locs 13 731 (lw_Z below #[Value.ref b] s) (F0 m 349 ls []) := by
  obtain ⟨hx, hb, hr, hml, hown, hts, hX, hbl, hlocks, hgv⟩ := id C0
  have hb : c.code = cL_law := hb
  have hown : s.vm.findClass RL = some m.cls := hown
  have hts : ∀ w ∈ wsL_law, w.before #[Value.ref b] s = true := fun w h => hts w (wsL_law_in w h)
  have S : CallFix p m c cL_law 4 s #[Value.ref b] wsL_law RL := ⟨hx, hb, hml, hown, hts⟩
  have hA9 : ∀ q : Nat, s.heap.size ≤ q → (fun q : Nat => s.heap.size ≤ q) q := fun _ h => h
  have hbA : ¬ (fun q : Nat => s.heap.size ≤ q) b := Nat.not_le.mpr hbl
  obtain ⟨v1, ev1⟩ : ∃ y : Int32, y = xs (i + 1) := ⟨_, rfl⟩
  refine lv_aload_n hx hb dL_law_349 rfl (lv_at hl 1 rfl) ?_
  refine lv_aload_n hx hb dL_law_350 rfl (lv_at hl 0 rfl) ?_
  refine lv_iload_n hx hb dL_law_351 rfl (lv_at hl 3 rfl) ?_
  refine lv_iconst (v := 1) hx hb dL_law_352 (by decide) ?_
  refine lv_iadd hx hb dL_law_353 ?_
  refine lv_top (x' := nI (i + 1)) (nI_add i 1) ?_
  refine va_sld hx hb hX hbl hbA hS (vp_in_nI (by omega) (by omega)) dL_law_354 ?_
  refine lv_top (x' := v1) (by rw [ev1, nI_clamp (by omega)]) ?_
  have hPX : va_P (dC, dI) vwCl (wX h1 a1 a2 a3 a4 a5 cA (nI k) tm fN fM fJ fT fC) H := hP.sub [0, 1, 2, 3, 4, 5] rfl
  have hPM : va_P (dC, dI) vwCl (wM h2 b1 b2 b3 b4 b5 b6 cA (nI k) tm hA rA lT jA pT cF) H := hP.sub [6, 7, 8, 9, 10, 11, 12] rfl
  refine rd_V (As := [.int v1]) (rest := []) (ci := 0) (qc := (RX0, TX0, 7)) S (c_X0_members l dC dI h1 a1 a2 a3 a4 a5 cA (nI k) tm fN fM fJ fT fC v1) gL_law_X0_members rfl ⟨rfl, rfl⟩ hd_X0_members ⟨Nat.le_of_ble_eq_true rfl, Nat.le_of_ble_eq_true rfl⟩ hK hPX rfl rfl rfl hl.1 rfl (Nat.le_of_ble_eq_true rfl) dL_law_355 ⟨Nat.le_of_ble_eq_true rfl, Nat.le_of_ble_eq_true rfl⟩ ?_
  refine lv_aload_n hx hb dL_law_358 rfl (lv_at hl 2 rfl) ?_
  refine lv_aload_n hx hb dL_law_359 rfl (lv_at hl 0 rfl) ?_
  refine lv_iload_n hx hb dL_law_360 rfl (lv_at hl 3 rfl) ?_
  refine lv_iconst (v := 1) hx hb dL_law_361 (by decide) ?_
  refine lv_iadd hx hb dL_law_362 ?_
  refine lv_top (x' := nI (i + 1)) (nI_add i 1) ?_
  refine va_sld hx hb hX hbl hbA hS (vp_in_nI (by omega) (by omega)) dL_law_363 ?_
  refine lv_top (x' := v1) (by rw [ev1, nI_clamp (by omega)]) ?_
  refine rd_V (As := [.int v1]) (rest := [.int (xMe tm fM v1)]) (ci := 1) (qc := (RX1, TX1, 8)) S (c_X1_members l dC dI h2 b1 b2 b3 b4 b5 b6 cA (nI k) tm hA rA lT jA pT cF v1) gL_law_X1_members rfl ⟨rfl, rfl⟩ hd_X1_members ⟨Nat.le_of_ble_eq_true rfl, Nat.le_of_ble_eq_true rfl⟩ hK hPM rfl rfl rfl hl.1 rfl (Nat.le_of_ble_eq_true rfl) dL_law_364 ⟨Nat.le_of_ble_eq_true rfl, Nat.le_of_ble_eq_true rfl⟩ ?_
  refine lv_icmp_eq (tgt := 418) hx hb dL_law_367 (by decide) (fun c9 => ?_) (fun c9 => ?_)
  · exact back tm fN fM fJ fT fC hA rA lT jA pT cF (R) _ _ ls hP hD hS hl
  · exact absurd (show xMe tm fM v1 = mMe tm rA lT v1 from R_me R v1) c9
set_option maxHeartbeats 4000000 in
set_option maxRecDepth 100000 in
theorem law_goes {p : Program} {e : Env} {s : State} {m : MethodId} {below : List Frame} {meth : Method} {c : Code} {l : Launch} {b L : Nat} {xs : Nat → Int32} (hL : L ≤ 2049) (C0 : lw_At p s m meth c b L xs) {dC : Nat → ClassId} {dI : Nat → Nat → Nat} {h1 a1 a2 a3 a4 a5 h2 b1 b2 b3 b4 b5 b6 : Nat} {cA : ClassId} {k i : Nat} (hi : i + 4 ≤ L) (hK : va_K (dC, dI) vwCl [(cA, .int)] s) (back : ∀ (tm : Int32) (fN fM fJ fT fC hA rA lT jA pT cF : Nat → Int32), Rel k tm fN fM fJ fT fC hA rA lT jA pT cF → ∀ (H : Heap) (locs : List Loc) (ls : Array Slot), va_P (dC, dI) vwCl (wX h1 a1 a2 a3 a4 a5 cA (nI k) tm fN fM fJ fT fC ++ wM h2 b1 b2 b3 b4 b5 b6 cA (nI k) tm hA rA lT jA pT cF) H → va_D (fun q : Nat => s.heap.size ≤ q) (wX h1 a1 a2 a3 a4 a5 cA (nI k) tm fN fM fJ fT fC ++ wM h2 b1 b2 b3 b4 b5 b6 cA (nI k) tm hA rA lT jA pT cF) → va_S (fun q : Nat => s.heap.size ≤ q) s.heap H locs → lv_has ls 4 [(0, .ref b), (1, .ref h1), (2, .ref h2), (3, .int (nI i))] → W p l e room_1 s m #[Value.ref b] below meth c H locs 13 731 (lw_Z below #[Value.ref b] s) (F0 m 418 ls [])) (tm : Int32) (fN fM fJ fT fC hA rA lT jA pT cF : Nat → Int32) (R : Rel k tm fN fM fJ fT fC hA rA lT jA pT cF) (H : Heap) (locs : List Loc) (ls : Array Slot) (hP : va_P (dC, dI) vwCl (wX h1 a1 a2 a3 a4 a5 cA (nI k) tm fN fM fJ fT fC ++ wM h2 b1 b2 b3 b4 b5 b6 cA (nI k) tm hA rA lT jA pT cF) H) (hD : va_D (fun q : Nat => s.heap.size ≤ q) (wX h1 a1 a2 a3 a4 a5 cA (nI k) tm fN fM fJ fT fC ++ wM h2 b1 b2 b3 b4 b5 b6 cA (nI k) tm hA rA lT jA pT cF)) (hS : va_S (fun q : Nat => s.heap.size ≤ q) s.heap H locs) (hl : lv_has ls 4 [(0, .ref b), (1, .ref h1), (2, .ref h2), (3, .int (nI i))]) : W p l e room_1 s m #[Value.ref b] below meth c H locs 13 731 (lw_Z below #[Value.ref b] s) (F0 m 372 ls []) := by
  obtain ⟨hx, hb, hr, hml, hown, hts, hX, hbl, hlocks, hgv⟩ := id C0
  have hb : c.code = cL_law := hb
  have hown : s.vm.findClass RL = some m.cls := hown
  have hts : ∀ w ∈ wsL_law, w.before #[Value.ref b] s = true := fun w h => hts w (wsL_law_in w h)
  have S : CallFix p m c cL_law 4 s #[Value.ref b] wsL_law RL := ⟨hx, hb, hml, hown, hts⟩
  have hA9 : ∀ q : Nat, s.heap.size ≤ q → (fun q : Nat => s.heap.size ≤ q) q := fun _ h => h
  have hbA : ¬ (fun q : Nat => s.heap.size ≤ q) b := Nat.not_le.mpr hbl
  obtain ⟨v1, ev1⟩ : ∃ y : Int32, y = xs (i + 1) := ⟨_, rfl⟩
  refine lv_aload_n hx hb dL_law_372 rfl (lv_at hl 1 rfl) ?_
  refine lv_aload_n hx hb dL_law_373 rfl (lv_at hl 0 rfl) ?_
  refine lv_iload_n hx hb dL_law_374 rfl (lv_at hl 3 rfl) ?_
  refine lv_iconst (v := 1) hx hb dL_law_375 (by decide) ?_
  refine lv_iadd hx hb dL_law_376 ?_
  refine lv_top (x' := nI (i + 1)) (nI_add i 1) ?_
  refine va_sld hx hb hX hbl hbA hS (vp_in_nI (by omega) (by omega)) dL_law_377 ?_
  refine lv_top (x' := v1) (by rw [ev1, nI_clamp (by omega)]) ?_
  have hPX : va_P (dC, dI) vwCl (wX h1 a1 a2 a3 a4 a5 cA (nI k) tm fN fM fJ fT fC) H := hP.sub [0, 1, 2, 3, 4, 5] rfl
  have hPM : va_P (dC, dI) vwCl (wM h2 b1 b2 b3 b4 b5 b6 cA (nI k) tm hA rA lT jA pT cF) H := hP.sub [6, 7, 8, 9, 10, 11, 12] rfl
  refine rd_V (As := [.int v1]) (rest := []) (ci := 0) (qc := (RX0, TX0, 7)) S (c_X0_goes l dC dI h1 a1 a2 a3 a4 a5 cA (nI k) tm fN fM fJ fT fC v1) gL_law_X0_goes rfl ⟨rfl, rfl⟩ hd_X0_goes ⟨Nat.le_of_ble_eq_true rfl, Nat.le_of_ble_eq_true rfl⟩ hK hPX rfl rfl rfl hl.1 rfl (Nat.le_of_ble_eq_true rfl) dL_law_378 ⟨Nat.le_of_ble_eq_true rfl, Nat.le_of_ble_eq_true rfl⟩ ?_
  refine lv_aload_n hx hb dL_law_381 rfl (lv_at hl 2 rfl) ?_
  refine lv_aload_n hx hb dL_law_382 rfl (lv_at hl 0 rfl) ?_
  refine lv_iload_n hx hb dL_law_383 rfl (lv_at hl 3 rfl) ?_
  refine lv_iconst (v := 1) hx hb dL_law_384 (by decide) ?_
  refine lv_iadd hx hb dL_law_385 ?_
  refine lv_top (x' := nI (i + 1)) (nI_add i 1) ?_
  refine va_sld hx hb hX hbl hbA hS (vp_in_nI (by omega) (by omega)) dL_law_386 ?_
  refine lv_top (x' := v1) (by rw [ev1, nI_clamp (by omega)]) ?_
  refine rd_V (As := [.int v1]) (rest := [.int (xGoes (nI k) tm fN fM fJ fT fC v1)]) (ci := 1) (qc := (RX1, TX1, 8)) S (c_X1_goes l dC dI h2 b1 b2 b3 b4 b5 b6 cA (nI k) tm hA rA lT jA pT cF v1) gL_law_X1_goes rfl ⟨rfl, rfl⟩ hd_X1_goes ⟨Nat.le_of_ble_eq_true rfl, Nat.le_of_ble_eq_true rfl⟩ hK hPM rfl rfl rfl hl.1 rfl (Nat.le_of_ble_eq_true rfl) dL_law_387 ⟨Nat.le_of_ble_eq_true rfl, Nat.le_of_ble_eq_true rfl⟩ ?_
  refine lv_icmp_eq (tgt := 418) hx hb dL_law_390 (by decide) (fun c9 => ?_) (fun c9 => ?_)
  · exact back tm fN fM fJ fT fC hA rA lT jA pT cF (R) _ _ ls hP hD hS hl
  · exact absurd (show xGoes (nI k) tm fN fM fJ fT fC v1 = mGoes (nI k) tm hA rA lT jA pT cF v1 from R_goes R v1) c9
set_option maxHeartbeats 4000000 in
set_option maxRecDepth 100000 in
theorem law_look {p : Program} {e : Env} {s : State} {m : MethodId} {below : List Frame} {meth : Method} {c : Code} {l : Launch} {b L : Nat} {xs : Nat → Int32} (hL : L ≤ 2049) (C0 : lw_At p s m meth c b L xs) {dC : Nat → ClassId} {dI : Nat → Nat → Nat} {h1 a1 a2 a3 a4 a5 h2 b1 b2 b3 b4 b5 b6 : Nat} {cA : ClassId} {k i : Nat} (hi : i + 4 ≤ L) (hK : va_K (dC, dI) vwCl [(cA, .int)] s) (back : ∀ (tm : Int32) (fN fM fJ fT fC hA rA lT jA pT cF : Nat → Int32), Rel k tm fN fM fJ fT fC hA rA lT jA pT cF → ∀ (H : Heap) (locs : List Loc) (ls : Array Slot), va_P (dC, dI) vwCl (wX h1 a1 a2 a3 a4 a5 cA (nI k) tm fN fM fJ fT fC ++ wM h2 b1 b2 b3 b4 b5 b6 cA (nI k) tm hA rA lT jA pT cF) H → va_D (fun q : Nat => s.heap.size ≤ q) (wX h1 a1 a2 a3 a4 a5 cA (nI k) tm fN fM fJ fT fC ++ wM h2 b1 b2 b3 b4 b5 b6 cA (nI k) tm hA rA lT jA pT cF) → va_S (fun q : Nat => s.heap.size ≤ q) s.heap H locs → lv_has ls 4 [(0, .ref b), (1, .ref h1), (2, .ref h2), (3, .int (nI i))] → W p l e room_1 s m #[Value.ref b] below meth c H locs 13 731 (lw_Z below #[Value.ref b] s) (F0 m 418 ls [])) (tm : Int32) (fN fM fJ fT fC hA rA lT jA pT cF : Nat → Int32) (R : Rel k tm fN fM fJ fT fC hA rA lT jA pT cF) (H : Heap) (locs : List Loc) (ls : Array Slot) (hP : va_P (dC, dI) vwCl (wX h1 a1 a2 a3 a4 a5 cA (nI k) tm fN fM fJ fT fC ++ wM h2 b1 b2 b3 b4 b5 b6 cA (nI k) tm hA rA lT jA pT cF) H) (hD : va_D (fun q : Nat => s.heap.size ≤ q) (wX h1 a1 a2 a3 a4 a5 cA (nI k) tm fN fM fJ fT fC ++ wM h2 b1 b2 b3 b4 b5 b6 cA (nI k) tm hA rA lT jA pT cF)) (hS : va_S (fun q : Nat => s.heap.size ≤ q) s.heap H locs) (hl : lv_has ls 4 [(0, .ref b), (1, .ref h1), (2, .ref h2), (3, .int (nI i))]) : W p l e room_1 s m #[Value.ref b] below meth c H locs 13 731 (lw_Z below #[Value.ref b] s) (F0 m 395 ls []) := by
  obtain ⟨hx, hb, hr, hml, hown, hts, hX, hbl, hlocks, hgv⟩ := id C0
  have hb : c.code = cL_law := hb
  have hown : s.vm.findClass RL = some m.cls := hown
  have hts : ∀ w ∈ wsL_law, w.before #[Value.ref b] s = true := fun w h => hts w (wsL_law_in w h)
  have S : CallFix p m c cL_law 4 s #[Value.ref b] wsL_law RL := ⟨hx, hb, hml, hown, hts⟩
  have hA9 : ∀ q : Nat, s.heap.size ≤ q → (fun q : Nat => s.heap.size ≤ q) q := fun _ h => h
  have hbA : ¬ (fun q : Nat => s.heap.size ≤ q) b := Nat.not_le.mpr hbl
  obtain ⟨v1, ev1⟩ : ∃ y : Int32, y = xs (i + 1) := ⟨_, rfl⟩
  refine lv_aload_n hx hb dL_law_395 rfl (lv_at hl 1 rfl) ?_
  refine lv_aload_n hx hb dL_law_396 rfl (lv_at hl 0 rfl) ?_
  refine lv_iload_n hx hb dL_law_397 rfl (lv_at hl 3 rfl) ?_
  refine lv_iconst (v := 1) hx hb dL_law_398 (by decide) ?_
  refine lv_iadd hx hb dL_law_399 ?_
  refine lv_top (x' := nI (i + 1)) (nI_add i 1) ?_
  refine va_sld hx hb hX hbl hbA hS (vp_in_nI (by omega) (by omega)) dL_law_400 ?_
  refine lv_top (x' := v1) (by rw [ev1, nI_clamp (by omega)]) ?_
  have hPX : va_P (dC, dI) vwCl (wX h1 a1 a2 a3 a4 a5 cA (nI k) tm fN fM fJ fT fC) H := hP.sub [0, 1, 2, 3, 4, 5] rfl
  have hPM : va_P (dC, dI) vwCl (wM h2 b1 b2 b3 b4 b5 b6 cA (nI k) tm hA rA lT jA pT cF) H := hP.sub [6, 7, 8, 9, 10, 11, 12] rfl
  refine rd_V (As := [.int v1]) (rest := []) (ci := 0) (qc := (RX0, TX0, 7)) S (c_X0_look l dC dI h1 a1 a2 a3 a4 a5 cA (nI k) tm fN fM fJ fT fC v1) gL_law_X0_look rfl ⟨rfl, rfl⟩ hd_X0_look ⟨Nat.le_of_ble_eq_true rfl, Nat.le_of_ble_eq_true rfl⟩ hK hPX rfl rfl rfl hl.1 rfl (Nat.le_of_ble_eq_true rfl) dL_law_401 ⟨Nat.le_of_ble_eq_true rfl, Nat.le_of_ble_eq_true rfl⟩ ?_
  refine lv_aload_n hx hb dL_law_404 rfl (lv_at hl 2 rfl) ?_
  refine lv_aload_n hx hb dL_law_405 rfl (lv_at hl 0 rfl) ?_
  refine lv_iload_n hx hb dL_law_406 rfl (lv_at hl 3 rfl) ?_
  refine lv_iconst (v := 1) hx hb dL_law_407 (by decide) ?_
  refine lv_iadd hx hb dL_law_408 ?_
  refine lv_top (x' := nI (i + 1)) (nI_add i 1) ?_
  refine va_sld hx hb hX hbl hbA hS (vp_in_nI (by omega) (by omega)) dL_law_409 ?_
  refine lv_top (x' := v1) (by rw [ev1, nI_clamp (by omega)]) ?_
  refine rd_V (As := [.int v1]) (rest := [.int (xLook (nI k) tm fN fM fJ fT fC v1)]) (ci := 1) (qc := (RX1, TX1, 8)) S (c_X1_look l dC dI h2 b1 b2 b3 b4 b5 b6 cA (nI k) tm hA rA lT jA pT cF v1 ((shl_ne (by have := R.1; omega)))) gL_law_X1_look rfl ⟨rfl, rfl⟩ hd_X1_look ⟨Nat.le_of_ble_eq_true rfl, Nat.le_of_ble_eq_true rfl⟩ hK hPM rfl rfl rfl hl.1 rfl (Nat.le_of_ble_eq_true rfl) dL_law_410 ⟨Nat.le_of_ble_eq_true rfl, Nat.le_of_ble_eq_true rfl⟩ ?_
  refine lv_icmp_eq (tgt := 418) hx hb dL_law_413 (by decide) (fun c9 => ?_) (fun c9 => ?_)
  · exact back tm fN fM fJ fT fC hA rA lT jA pT cF (R) _ _ ls hP hD hS hl
  · exact absurd (show xLook (nI k) tm fN fM fJ fT fC v1 = mLook (nI k) tm hA rA lT jA pT cF v1 from R_look R v1) c9
