theorem int_one {D : va_G} {cl : List vw_C} {c1 c2 : ClassId} {U : State} (hK : va_K D cl ([(c1, .int)] ++ [(c2, .int)]) U) : c2 = c1 := by
  have h1 : va_RA U c1 .int := (hK.2 0 _ rfl).2
  have h2 : va_RA U c2 .int := (hK.2 1 _ rfl).2
  exact Option.some.inj (h2.symm.trans h1)
theorem iwsX0_init : ∀ w ∈ u_ws RX0 TX0 7, w ∈ wsX0_init := fun _ h => List.mem_cons_of_mem _ (List.mem_append_right _ h)
set_option maxHeartbeats 1000000 in
set_option maxRecDepth 100000 in
theorem c_X0_init (l : Launch) (dC : Nat → ClassId) (dI : Nat → Nat → Nat) (h : Nat) (v0 v1 me : Int32) (sz : Nat) : Met l yX0_init wsX0_init ({ frames := 1, cells := 5, slots := 290, locals := 21 }) (va_Pc [.ref h, .int me] (fun U => U.heap.size = sz ∧ va_P (dC, dI) vwCl [(h, .inr (0, [.int v0, .int v1, .null, .null, .null, .null, .null]))] U.heap ∧ va_K (dC, dI) vwCl [] U ∧ va_D (fun _ => True) [(h, .inr (0, [.int v0, .int v1, .null, .null, .null, .null, .null]))])) (va_Qv (fun _ : Unit => True) (fun _ t => ∃ (a1 a2 a3 a4 a5 : Nat) (cA : ClassId), va_P (dC, dI) vwCl (wX h a1 a2 a3 a4 a5 cA (xMe0 me) 0 (fun _ => 0) (fun _ => 0) (fun _ => 0) (fun _ => 0) (fun _ => 0)) t.heap ∧ va_K (dC, dI) vwCl [(cA, .int)] t ∧ va_D (va_A [(h, .inr (0, [.int v0, .int v1, .null, .null, .null, .null, .null]))] sz) (wX h a1 a2 a3 a4 a5 cA (xMe0 me) 0 (fun _ => 0) (fun _ => 0) (fun _ => 0) (fun _ => 0) (fun _ => 0))) (va_A [(h, .inr (0, [.int v0, .int v1, .null, .null, .null, .null, .null]))] sz)) 5 290 (va_A [(h, .inr (0, [.int v0, .int v1, .null, .null, .null, .null, .null]))] sz) := by
  refine Met.ofW (cc := cX0_init) (maxL := 2) (ret := none) (by decide) rfl ?_
  intro p e s m args below meth c s₁ B hml hv
  obtain ⟨rfl, hsz, hP, hK, hD0⟩ := hv
  have hx := B.exec
  have hb := B.bytes
  have hr := B.returns
  have hts := atoms_spec (ws := wsX0_init) B.pre
  have hown : s.vm.findClass RX0 = some m.cls := findClass_of_methodNamed B.named
  have hlocks := B.notSynchronized
  have hin : meth.name = "<init>" := (name_of_methodNamed B.named B.method).1
  have S : CallFix p m c cX0_init 2 s ([.ref h, .int me] : List Value).toArray wsX0_init RX0 := ⟨hx, hb, hml, hown, hts⟩
  subst hsz
  have hD := hD0.self (sz := s.heap.size)
  generalize hAe : va_A [(h, .inr (0, [.int v0, .int v1, .null, .null, .null, .null, .null]))] s.heap.size = A at hD ⊢
  have hAA : ∀ q : Nat, s.heap.size ≤ q → A q := fun q h => by rw [← hAe]; exact Or.inr h
  have hS : va_S A s.heap s.heap [] := va_S.rf
  have hl := lv_entry ([.ref h, .int me]) (n := 2) (Nat.le_of_ble_eq_true rfl)
  rw [lg_entry_eq]
  generalize (lg_sl ([.ref h, .int me]) ++ List.replicate (2 - (lg_sl ([.ref h, .int me])).length) Slot.unset).toArray = ls at hl ⊢
  have hl : lv_has ls 2 [(0, .ref h), (1, .int me)] := hl
  refine lv_aload_n hx hb dX0_init_0 rfl (lv_at hl 0 rfl) ?_
  refine W.objInit hx hb hown (hts (.methodLink RX0 3 objectInit) (by decide +kernel)) (hts (.instanceMethod objectInit) (by decide +kernel)) (hts _ (List.mem_cons_of_mem _ (List.mem_append_left _ (List.mem_of_getElem? (i := 2) rfl)))) rfl (by rw [hml]; exact hl.1) rfl dX0_init_1 (Nat.le_of_ble_eq_true rfl) (Nat.le_of_ble_eq_true rfl) ?_
  refine W.eq (g2 := F0 m 4 ls []) rfl ?_
  refine lv_aload_n hx hb dX0_init_4 rfl (lv_at hl 0 rfl) ?_
  refine lv_bipush (v := 10) hx hb dX0_init_5 (by decide) ?_
  refine va_newa (D := (dC, dI)) (atype := .int) (ty := .int) (N' := 10) (a0 := (10, .inl (fun _ => 0))) hx hb (hts (.arrayClass .int) (by decide +kernel)) rfl hK hP hD hS hAA (fun _ => rfl) (by decide +kernel) (by decide +kernel) (by decide +kernel) (Nat.le_of_ble_eq_true rfl) (Nat.le_of_ble_eq_true rfl) dX0_init_7 (fun a1 cA H hK hP hD hS => ?_)
  have hK : va_K (dC, dI) vwCl [(cA, .int)] s := hK
  have hP : va_P (dC, dI) vwCl [(h, .inr (0, [.int v0, .int v1, .null, .null, .null, .null, .null])), (a1, .inl (cA, 10, .inl (fun _ => 0)))] H := hP
  have hD : va_D A [(h, .inr (0, [.int v0, .int v1, .null, .null, .null, .null, .null])), (a1, .inl (cA, 10, .inl (fun _ => 0)))] := hD
  refine va_putF (D := (dC, dI)) (ci := 0) (v := .ref a1) (ty := .array .int) (C := RX0) (T := TX0) (N := 7) hx hb hts iwsX0_init tyX0 tyX0_ok nmX0 hown hK hP hD hS 0 rfl rfl 2 (by decide) (hts (.fieldLink RX0 9 "BranchTimes" "neighbourTill" "[I") (by decide +kernel)) (fun _ h9 => h9) rfl hin rfl (by decide +kernel) rfl rfl (Nat.le_of_ble_eq_true rfl) dX0_init_9 (fun H locs hP hD hS => ?_)
  have hP : va_P (dC, dI) vwCl [(h, .inr (0, [.int v0, .int v1, .ref a1, .null, .null, .null, .null])), (a1, .inl (cA, 10, .inl (fun _ => 0)))] H := hP
  have hD : va_D A [(h, .inr (0, [.int v0, .int v1, .ref a1, .null, .null, .null, .null])), (a1, .inl (cA, 10, .inl (fun _ => 0)))] := hD
  refine lv_aload_n hx hb dX0_init_12 rfl (lv_at hl 0 rfl) ?_
  refine lv_bipush (v := 8) hx hb dX0_init_13 (by decide) ?_
  refine va_newa (D := (dC, dI)) (atype := .int) (ty := .int) (N' := 8) (a0 := (8, .inl (fun _ => 0))) hx hb (hts (.arrayClass .int) (by decide +kernel)) rfl hK hP hD hS hAA (fun _ => rfl) (by decide +kernel) (by decide +kernel) (by decide +kernel) (Nat.le_of_ble_eq_true rfl) (Nat.le_of_ble_eq_true rfl) dX0_init_15 (fun a2 cB H hK hP hD hS => ?_)
  have hcc : cA = cB := (int_one hK).symm
  subst hcc
  have hK : va_K (dC, dI) vwCl [(cA, .int)] s := hK.sub [0] rfl
  have hP : va_P (dC, dI) vwCl [(h, .inr (0, [.int v0, .int v1, .ref a1, .null, .null, .null, .null])), (a1, .inl (cA, 10, .inl (fun _ => 0))), (a2, .inl (cA, 8, .inl (fun _ => 0)))] H := hP
  have hD : va_D A [(h, .inr (0, [.int v0, .int v1, .ref a1, .null, .null, .null, .null])), (a1, .inl (cA, 10, .inl (fun _ => 0))), (a2, .inl (cA, 8, .inl (fun _ => 0)))] := hD
  refine va_putF (D := (dC, dI)) (ci := 0) (v := .ref a2) (ty := .array .int) (C := RX0) (T := TX0) (N := 7) hx hb hts iwsX0_init tyX0 tyX0_ok nmX0 hown hK hP hD hS 0 rfl rfl 3 (by decide) (hts (.fieldLink RX0 13 "BranchTimes" "membersTill" "[I") (by decide +kernel)) (fun _ h9 => h9) rfl hin rfl (by decide +kernel) rfl rfl (Nat.le_of_ble_eq_true rfl) dX0_init_17 (fun H locs hP hD hS => ?_)
  have hP : va_P (dC, dI) vwCl [(h, .inr (0, [.int v0, .int v1, .ref a1, .ref a2, .null, .null, .null])), (a1, .inl (cA, 10, .inl (fun _ => 0))), (a2, .inl (cA, 8, .inl (fun _ => 0)))] H := hP
  have hD : va_D A [(h, .inr (0, [.int v0, .int v1, .ref a1, .ref a2, .null, .null, .null])), (a1, .inl (cA, 10, .inl (fun _ => 0))), (a2, .inl (cA, 8, .inl (fun _ => 0)))] := hD
  refine lv_aload_n hx hb dX0_init_20 rfl (lv_at hl 0 rfl) ?_
  refine lv_sipush (v := 136) hx hb dX0_init_21 (by decide) ?_
  refine va_newa (D := (dC, dI)) (atype := .int) (ty := .int) (N' := 136) (a0 := (136, .inl (fun _ => 0))) hx hb (hts (.arrayClass .int) (by decide +kernel)) rfl hK hP hD hS hAA (fun _ => rfl) (by decide +kernel) (by decide +kernel) (by decide +kernel) (Nat.le_of_ble_eq_true rfl) (Nat.le_of_ble_eq_true rfl) dX0_init_24 (fun a3 cB H hK hP hD hS => ?_)
  have hcc : cA = cB := (int_one hK).symm
  subst hcc
  have hK : va_K (dC, dI) vwCl [(cA, .int)] s := hK.sub [0] rfl
  have hP : va_P (dC, dI) vwCl [(h, .inr (0, [.int v0, .int v1, .ref a1, .ref a2, .null, .null, .null])), (a1, .inl (cA, 10, .inl (fun _ => 0))), (a2, .inl (cA, 8, .inl (fun _ => 0))), (a3, .inl (cA, 136, .inl (fun _ => 0)))] H := hP
  have hD : va_D A [(h, .inr (0, [.int v0, .int v1, .ref a1, .ref a2, .null, .null, .null])), (a1, .inl (cA, 10, .inl (fun _ => 0))), (a2, .inl (cA, 8, .inl (fun _ => 0))), (a3, .inl (cA, 136, .inl (fun _ => 0)))] := hD
  refine va_putF (D := (dC, dI)) (ci := 0) (v := .ref a3) (ty := .array .int) (C := RX0) (T := TX0) (N := 7) hx hb hts iwsX0_init tyX0 tyX0_ok nmX0 hown hK hP hD hS 0 rfl rfl 4 (by decide) (hts (.fieldLink RX0 16 "BranchTimes" "joinedTill" "[I") (by decide +kernel)) (fun _ h9 => h9) rfl hin rfl (by decide +kernel) rfl rfl (Nat.le_of_ble_eq_true rfl) dX0_init_26 (fun H locs hP hD hS => ?_)
  have hP : va_P (dC, dI) vwCl [(h, .inr (0, [.int v0, .int v1, .ref a1, .ref a2, .ref a3, .null, .null])), (a1, .inl (cA, 10, .inl (fun _ => 0))), (a2, .inl (cA, 8, .inl (fun _ => 0))), (a3, .inl (cA, 136, .inl (fun _ => 0)))] H := hP
  have hD : va_D A [(h, .inr (0, [.int v0, .int v1, .ref a1, .ref a2, .ref a3, .null, .null])), (a1, .inl (cA, 10, .inl (fun _ => 0))), (a2, .inl (cA, 8, .inl (fun _ => 0))), (a3, .inl (cA, 136, .inl (fun _ => 0)))] := hD
  refine lv_aload_n hx hb dX0_init_29 rfl (lv_at hl 0 rfl) ?_
  refine lv_bipush (v := 8) hx hb dX0_init_30 (by decide) ?_
  refine va_newa (D := (dC, dI)) (atype := .int) (ty := .int) (N' := 8) (a0 := (8, .inl (fun _ => 0))) hx hb (hts (.arrayClass .int) (by decide +kernel)) rfl hK hP hD hS hAA (fun _ => rfl) (by decide +kernel) (by decide +kernel) (by decide +kernel) (Nat.le_of_ble_eq_true rfl) (Nat.le_of_ble_eq_true rfl) dX0_init_32 (fun a4 cB H hK hP hD hS => ?_)
  have hcc : cA = cB := (int_one hK).symm
  subst hcc
  have hK : va_K (dC, dI) vwCl [(cA, .int)] s := hK.sub [0] rfl
  have hP : va_P (dC, dI) vwCl [(h, .inr (0, [.int v0, .int v1, .ref a1, .ref a2, .ref a3, .null, .null])), (a1, .inl (cA, 10, .inl (fun _ => 0))), (a2, .inl (cA, 8, .inl (fun _ => 0))), (a3, .inl (cA, 136, .inl (fun _ => 0))), (a4, .inl (cA, 8, .inl (fun _ => 0)))] H := hP
  have hD : va_D A [(h, .inr (0, [.int v0, .int v1, .ref a1, .ref a2, .ref a3, .null, .null])), (a1, .inl (cA, 10, .inl (fun _ => 0))), (a2, .inl (cA, 8, .inl (fun _ => 0))), (a3, .inl (cA, 136, .inl (fun _ => 0))), (a4, .inl (cA, 8, .inl (fun _ => 0)))] := hD
  refine va_putF (D := (dC, dI)) (ci := 0) (v := .ref a4) (ty := .array .int) (C := RX0) (T := TX0) (N := 7) hx hb hts iwsX0_init tyX0 tyX0_ok nmX0 hown hK hP hD hS 0 rfl rfl 5 (by decide) (hts (.fieldLink RX0 19 "BranchTimes" "told" "[I") (by decide +kernel)) (fun _ h9 => h9) rfl hin rfl (by decide +kernel) rfl rfl (Nat.le_of_ble_eq_true rfl) dX0_init_34 (fun H locs hP hD hS => ?_)
  have hP : va_P (dC, dI) vwCl [(h, .inr (0, [.int v0, .int v1, .ref a1, .ref a2, .ref a3, .ref a4, .null])), (a1, .inl (cA, 10, .inl (fun _ => 0))), (a2, .inl (cA, 8, .inl (fun _ => 0))), (a3, .inl (cA, 136, .inl (fun _ => 0))), (a4, .inl (cA, 8, .inl (fun _ => 0)))] H := hP
  have hD : va_D A [(h, .inr (0, [.int v0, .int v1, .ref a1, .ref a2, .ref a3, .ref a4, .null])), (a1, .inl (cA, 10, .inl (fun _ => 0))), (a2, .inl (cA, 8, .inl (fun _ => 0))), (a3, .inl (cA, 136, .inl (fun _ => 0))), (a4, .inl (cA, 8, .inl (fun _ => 0)))] := hD
  refine lv_aload_n hx hb dX0_init_37 rfl (lv_at hl 0 rfl) ?_
  refine lv_sipush (v := 128) hx hb dX0_init_38 (by decide) ?_
  refine va_newa (D := (dC, dI)) (atype := .int) (ty := .int) (N' := 128) (a0 := (128, .inl (fun _ => 0))) hx hb (hts (.arrayClass .int) (by decide +kernel)) rfl hK hP hD hS hAA (fun _ => rfl) (by decide +kernel) (by decide +kernel) (by decide +kernel) (Nat.le_of_ble_eq_true rfl) (Nat.le_of_ble_eq_true rfl) dX0_init_41 (fun a5 cB H hK hP hD hS => ?_)
  have hcc : cA = cB := (int_one hK).symm
  subst hcc
  have hK : va_K (dC, dI) vwCl [(cA, .int)] s := hK.sub [0] rfl
  have hP : va_P (dC, dI) vwCl [(h, .inr (0, [.int v0, .int v1, .ref a1, .ref a2, .ref a3, .ref a4, .null])), (a1, .inl (cA, 10, .inl (fun _ => 0))), (a2, .inl (cA, 8, .inl (fun _ => 0))), (a3, .inl (cA, 136, .inl (fun _ => 0))), (a4, .inl (cA, 8, .inl (fun _ => 0))), (a5, .inl (cA, 128, .inl (fun _ => 0)))] H := hP
  have hD : va_D A [(h, .inr (0, [.int v0, .int v1, .ref a1, .ref a2, .ref a3, .ref a4, .null])), (a1, .inl (cA, 10, .inl (fun _ => 0))), (a2, .inl (cA, 8, .inl (fun _ => 0))), (a3, .inl (cA, 136, .inl (fun _ => 0))), (a4, .inl (cA, 8, .inl (fun _ => 0))), (a5, .inl (cA, 128, .inl (fun _ => 0)))] := hD
  refine va_putF (D := (dC, dI)) (ci := 0) (v := .ref a5) (ty := .array .int) (C := RX0) (T := TX0) (N := 7) hx hb hts iwsX0_init tyX0 tyX0_ok nmX0 hown hK hP hD hS 0 rfl rfl 6 (by decide) (hts (.fieldLink RX0 22 "BranchTimes" "cutFrom" "[I") (by decide +kernel)) (fun _ h9 => h9) rfl hin rfl (by decide +kernel) rfl rfl (Nat.le_of_ble_eq_true rfl) dX0_init_43 (fun H locs hP hD hS => ?_)
  have hP : va_P (dC, dI) vwCl [(h, .inr (0, [.int v0, .int v1, .ref a1, .ref a2, .ref a3, .ref a4, .ref a5])), (a1, .inl (cA, 10, .inl (fun _ => 0))), (a2, .inl (cA, 8, .inl (fun _ => 0))), (a3, .inl (cA, 136, .inl (fun _ => 0))), (a4, .inl (cA, 8, .inl (fun _ => 0))), (a5, .inl (cA, 128, .inl (fun _ => 0)))] H := hP
  have hD : va_D A [(h, .inr (0, [.int v0, .int v1, .ref a1, .ref a2, .ref a3, .ref a4, .ref a5])), (a1, .inl (cA, 10, .inl (fun _ => 0))), (a2, .inl (cA, 8, .inl (fun _ => 0))), (a3, .inl (cA, 136, .inl (fun _ => 0))), (a4, .inl (cA, 8, .inl (fun _ => 0))), (a5, .inl (cA, 128, .inl (fun _ => 0)))] := hD
  refine lv_aload_n hx hb dX0_init_46 rfl (lv_at hl 0 rfl) ?_
  refine lv_iconst (v := 0) hx hb dX0_init_47 (by decide) ?_
  refine lv_bipush (v := 9) hx hb dX0_init_48 (by decide) ?_
  refine lv_iload_n hx hb dX0_init_50 rfl (lv_at hl 1 rfl) ?_
  refine va_mmin hx hb (by rw [hml]; exact hl.1.symm) hown (hts (.methodLink RX0 25 Lib.Math.min.name) (by decide +kernel)) (hts (.static Lib.Math.min.name) (by decide +kernel)) (hts (.initialized "java/lang/Math") (by decide +kernel)) (hts (.code Lib.Math.min.name Lib.Math.min.code 2 (some .int)) (by decide +kernel)) (Nat.le_of_ble_eq_true rfl) (Nat.le_of_ble_eq_true rfl) (Nat.le_of_ble_eq_true rfl) (Nat.le_of_ble_eq_true rfl) dX0_init_51 ?_
  refine lv_top (x' := xMin 9 me) rfl ?_
  refine va_mmax hx hb (by rw [hml]; exact hl.1.symm) hown (hts (.methodLink RX0 31 Lib.Math.max.name) (by decide +kernel)) (hts (.static Lib.Math.max.name) (by decide +kernel)) (hts (.initialized "java/lang/Math") (by decide +kernel)) (hts (.code Lib.Math.max.name Lib.Math.max.code 2 (some .int)) (by decide +kernel)) (Nat.le_of_ble_eq_true rfl) (Nat.le_of_ble_eq_true rfl) (Nat.le_of_ble_eq_true rfl) (Nat.le_of_ble_eq_true rfl) dX0_init_54 ?_
  refine lv_top (x' := xMe0 me) rfl ?_
  refine va_putF (D := (dC, dI)) (ci := 0) (v := .int (xMe0 me)) (ty := .int) (C := RX0) (T := TX0) (N := 7) hx hb hts iwsX0_init tyX0 tyX0_ok nmX0 hown hK hP hD hS 0 rfl rfl 0 (by decide) (hts (.fieldLink RX0 34 "BranchTimes" "me" "I") (by decide +kernel)) (fun _ h9 => h9) rfl hin rfl (by decide +kernel) rfl rfl (Nat.le_of_ble_eq_true rfl) dX0_init_57 (fun H locs hP hD hS => ?_)
  have hP : va_P (dC, dI) vwCl [(h, .inr (0, [.int (xMe0 me), .int v1, .ref a1, .ref a2, .ref a3, .ref a4, .ref a5])), (a1, .inl (cA, 10, .inl (fun _ => 0))), (a2, .inl (cA, 8, .inl (fun _ => 0))), (a3, .inl (cA, 136, .inl (fun _ => 0))), (a4, .inl (cA, 8, .inl (fun _ => 0))), (a5, .inl (cA, 128, .inl (fun _ => 0)))] H := hP
  have hD : va_D A [(h, .inr (0, [.int (xMe0 me), .int v1, .ref a1, .ref a2, .ref a3, .ref a4, .ref a5])), (a1, .inl (cA, 10, .inl (fun _ => 0))), (a2, .inl (cA, 8, .inl (fun _ => 0))), (a3, .inl (cA, 136, .inl (fun _ => 0))), (a4, .inl (cA, 8, .inl (fun _ => 0))), (a5, .inl (cA, 128, .inl (fun _ => 0)))] := hD
  refine lv_aload_n hx hb dX0_init_60 rfl (lv_at hl 0 rfl) ?_
  refine lv_iconst (v := 0) hx hb dX0_init_61 (by decide) ?_
  refine va_put (D := (dC, dI)) (ci := 0) (v := .int 0) (ty := .int) (C := RX0) (T := TX0) (N := 7) hx hb hts iwsX0_init tyX0 tyX0_ok nmX0 hown hK hP hD hS 0 rfl rfl 1 (by decide) (hts (.fieldLink RX0 38 "BranchTimes" "time" "I") (by decide +kernel)) (fun _ h9 => h9) rfl (by decide +kernel) rfl rfl (Nat.le_of_ble_eq_true rfl) dX0_init_62 (fun H locs hP hD hS => ?_)
  have hP9 : va_P (dC, dI) vwCl (wX h a1 a2 a3 a4 a5 cA (xMe0 me) 0 (fun _ => 0) (fun _ => 0) (fun _ => 0) (fun _ => 0) (fun _ => 0)) H := hP
  have hD9 : va_D A (wX h a1 a2 a3 a4 a5 cA (xMe0 me) 0 (fun _ => 0) (fun _ => 0) (fun _ => 0) (fun _ => 0) (fun _ => 0)) := hD
  refine W.widen (k := 5) (n := 290) (Nat.le_of_ble_eq_true rfl) (Nat.le_of_ble_eq_true rfl) ?_
  exact W.vret hx hb hr (fun t ht hW => ⟨⟨(), rfl, trivial, a1, a2, a3, a4, a5, _, by rw [ht]; exact hP9, va_K.moved hW.alike hK, hD9⟩, hS.F ht⟩) hS.2.2 dX0_init_65
theorem iwsX1_init : ∀ w ∈ u_ws RX1 TX1 8, w ∈ wsX1_init := fun _ h => List.mem_cons_of_mem _ (List.mem_append_right _ h)
set_option maxHeartbeats 1000000 in
set_option maxRecDepth 100000 in
theorem c_X1_init (l : Launch) (dC : Nat → ClassId) (dI : Nat → Nat → Nat) (h : Nat) (v0 v1 me : Int32) (sz : Nat) : Met l yX1_init wsX1_init ({ frames := 1, cells := 6, slots := 426, locals := 21 }) (va_Pc [.ref h, .int me] (fun U => U.heap.size = sz ∧ va_P (dC, dI) vwCl [(h, .inr (1, [.int v0, .int v1, .null, .null, .null, .null, .null, .null]))] U.heap ∧ va_K (dC, dI) vwCl [] U ∧ va_D (fun _ => True) [(h, .inr (1, [.int v0, .int v1, .null, .null, .null, .null, .null, .null]))])) (va_Qv (fun _ : Unit => True) (fun _ t => ∃ (a1 a2 a3 a4 a5 a6 : Nat) (cA : ClassId), va_P (dC, dI) vwCl (wM h a1 a2 a3 a4 a5 a6 cA (mMe0 me) v1 (fillI (fun _ => 0) (-1 : Int32) 10) (fillI (fun _ => 0) (-1 : Int32) 8) (fun _ => 0) (fillI (fun _ => 0) (-1 : Int32) 136) (fun _ => 0) (fillI (fun _ => 0) (-1 : Int32) 128)) t.heap ∧ va_K (dC, dI) vwCl [(cA, .int)] t ∧ va_D (va_A [(h, .inr (1, [.int v0, .int v1, .null, .null, .null, .null, .null, .null]))] sz) (wM h a1 a2 a3 a4 a5 a6 cA (mMe0 me) v1 (fillI (fun _ => 0) (-1 : Int32) 10) (fillI (fun _ => 0) (-1 : Int32) 8) (fun _ => 0) (fillI (fun _ => 0) (-1 : Int32) 136) (fun _ => 0) (fillI (fun _ => 0) (-1 : Int32) 128))) (va_A [(h, .inr (1, [.int v0, .int v1, .null, .null, .null, .null, .null, .null]))] sz)) 6 426 (va_A [(h, .inr (1, [.int v0, .int v1, .null, .null, .null, .null, .null, .null]))] sz) := by
  refine Met.ofW (cc := cX1_init) (maxL := 2) (ret := none) (by decide) rfl ?_
  intro p e s m args below meth c s₁ B hml hv
  obtain ⟨rfl, hsz, hP, hK, hD0⟩ := hv
  have hx := B.exec
  have hb := B.bytes
  have hr := B.returns
  have hts := atoms_spec (ws := wsX1_init) B.pre
  have hown : s.vm.findClass RX1 = some m.cls := findClass_of_methodNamed B.named
  have hlocks := B.notSynchronized
  have hin : meth.name = "<init>" := (name_of_methodNamed B.named B.method).1
  have S : CallFix p m c cX1_init 2 s ([.ref h, .int me] : List Value).toArray wsX1_init RX1 := ⟨hx, hb, hml, hown, hts⟩
  subst hsz
  have hD := hD0.self (sz := s.heap.size)
  generalize hAe : va_A [(h, .inr (1, [.int v0, .int v1, .null, .null, .null, .null, .null, .null]))] s.heap.size = A at hD ⊢
  have hAA : ∀ q : Nat, s.heap.size ≤ q → A q := fun q h => by rw [← hAe]; exact Or.inr h
  have hS : va_S A s.heap s.heap [] := va_S.rf
  have hl := lv_entry ([.ref h, .int me]) (n := 2) (Nat.le_of_ble_eq_true rfl)
  rw [lg_entry_eq]
  generalize (lg_sl ([.ref h, .int me]) ++ List.replicate (2 - (lg_sl ([.ref h, .int me])).length) Slot.unset).toArray = ls at hl ⊢
  have hl : lv_has ls 2 [(0, .ref h), (1, .int me)] := hl
  refine lv_aload_n hx hb dX1_init_0 rfl (lv_at hl 0 rfl) ?_
  refine W.objInit hx hb hown (hts (.methodLink RX1 1 objectInit) (by decide +kernel)) (hts (.instanceMethod objectInit) (by decide +kernel)) (hts _ (List.mem_cons_of_mem _ (List.mem_append_left _ (List.mem_of_getElem? (i := 2) rfl)))) rfl (by rw [hml]; exact hl.1) rfl dX1_init_1 (Nat.le_of_ble_eq_true rfl) (Nat.le_of_ble_eq_true rfl) ?_
  refine W.eq (g2 := F0 m 4 ls []) rfl ?_
  refine lv_aload_n hx hb dX1_init_4 rfl (lv_at hl 0 rfl) ?_
  refine lv_bipush (v := 10) hx hb dX1_init_5 (by decide) ?_
  refine va_newa (D := (dC, dI)) (atype := .int) (ty := .int) (N' := 10) (a0 := (10, .inl (fun _ => 0))) hx hb (hts (.arrayClass .int) (by decide +kernel)) rfl hK hP hD hS hAA (fun _ => rfl) (by decide +kernel) (by decide +kernel) (by decide +kernel) (Nat.le_of_ble_eq_true rfl) (Nat.le_of_ble_eq_true rfl) dX1_init_7 (fun a1 cA H hK hP hD hS => ?_)
  have hK : va_K (dC, dI) vwCl [(cA, .int)] s := hK
  have hP : va_P (dC, dI) vwCl [(h, .inr (1, [.int v0, .int v1, .null, .null, .null, .null, .null, .null])), (a1, .inl (cA, 10, .inl (fun _ => 0)))] H := hP
  have hD : va_D A [(h, .inr (1, [.int v0, .int v1, .null, .null, .null, .null, .null, .null])), (a1, .inl (cA, 10, .inl (fun _ => 0)))] := hD
  refine va_putF (D := (dC, dI)) (ci := 1) (v := .ref a1) (ty := .array .int) (C := RX1) (T := TX1) (N := 8) hx hb hts iwsX1_init tyX1 tyX1_ok nmX1 hown hK hP hD hS 0 rfl rfl 2 (by decide) (hts (.fieldLink RX1 7 "BranchTimesModel" "helloAt" "[I") (by decide +kernel)) (fun _ h9 => h9) rfl hin rfl (by decide +kernel) rfl rfl (Nat.le_of_ble_eq_true rfl) dX1_init_9 (fun H locs hP hD hS => ?_)
  have hP : va_P (dC, dI) vwCl [(h, .inr (1, [.int v0, .int v1, .ref a1, .null, .null, .null, .null, .null])), (a1, .inl (cA, 10, .inl (fun _ => 0)))] H := hP
  have hD : va_D A [(h, .inr (1, [.int v0, .int v1, .ref a1, .null, .null, .null, .null, .null])), (a1, .inl (cA, 10, .inl (fun _ => 0)))] := hD
  refine lv_aload_n hx hb dX1_init_12 rfl (lv_at hl 0 rfl) ?_
  refine lv_bipush (v := 8) hx hb dX1_init_13 (by decide) ?_
  refine va_newa (D := (dC, dI)) (atype := .int) (ty := .int) (N' := 8) (a0 := (8, .inl (fun _ => 0))) hx hb (hts (.arrayClass .int) (by decide +kernel)) rfl hK hP hD hS hAA (fun _ => rfl) (by decide +kernel) (by decide +kernel) (by decide +kernel) (Nat.le_of_ble_eq_true rfl) (Nat.le_of_ble_eq_true rfl) dX1_init_15 (fun a2 cB H hK hP hD hS => ?_)
  have hcc : cA = cB := (int_one hK).symm
  subst hcc
  have hK : va_K (dC, dI) vwCl [(cA, .int)] s := hK.sub [0] rfl
  have hP : va_P (dC, dI) vwCl [(h, .inr (1, [.int v0, .int v1, .ref a1, .null, .null, .null, .null, .null])), (a1, .inl (cA, 10, .inl (fun _ => 0))), (a2, .inl (cA, 8, .inl (fun _ => 0)))] H := hP
  have hD : va_D A [(h, .inr (1, [.int v0, .int v1, .ref a1, .null, .null, .null, .null, .null])), (a1, .inl (cA, 10, .inl (fun _ => 0))), (a2, .inl (cA, 8, .inl (fun _ => 0)))] := hD
  refine va_putF (D := (dC, dI)) (ci := 1) (v := .ref a2) (ty := .array .int) (C := RX1) (T := TX1) (N := 8) hx hb hts iwsX1_init tyX1 tyX1_ok nmX1 hown hK hP hD hS 0 rfl rfl 3 (by decide) (hts (.fieldLink RX1 13 "BranchTimesModel" "reportAt" "[I") (by decide +kernel)) (fun _ h9 => h9) rfl hin rfl (by decide +kernel) rfl rfl (Nat.le_of_ble_eq_true rfl) dX1_init_17 (fun H locs hP hD hS => ?_)
  have hP : va_P (dC, dI) vwCl [(h, .inr (1, [.int v0, .int v1, .ref a1, .ref a2, .null, .null, .null, .null])), (a1, .inl (cA, 10, .inl (fun _ => 0))), (a2, .inl (cA, 8, .inl (fun _ => 0)))] H := hP
  have hD : va_D A [(h, .inr (1, [.int v0, .int v1, .ref a1, .ref a2, .null, .null, .null, .null])), (a1, .inl (cA, 10, .inl (fun _ => 0))), (a2, .inl (cA, 8, .inl (fun _ => 0)))] := hD
  refine lv_aload_n hx hb dX1_init_20 rfl (lv_at hl 0 rfl) ?_
  refine lv_bipush (v := 8) hx hb dX1_init_21 (by decide) ?_
  refine va_newa (D := (dC, dI)) (atype := .int) (ty := .int) (N' := 8) (a0 := (8, .inl (fun _ => 0))) hx hb (hts (.arrayClass .int) (by decide +kernel)) rfl hK hP hD hS hAA (fun _ => rfl) (by decide +kernel) (by decide +kernel) (by decide +kernel) (Nat.le_of_ble_eq_true rfl) (Nat.le_of_ble_eq_true rfl) dX1_init_23 (fun a3 cB H hK hP hD hS => ?_)
  have hcc : cA = cB := (int_one hK).symm
  subst hcc
  have hK : va_K (dC, dI) vwCl [(cA, .int)] s := hK.sub [0] rfl
  have hP : va_P (dC, dI) vwCl [(h, .inr (1, [.int v0, .int v1, .ref a1, .ref a2, .null, .null, .null, .null])), (a1, .inl (cA, 10, .inl (fun _ => 0))), (a2, .inl (cA, 8, .inl (fun _ => 0))), (a3, .inl (cA, 8, .inl (fun _ => 0)))] H := hP
  have hD : va_D A [(h, .inr (1, [.int v0, .int v1, .ref a1, .ref a2, .null, .null, .null, .null])), (a1, .inl (cA, 10, .inl (fun _ => 0))), (a2, .inl (cA, 8, .inl (fun _ => 0))), (a3, .inl (cA, 8, .inl (fun _ => 0)))] := hD
  refine va_putF (D := (dC, dI)) (ci := 1) (v := .ref a3) (ty := .array .int) (C := RX1) (T := TX1) (N := 8) hx hb hts iwsX1_init tyX1 tyX1_ok nmX1 hown hK hP hD hS 0 rfl rfl 4 (by decide) (hts (.fieldLink RX1 16 "BranchTimesModel" "leftTill" "[I") (by decide +kernel)) (fun _ h9 => h9) rfl hin rfl (by decide +kernel) rfl rfl (Nat.le_of_ble_eq_true rfl) dX1_init_25 (fun H locs hP hD hS => ?_)
  have hP : va_P (dC, dI) vwCl [(h, .inr (1, [.int v0, .int v1, .ref a1, .ref a2, .ref a3, .null, .null, .null])), (a1, .inl (cA, 10, .inl (fun _ => 0))), (a2, .inl (cA, 8, .inl (fun _ => 0))), (a3, .inl (cA, 8, .inl (fun _ => 0)))] H := hP
  have hD : va_D A [(h, .inr (1, [.int v0, .int v1, .ref a1, .ref a2, .ref a3, .null, .null, .null])), (a1, .inl (cA, 10, .inl (fun _ => 0))), (a2, .inl (cA, 8, .inl (fun _ => 0))), (a3, .inl (cA, 8, .inl (fun _ => 0)))] := hD
  refine lv_aload_n hx hb dX1_init_28 rfl (lv_at hl 0 rfl) ?_
  refine lv_sipush (v := 136) hx hb dX1_init_29 (by decide) ?_
  refine va_newa (D := (dC, dI)) (atype := .int) (ty := .int) (N' := 136) (a0 := (136, .inl (fun _ => 0))) hx hb (hts (.arrayClass .int) (by decide +kernel)) rfl hK hP hD hS hAA (fun _ => rfl) (by decide +kernel) (by decide +kernel) (by decide +kernel) (Nat.le_of_ble_eq_true rfl) (Nat.le_of_ble_eq_true rfl) dX1_init_32 (fun a4 cB H hK hP hD hS => ?_)
  have hcc : cA = cB := (int_one hK).symm
  subst hcc
  have hK : va_K (dC, dI) vwCl [(cA, .int)] s := hK.sub [0] rfl
  have hP : va_P (dC, dI) vwCl [(h, .inr (1, [.int v0, .int v1, .ref a1, .ref a2, .ref a3, .null, .null, .null])), (a1, .inl (cA, 10, .inl (fun _ => 0))), (a2, .inl (cA, 8, .inl (fun _ => 0))), (a3, .inl (cA, 8, .inl (fun _ => 0))), (a4, .inl (cA, 136, .inl (fun _ => 0)))] H := hP
  have hD : va_D A [(h, .inr (1, [.int v0, .int v1, .ref a1, .ref a2, .ref a3, .null, .null, .null])), (a1, .inl (cA, 10, .inl (fun _ => 0))), (a2, .inl (cA, 8, .inl (fun _ => 0))), (a3, .inl (cA, 8, .inl (fun _ => 0))), (a4, .inl (cA, 136, .inl (fun _ => 0)))] := hD
  refine va_putF (D := (dC, dI)) (ci := 1) (v := .ref a4) (ty := .array .int) (C := RX1) (T := TX1) (N := 8) hx hb hts iwsX1_init tyX1 tyX1_ok nmX1 hown hK hP hD hS 0 rfl rfl 5 (by decide) (hts (.fieldLink RX1 19 "BranchTimesModel" "joinAt" "[I") (by decide +kernel)) (fun _ h9 => h9) rfl hin rfl (by decide +kernel) rfl rfl (Nat.le_of_ble_eq_true rfl) dX1_init_34 (fun H locs hP hD hS => ?_)
  have hP : va_P (dC, dI) vwCl [(h, .inr (1, [.int v0, .int v1, .ref a1, .ref a2, .ref a3, .ref a4, .null, .null])), (a1, .inl (cA, 10, .inl (fun _ => 0))), (a2, .inl (cA, 8, .inl (fun _ => 0))), (a3, .inl (cA, 8, .inl (fun _ => 0))), (a4, .inl (cA, 136, .inl (fun _ => 0)))] H := hP
  have hD : va_D A [(h, .inr (1, [.int v0, .int v1, .ref a1, .ref a2, .ref a3, .ref a4, .null, .null])), (a1, .inl (cA, 10, .inl (fun _ => 0))), (a2, .inl (cA, 8, .inl (fun _ => 0))), (a3, .inl (cA, 8, .inl (fun _ => 0))), (a4, .inl (cA, 136, .inl (fun _ => 0)))] := hD
  refine lv_aload_n hx hb dX1_init_37 rfl (lv_at hl 0 rfl) ?_
  refine lv_sipush (v := 136) hx hb dX1_init_38 (by decide) ?_
  refine va_newa (D := (dC, dI)) (atype := .int) (ty := .int) (N' := 136) (a0 := (136, .inl (fun _ => 0))) hx hb (hts (.arrayClass .int) (by decide +kernel)) rfl hK hP hD hS hAA (fun _ => rfl) (by decide +kernel) (by decide +kernel) (by decide +kernel) (Nat.le_of_ble_eq_true rfl) (Nat.le_of_ble_eq_true rfl) dX1_init_41 (fun a5 cB H hK hP hD hS => ?_)
  have hcc : cA = cB := (int_one hK).symm
  subst hcc
  have hK : va_K (dC, dI) vwCl [(cA, .int)] s := hK.sub [0] rfl
  have hP : va_P (dC, dI) vwCl [(h, .inr (1, [.int v0, .int v1, .ref a1, .ref a2, .ref a3, .ref a4, .null, .null])), (a1, .inl (cA, 10, .inl (fun _ => 0))), (a2, .inl (cA, 8, .inl (fun _ => 0))), (a3, .inl (cA, 8, .inl (fun _ => 0))), (a4, .inl (cA, 136, .inl (fun _ => 0))), (a5, .inl (cA, 136, .inl (fun _ => 0)))] H := hP
  have hD : va_D A [(h, .inr (1, [.int v0, .int v1, .ref a1, .ref a2, .ref a3, .ref a4, .null, .null])), (a1, .inl (cA, 10, .inl (fun _ => 0))), (a2, .inl (cA, 8, .inl (fun _ => 0))), (a3, .inl (cA, 8, .inl (fun _ => 0))), (a4, .inl (cA, 136, .inl (fun _ => 0))), (a5, .inl (cA, 136, .inl (fun _ => 0)))] := hD
  refine va_putF (D := (dC, dI)) (ci := 1) (v := .ref a5) (ty := .array .int) (C := RX1) (T := TX1) (N := 8) hx hb hts iwsX1_init tyX1 tyX1_ok nmX1 hown hK hP hD hS 0 rfl rfl 6 (by decide) (hts (.fieldLink RX1 22 "BranchTimesModel" "prunedTill" "[I") (by decide +kernel)) (fun _ h9 => h9) rfl hin rfl (by decide +kernel) rfl rfl (Nat.le_of_ble_eq_true rfl) dX1_init_43 (fun H locs hP hD hS => ?_)
  have hP : va_P (dC, dI) vwCl [(h, .inr (1, [.int v0, .int v1, .ref a1, .ref a2, .ref a3, .ref a4, .ref a5, .null])), (a1, .inl (cA, 10, .inl (fun _ => 0))), (a2, .inl (cA, 8, .inl (fun _ => 0))), (a3, .inl (cA, 8, .inl (fun _ => 0))), (a4, .inl (cA, 136, .inl (fun _ => 0))), (a5, .inl (cA, 136, .inl (fun _ => 0)))] H := hP
  have hD : va_D A [(h, .inr (1, [.int v0, .int v1, .ref a1, .ref a2, .ref a3, .ref a4, .ref a5, .null])), (a1, .inl (cA, 10, .inl (fun _ => 0))), (a2, .inl (cA, 8, .inl (fun _ => 0))), (a3, .inl (cA, 8, .inl (fun _ => 0))), (a4, .inl (cA, 136, .inl (fun _ => 0))), (a5, .inl (cA, 136, .inl (fun _ => 0)))] := hD
  refine lv_aload_n hx hb dX1_init_46 rfl (lv_at hl 0 rfl) ?_
  refine lv_sipush (v := 128) hx hb dX1_init_47 (by decide) ?_
  refine va_newa (D := (dC, dI)) (atype := .int) (ty := .int) (N' := 128) (a0 := (128, .inl (fun _ => 0))) hx hb (hts (.arrayClass .int) (by decide +kernel)) rfl hK hP hD hS hAA (fun _ => rfl) (by decide +kernel) (by decide +kernel) (by decide +kernel) (Nat.le_of_ble_eq_true rfl) (Nat.le_of_ble_eq_true rfl) dX1_init_50 (fun a6 cB H hK hP hD hS => ?_)
  have hcc : cA = cB := (int_one hK).symm
  subst hcc
  have hK : va_K (dC, dI) vwCl [(cA, .int)] s := hK.sub [0] rfl
  have hP : va_P (dC, dI) vwCl [(h, .inr (1, [.int v0, .int v1, .ref a1, .ref a2, .ref a3, .ref a4, .ref a5, .null])), (a1, .inl (cA, 10, .inl (fun _ => 0))), (a2, .inl (cA, 8, .inl (fun _ => 0))), (a3, .inl (cA, 8, .inl (fun _ => 0))), (a4, .inl (cA, 136, .inl (fun _ => 0))), (a5, .inl (cA, 136, .inl (fun _ => 0))), (a6, .inl (cA, 128, .inl (fun _ => 0)))] H := hP
  have hD : va_D A [(h, .inr (1, [.int v0, .int v1, .ref a1, .ref a2, .ref a3, .ref a4, .ref a5, .null])), (a1, .inl (cA, 10, .inl (fun _ => 0))), (a2, .inl (cA, 8, .inl (fun _ => 0))), (a3, .inl (cA, 8, .inl (fun _ => 0))), (a4, .inl (cA, 136, .inl (fun _ => 0))), (a5, .inl (cA, 136, .inl (fun _ => 0))), (a6, .inl (cA, 128, .inl (fun _ => 0)))] := hD
  refine va_putF (D := (dC, dI)) (ci := 1) (v := .ref a6) (ty := .array .int) (C := RX1) (T := TX1) (N := 8) hx hb hts iwsX1_init tyX1 tyX1_ok nmX1 hown hK hP hD hS 0 rfl rfl 7 (by decide) (hts (.fieldLink RX1 25 "BranchTimesModel" "cutFrom" "[I") (by decide +kernel)) (fun _ h9 => h9) rfl hin rfl (by decide +kernel) rfl rfl (Nat.le_of_ble_eq_true rfl) dX1_init_52 (fun H locs hP hD hS => ?_)
  have hP : va_P (dC, dI) vwCl [(h, .inr (1, [.int v0, .int v1, .ref a1, .ref a2, .ref a3, .ref a4, .ref a5, .ref a6])), (a1, .inl (cA, 10, .inl (fun _ => 0))), (a2, .inl (cA, 8, .inl (fun _ => 0))), (a3, .inl (cA, 8, .inl (fun _ => 0))), (a4, .inl (cA, 136, .inl (fun _ => 0))), (a5, .inl (cA, 136, .inl (fun _ => 0))), (a6, .inl (cA, 128, .inl (fun _ => 0)))] H := hP
  have hD : va_D A [(h, .inr (1, [.int v0, .int v1, .ref a1, .ref a2, .ref a3, .ref a4, .ref a5, .ref a6])), (a1, .inl (cA, 10, .inl (fun _ => 0))), (a2, .inl (cA, 8, .inl (fun _ => 0))), (a3, .inl (cA, 8, .inl (fun _ => 0))), (a4, .inl (cA, 136, .inl (fun _ => 0))), (a5, .inl (cA, 136, .inl (fun _ => 0))), (a6, .inl (cA, 128, .inl (fun _ => 0)))] := hD
  refine lv_aload_n hx hb dX1_init_55 rfl (lv_at hl 0 rfl) ?_
  refine lv_iload_n hx hb dX1_init_56 rfl (lv_at hl 1 rfl) ?_
  refine lv_if_ge (tgt := 64) hx hb dX1_init_57 (by decide) (fun c57 => ?_) (fun c57 => ?_)
  · refine lv_iload_n hx hb dX1_init_64 rfl (lv_at hl 1 rfl) ?_
    refine lv_bipush (v := 9) hx hb dX1_init_65 (by decide) ?_
    refine lv_icmp_le (tgt := 75) hx hb dX1_init_67 (by decide) (fun c67 => ?_) (fun c67 => ?_)
    · refine lv_iload_n hx hb dX1_init_75 rfl (lv_at hl 1 rfl) ?_
      refine lv_top (x' := mMe0 me) (by simp [mMe0, c57, c67]) ?_
      refine va_putF (D := (dC, dI)) (ci := 1) (v := .int (mMe0 me)) (ty := .int) (C := RX1) (T := TX1) (N := 8) hx hb hts iwsX1_init tyX1 tyX1_ok nmX1 hown hK hP hD hS 0 rfl rfl 0 (by decide) (hts (.fieldLink RX1 28 "BranchTimesModel" "me" "I") (by decide +kernel)) (fun _ h9 => h9) rfl hin rfl (by decide +kernel) rfl rfl (Nat.le_of_ble_eq_true rfl) dX1_init_76 (fun H locs hP hD hS => ?_)
      have hP : va_P (dC, dI) vwCl [(h, .inr (1, [.int (mMe0 me), .int v1, .ref a1, .ref a2, .ref a3, .ref a4, .ref a5, .ref a6])), (a1, .inl (cA, 10, .inl (fun _ => 0))), (a2, .inl (cA, 8, .inl (fun _ => 0))), (a3, .inl (cA, 8, .inl (fun _ => 0))), (a4, .inl (cA, 136, .inl (fun _ => 0))), (a5, .inl (cA, 136, .inl (fun _ => 0))), (a6, .inl (cA, 128, .inl (fun _ => 0)))] H := hP
      have hD : va_D A [(h, .inr (1, [.int (mMe0 me), .int v1, .ref a1, .ref a2, .ref a3, .ref a4, .ref a5, .ref a6])), (a1, .inl (cA, 10, .inl (fun _ => 0))), (a2, .inl (cA, 8, .inl (fun _ => 0))), (a3, .inl (cA, 8, .inl (fun _ => 0))), (a4, .inl (cA, 136, .inl (fun _ => 0))), (a5, .inl (cA, 136, .inl (fun _ => 0))), (a6, .inl (cA, 128, .inl (fun _ => 0)))] := hD
      have hP : va_P (dC, dI) vwCl (wM h a1 a2 a3 a4 a5 a6 cA (mMe0 me) v1 (fun _ => 0) (fun _ => 0) (fun _ => 0) (fun _ => 0) (fun _ => 0) (fun _ => 0)) H := hP
      have hD : va_D A (wM h a1 a2 a3 a4 a5 a6 cA (mMe0 me) v1 (fun _ => 0) (fun _ => 0) (fun _ => 0) (fun _ => 0) (fun _ => 0) (fun _ => 0)) := hD
      refine lv_aload_n hx hb dX1_init_79 rfl (lv_at hl 0 rfl) ?_
      refine wr_Vv (As := []) (rest := []) (ci := 1) (qc := (RX1, TX1, 8)) (wr := []) (A0 := A) S (c_X1_forgetAll l dC dI h a1 a2 a3 a4 a5 a6 cA (mMe0 me) v1 (fun _ => 0) (fun _ => 0) (fun _ => 0) (fun _ => 0) (fun _ => 0) (fun _ => 0) _) gX1_init_X1_forgetAll rfl ⟨rfl, rfl⟩ hd_X1_forgetAll ⟨Nat.le_of_ble_eq_true rfl, Nat.le_of_ble_eq_true rfl⟩ hK hP hD hS hAA [0, 1, 2, 3, 4, 5, 6] [] rfl rfl (by decide) (by decide) (by decide) rfl rfl rfl rfl hl.1 rfl (Nat.le_of_ble_eq_true rfl) dX1_init_80 ⟨Nat.le_of_ble_eq_true rfl, Nat.le_of_ble_eq_true rfl⟩ (fun H locs hP hD hS => ?_)
      have hP9 : va_P (dC, dI) vwCl (wM h a1 a2 a3 a4 a5 a6 cA (mMe0 me) v1 (fillI (fun _ => 0) (-1 : Int32) 10) (fillI (fun _ => 0) (-1 : Int32) 8) (fun _ => 0) (fillI (fun _ => 0) (-1 : Int32) 136) (fun _ => 0) (fillI (fun _ => 0) (-1 : Int32) 128)) H := hP
      have hD9 : va_D A (wM h a1 a2 a3 a4 a5 a6 cA (mMe0 me) v1 (fillI (fun _ => 0) (-1 : Int32) 10) (fillI (fun _ => 0) (-1 : Int32) 8) (fun _ => 0) (fillI (fun _ => 0) (-1 : Int32) 136) (fun _ => 0) (fillI (fun _ => 0) (-1 : Int32) 128)) := hD
      refine W.widen (k := 6) (n := 426) (Nat.le_of_ble_eq_true rfl) (Nat.le_of_ble_eq_true rfl) ?_
      exact W.vret hx hb hr (fun t ht hW => ⟨⟨(), rfl, trivial, a1, a2, a3, a4, a5, a6, _, by rw [ht]; exact hP9, va_K.moved hW.alike hK, hD9⟩, hS.F ht⟩) hS.2.2 dX1_init_83
    · refine lv_bipush (v := 9) hx hb dX1_init_70 (by decide) ?_
      refine lv_goto (tgt := 76) hx hb dX1_init_72 (by decide) ?_
      refine lv_top (x' := mMe0 me) (by simp [mMe0, c57, c67]) ?_
      refine va_putF (D := (dC, dI)) (ci := 1) (v := .int (mMe0 me)) (ty := .int) (C := RX1) (T := TX1) (N := 8) hx hb hts iwsX1_init tyX1 tyX1_ok nmX1 hown hK hP hD hS 0 rfl rfl 0 (by decide) (hts (.fieldLink RX1 28 "BranchTimesModel" "me" "I") (by decide +kernel)) (fun _ h9 => h9) rfl hin rfl (by decide +kernel) rfl rfl (Nat.le_of_ble_eq_true rfl) dX1_init_76 (fun H locs hP hD hS => ?_)
      have hP : va_P (dC, dI) vwCl [(h, .inr (1, [.int (mMe0 me), .int v1, .ref a1, .ref a2, .ref a3, .ref a4, .ref a5, .ref a6])), (a1, .inl (cA, 10, .inl (fun _ => 0))), (a2, .inl (cA, 8, .inl (fun _ => 0))), (a3, .inl (cA, 8, .inl (fun _ => 0))), (a4, .inl (cA, 136, .inl (fun _ => 0))), (a5, .inl (cA, 136, .inl (fun _ => 0))), (a6, .inl (cA, 128, .inl (fun _ => 0)))] H := hP
      have hD : va_D A [(h, .inr (1, [.int (mMe0 me), .int v1, .ref a1, .ref a2, .ref a3, .ref a4, .ref a5, .ref a6])), (a1, .inl (cA, 10, .inl (fun _ => 0))), (a2, .inl (cA, 8, .inl (fun _ => 0))), (a3, .inl (cA, 8, .inl (fun _ => 0))), (a4, .inl (cA, 136, .inl (fun _ => 0))), (a5, .inl (cA, 136, .inl (fun _ => 0))), (a6, .inl (cA, 128, .inl (fun _ => 0)))] := hD
      have hP : va_P (dC, dI) vwCl (wM h a1 a2 a3 a4 a5 a6 cA (mMe0 me) v1 (fun _ => 0) (fun _ => 0) (fun _ => 0) (fun _ => 0) (fun _ => 0) (fun _ => 0)) H := hP
      have hD : va_D A (wM h a1 a2 a3 a4 a5 a6 cA (mMe0 me) v1 (fun _ => 0) (fun _ => 0) (fun _ => 0) (fun _ => 0) (fun _ => 0) (fun _ => 0)) := hD
      refine lv_aload_n hx hb dX1_init_79 rfl (lv_at hl 0 rfl) ?_
      refine wr_Vv (As := []) (rest := []) (ci := 1) (qc := (RX1, TX1, 8)) (wr := []) (A0 := A) S (c_X1_forgetAll l dC dI h a1 a2 a3 a4 a5 a6 cA (mMe0 me) v1 (fun _ => 0) (fun _ => 0) (fun _ => 0) (fun _ => 0) (fun _ => 0) (fun _ => 0) _) gX1_init_X1_forgetAll rfl ⟨rfl, rfl⟩ hd_X1_forgetAll ⟨Nat.le_of_ble_eq_true rfl, Nat.le_of_ble_eq_true rfl⟩ hK hP hD hS hAA [0, 1, 2, 3, 4, 5, 6] [] rfl rfl (by decide) (by decide) (by decide) rfl rfl rfl rfl hl.1 rfl (Nat.le_of_ble_eq_true rfl) dX1_init_80 ⟨Nat.le_of_ble_eq_true rfl, Nat.le_of_ble_eq_true rfl⟩ (fun H locs hP hD hS => ?_)
      have hP9 : va_P (dC, dI) vwCl (wM h a1 a2 a3 a4 a5 a6 cA (mMe0 me) v1 (fillI (fun _ => 0) (-1 : Int32) 10) (fillI (fun _ => 0) (-1 : Int32) 8) (fun _ => 0) (fillI (fun _ => 0) (-1 : Int32) 136) (fun _ => 0) (fillI (fun _ => 0) (-1 : Int32) 128)) H := hP
      have hD9 : va_D A (wM h a1 a2 a3 a4 a5 a6 cA (mMe0 me) v1 (fillI (fun _ => 0) (-1 : Int32) 10) (fillI (fun _ => 0) (-1 : Int32) 8) (fun _ => 0) (fillI (fun _ => 0) (-1 : Int32) 136) (fun _ => 0) (fillI (fun _ => 0) (-1 : Int32) 128)) := hD
      refine W.widen (k := 6) (n := 426) (Nat.le_of_ble_eq_true rfl) (Nat.le_of_ble_eq_true rfl) ?_
      exact W.vret hx hb hr (fun t ht hW => ⟨⟨(), rfl, trivial, a1, a2, a3, a4, a5, a6, _, by rw [ht]; exact hP9, va_K.moved hW.alike hK, hD9⟩, hS.F ht⟩) hS.2.2 dX1_init_83
  · refine lv_iconst (v := 0) hx hb dX1_init_60 (by decide) ?_
    refine lv_goto (tgt := 76) hx hb dX1_init_61 (by decide) ?_
    refine lv_top (x' := mMe0 me) (by simp [mMe0, c57]) ?_
    refine va_putF (D := (dC, dI)) (ci := 1) (v := .int (mMe0 me)) (ty := .int) (C := RX1) (T := TX1) (N := 8) hx hb hts iwsX1_init tyX1 tyX1_ok nmX1 hown hK hP hD hS 0 rfl rfl 0 (by decide) (hts (.fieldLink RX1 28 "BranchTimesModel" "me" "I") (by decide +kernel)) (fun _ h9 => h9) rfl hin rfl (by decide +kernel) rfl rfl (Nat.le_of_ble_eq_true rfl) dX1_init_76 (fun H locs hP hD hS => ?_)
    have hP : va_P (dC, dI) vwCl [(h, .inr (1, [.int (mMe0 me), .int v1, .ref a1, .ref a2, .ref a3, .ref a4, .ref a5, .ref a6])), (a1, .inl (cA, 10, .inl (fun _ => 0))), (a2, .inl (cA, 8, .inl (fun _ => 0))), (a3, .inl (cA, 8, .inl (fun _ => 0))), (a4, .inl (cA, 136, .inl (fun _ => 0))), (a5, .inl (cA, 136, .inl (fun _ => 0))), (a6, .inl (cA, 128, .inl (fun _ => 0)))] H := hP
    have hD : va_D A [(h, .inr (1, [.int (mMe0 me), .int v1, .ref a1, .ref a2, .ref a3, .ref a4, .ref a5, .ref a6])), (a1, .inl (cA, 10, .inl (fun _ => 0))), (a2, .inl (cA, 8, .inl (fun _ => 0))), (a3, .inl (cA, 8, .inl (fun _ => 0))), (a4, .inl (cA, 136, .inl (fun _ => 0))), (a5, .inl (cA, 136, .inl (fun _ => 0))), (a6, .inl (cA, 128, .inl (fun _ => 0)))] := hD
    have hP : va_P (dC, dI) vwCl (wM h a1 a2 a3 a4 a5 a6 cA (mMe0 me) v1 (fun _ => 0) (fun _ => 0) (fun _ => 0) (fun _ => 0) (fun _ => 0) (fun _ => 0)) H := hP
    have hD : va_D A (wM h a1 a2 a3 a4 a5 a6 cA (mMe0 me) v1 (fun _ => 0) (fun _ => 0) (fun _ => 0) (fun _ => 0) (fun _ => 0) (fun _ => 0)) := hD
    refine lv_aload_n hx hb dX1_init_79 rfl (lv_at hl 0 rfl) ?_
    refine wr_Vv (As := []) (rest := []) (ci := 1) (qc := (RX1, TX1, 8)) (wr := []) (A0 := A) S (c_X1_forgetAll l dC dI h a1 a2 a3 a4 a5 a6 cA (mMe0 me) v1 (fun _ => 0) (fun _ => 0) (fun _ => 0) (fun _ => 0) (fun _ => 0) (fun _ => 0) _) gX1_init_X1_forgetAll rfl ⟨rfl, rfl⟩ hd_X1_forgetAll ⟨Nat.le_of_ble_eq_true rfl, Nat.le_of_ble_eq_true rfl⟩ hK hP hD hS hAA [0, 1, 2, 3, 4, 5, 6] [] rfl rfl (by decide) (by decide) (by decide) rfl rfl rfl rfl hl.1 rfl (Nat.le_of_ble_eq_true rfl) dX1_init_80 ⟨Nat.le_of_ble_eq_true rfl, Nat.le_of_ble_eq_true rfl⟩ (fun H locs hP hD hS => ?_)
    have hP9 : va_P (dC, dI) vwCl (wM h a1 a2 a3 a4 a5 a6 cA (mMe0 me) v1 (fillI (fun _ => 0) (-1 : Int32) 10) (fillI (fun _ => 0) (-1 : Int32) 8) (fun _ => 0) (fillI (fun _ => 0) (-1 : Int32) 136) (fun _ => 0) (fillI (fun _ => 0) (-1 : Int32) 128)) H := hP
    have hD9 : va_D A (wM h a1 a2 a3 a4 a5 a6 cA (mMe0 me) v1 (fillI (fun _ => 0) (-1 : Int32) 10) (fillI (fun _ => 0) (-1 : Int32) 8) (fun _ => 0) (fillI (fun _ => 0) (-1 : Int32) 136) (fun _ => 0) (fillI (fun _ => 0) (-1 : Int32) 128)) := hD
    refine W.widen (k := 6) (n := 426) (Nat.le_of_ble_eq_true rfl) (Nat.le_of_ble_eq_true rfl) ?_
    exact W.vret hx hb hr (fun t ht hW => ⟨⟨(), rfl, trivial, a1, a2, a3, a4, a5, a6, _, by rw [ht]; exact hP9, va_K.moved hW.alike hK, hD9⟩, hS.F ht⟩) hS.2.2 dX1_init_83
set_option maxHeartbeats 1000000 in
set_option maxRecDepth 100000 in
theorem c_L_cell (l : Launch) (b L : Nat) (xs : Nat → Int32) (hL : L < 2 ^ 31) : Met l yL_cell wsL_cell ({ frames := 0, cells := 0, slots := 0, locals := 0 }) (va_Pc [.ref b, .int 0] (fun U => va_X b L xs U U.heap)) (QcRead (if 0 < L then xs 0 else 0)) 0 0 (fun _ => False) := by
  refine Met.ofW (cc := cL_cell) (maxL := 2) (ret := some .int) (by decide) rfl ?_
  intro p e s m args below meth c s₁ B hml hv
  obtain ⟨rfl, hX⟩ := hv
  have hx := B.exec
  have hb := B.bytes
  have hr := B.returns
  have hlocks := B.notSynchronized
  have hl := lv_entry ([.ref b, .int 0]) (n := 2) (Nat.le_of_ble_eq_true rfl)
  rw [lg_entry_eq]
  generalize (lg_sl ([.ref b, .int 0]) ++ List.replicate (2 - (lg_sl ([.ref b, .int 0])).length) Slot.unset).toArray = ls at hl ⊢
  have hl : lv_has ls 2 [(0, .ref b), (1, .int 0)] := hl
  have hS : va_S (fun _ => False) s.heap s.heap [] := va_S.rf
  have hbl : b < s.heap.size := by
    obtain ⟨scr, h1, -⟩ := hX
    exact (Array.getElem?_eq_some_iff.mp h1).1
  refine lv_iload_n hx hb dL_cell_0 rfl (lv_at hl 1 rfl) ?_
  refine lv_aload_n hx hb dL_cell_1 rfl (lv_at hl 0 rfl) ?_
  refine va_slen hx hb hX hbl (fun h => h) hS dL_cell_2 ?_
  refine lv_icmp_ge (tgt := 12) hx hb dL_cell_3 (by decide) (fun c3 => ?_) (fun c3 => ?_)
  · have h0 : ¬ 0 < L := fun h => absurd c3 (nI_nle h hL)
    refine lv_iconst (v := 0) hx hb dL_cell_12 (by decide) ?_
    have er : (0 : Int32) = (if 0 < L then xs 0 else 0) := by rw [if_neg h0]
    exact W.iret (v := 0) hx hb hr (fun t ht hW => ⟨congrArg (fun z => Outcome.returned (some (Value.int z))) er, ht⟩) (fun q h => absurd h List.not_mem_nil) dL_cell_13
  · have h0 : 0 < L := by
      rcases Nat.eq_zero_or_pos L with q | q
      · subst q; exact absurd (by decide) c3
      · exact q
    refine lv_aload_n hx hb dL_cell_6 rfl (lv_at hl 0 rfl) ?_
    refine lv_iload_n hx hb dL_cell_7 rfl (lv_at hl 1 rfl) ?_
    refine va_sld hx hb hX hbl (fun h => h) hS (vp_in_nI (n := 0) h0 hL) dL_cell_8 ?_
    refine lv_goto (tgt := 13) hx hb dL_cell_9 (by decide) ?_
    have er : xs (0 : Int32).toNatClampNeg = (if 0 < L then xs 0 else 0) := by rw [if_pos h0]; rfl
    exact W.iret (v := xs (0 : Int32).toNatClampNeg) hx hb hr (fun t ht hW => ⟨congrArg (fun z => Outcome.returned (some (Value.int z))) er, ht⟩) (fun q h => absurd h List.not_mem_nil) dL_cell_13
theorem hd_L_cell : yL_cell.cls ≠ "java/lang/invoke/MethodHandle" ∧ yL_cell.cls ≠ "java/lang/invoke/VarHandle" ∧ (parseMethodDescriptor yL_cell.desc).map (fun d => d.parameters.length) = some 2 := by decide +kernel
