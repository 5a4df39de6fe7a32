-- pictures of the cells
abbrev wX (h a1 a2 a3 a4 a5 : Nat) (cA : ClassId) (me tm : Int32) (fN fM fJ fT fC : Nat → Int32) : va_W := [(h, .inr (0, [.int me, .int tm, .ref a1, .ref a2, .ref a3, .ref a4, .ref a5])), (a1, .inl (cA, 10, .inl fN)), (a2, .inl (cA, 8, .inl fM)), (a3, .inl (cA, 136, .inl fJ)), (a4, .inl (cA, 8, .inl fT)), (a5, .inl (cA, 128, .inl fC))]
abbrev wM (h a1 a2 a3 a4 a5 a6 : Nat) (cA : ClassId) (me tm : Int32) (hA rA lT jA pT cF : Nat → Int32) : va_W := [(h, .inr (1, [.int me, .int tm, .ref a1, .ref a2, .ref a3, .ref a4, .ref a5, .ref a6])), (a1, .inl (cA, 10, .inl hA)), (a2, .inl (cA, 8, .inl rA)), (a3, .inl (cA, 8, .inl lT)), (a4, .inl (cA, 136, .inl jA)), (a5, .inl (cA, 136, .inl pT)), (a6, .inl (cA, 128, .inl cF))]
-- contracts' starts: of a reading method over a world, of a static one, of a writing one
def PR (av : List Value) (dC : Nat → ClassId) (dI : Nat → Nat → Nat) (cA : ClassId) (wd : va_W) : Array Value → State → Prop := va_Pc av (fun U => va_P (dC, dI) vwCl wd U.heap ∧ va_K (dC, dI) vwCl [(cA, .int)] U)
def PS (av : List Value) : Array Value → State → Prop := va_Pc av (fun _ => True)
def PW (av : List Value) (dC : Nat → ClassId) (dI : Nat → Nat → Nat) (cA : ClassId) (wd : va_W) (sz : Nat) : Array Value → State → Prop := va_Pc av (fun U => U.heap.size = sz ∧ va_P (dC, dI) vwCl wd U.heap ∧ va_K (dC, dI) vwCl [(cA, .int)] U ∧ va_D (fun _ => True) wd)
def QWi (dC : Nat → ClassId) (dI : Nat → Nat → Nat) (r : Int32) (wd wd' : va_W) (sz : Nat) : Array Value → State → Outcome → State → Prop := va_Qi (fun (r' : Int32) (_ : Unit) => r' = r) (fun _ t => va_P (dC, dI) vwCl wd' t.heap) (va_A wd sz)
def QWv (dC : Nat → ClassId) (dI : Nat → Nat → Nat) (wd wd' : va_W) (sz : Nat) : Array Value → State → Outcome → State → Prop := va_Qv (fun (_ : Unit) => True) (fun _ t => va_P (dC, dI) vwCl wd' t.heap) (va_A wd sz)
theorem PR_blind {av : List Value} {dC : Nat → ClassId} {dI : Nat → Nat → Nat} {cA : ClassId} {wd : va_W} : FrameBlind (PR av dC dI cA wd) := fun a U g mk q => ⟨q.1, q.2.1, va_K.moved (u := U) (U := U.calling g mk a) (Vm.Alike.refl U.vm) q.2.2⟩
theorem PS_blind {av : List Value} : FrameBlind (PS av) := fun _ _ _ _ q => ⟨q.1, trivial⟩
theorem PW_blind {av : List Value} {dC : Nat → ClassId} {dI : Nat → Nat → Nat} {cA : ClassId} {wd : va_W} {sz : Nat} : FrameBlind (PW av dC dI cA wd sz) := fun a U g mk q => ⟨q.1, q.2.1, q.2.2.1, va_K.moved (u := U) (U := U.calling g mk a) (Vm.Alike.refl U.vm) q.2.2.2.1, q.2.2.2.2⟩
/-- which cells are apart is a matter of their addresses alone -/
theorem D_same {A : Nat → Prop} {ws ws' : va_W} (h : va_D A ws) (e : ws'.map (fun q => q.1) = ws.map (fun q => q.1)) : va_D A ws' := by
  have key : ∀ (k : Nat) (q : Nat × va_E), ws'[k]? = some q → ∃ q2, ws[k]? = some q2 ∧ q2.1 = q.1 := by
    intro k q hq
    have h1 : (ws'.map (fun q => q.1))[k]? = some q.1 := by simp [hq]
    rw [e] at h1
    simp only [List.getElem?_map, Option.map_eq_some_iff] at h1
    exact h1
  refine ⟨fun i j p q hp hq hpq => ?_, fun k q hq => ?_⟩
  · obtain ⟨p2, hp2, ep⟩ := key i p hp
    obtain ⟨q2, hq2, eq⟩ := key j q hq
    exact h.1 i j p2 q2 hp2 hq2 (by rw [ep, eq]; exact hpq)
  · obtain ⟨q2, hq2, eq⟩ := key k q hq
    rw [← eq]
    exact h.2 k q2 hq2
section RD
variable {p : Program} {l : Launch} {e : Env} {R : Room} {s : State} {m : MethodId} {args : Array Value} {below : List Frame} {meth : Method} {c : Code} {H : Heap} {locs : List Loc} {cells slots : Nat} {Q : State → Prop}
variable {Ts ws ws' : List Cond} {cc bytes : ByteArray} {nL maxL index n : Nat} {own C : String} {y : MethodName} {ret : Option FieldType} {rm : Room}
variable {As rest st0 : List Value} {pc : Nat} {ls : Array Slot} {dC : Nat → ClassId} {dI : Nat → Nat → Nat} {cA : ClassId} {wd : va_W}
/-- the number on top has another name -/
theorem lv_top {x x' : Int32} (h : x = x') (k : W p l e R s m args below meth c H locs cells slots Q (F0 m pc ls (.int x' :: rest))) : W p l e R s m args below meth c H locs cells slots Q (F0 m pc ls (.int x :: rest)) := h ▸ k
/-- a call that reads: an object's method -/
theorem rd_V {b : Nat} {r : Int32} {ci : Nat} {qc : vw_C} {fs : List Value} (S : CallFix p m c cc nL s args Ts own) (hM : Met l y ws rm (PR (.ref b :: As) dC dI cA wd) (QcRead r) 0 0 (fun _ => False)) (hG : GoodIn Ts (wsV own index qc.1 y ws)) (hw : ws = Cond.code y bytes maxL ret :: ws') (hrm : rm.cells = 0 ∧ rm.slots = 0)
    (hd : y.cls = qc.1 ∧ y.cls ≠ "java/lang/invoke/MethodHandle" ∧ y.cls ≠ "java/lang/invoke/VarHandle" ∧ (parseMethodDescriptor y.desc).map (fun d => d.parameters.length) = some n) (hR : rm.frames + 1 ≤ R.frames ∧ 8 + (maxL + 11) + rm.locals ≤ R.locals)
    (hK : va_K (dC, dI) vwCl [(cA, .int)] s) (hP : va_P (dC, dI) vwCl wd H) (hc : vwCl[ci]? = some qc) (he : wd[0]? = some (b, .inr (ci, fs))) (hn : As.length = n) (hsz : ls.size = nL) (hst : st0 = As.reverse ++ .ref b :: rest) (hroom : (rest.map fun v => v.category).sum ≤ 8) (hdg : decode cc pc = .ok (.invokevirtual index, 3)) (hcs : cells + 0 ≤ R.cells ∧ slots + 0 ≤ R.slots)
    (kk : W p l e R s m args below meth c H locs cells slots Q (F0 m (pc + 3) ls (.int r :: rest))) : W p l e R s m args below meth c H locs cells slots Q (F0 m pc ls st0) := by
  subst hst
  exact W.callR (W.runV S hM (cwV n S.2.2.2.2 hG hw hrm.1 hrm.2 hd hR) ⟨PR_blind, va_recv hK hP hc he, fun U hU hW => ⟨rfl, by rw [hU]; exact hP, va_K.moved hW.alike hK⟩⟩ rfl hn hsz rfl (lv_room hroom) hdg hcs) kk
/-- a call that reads: a static method of numbers alone -/
theorem rd_S {r : Int32} (S : CallFix p m c cc nL s args Ts own) (hM : Met l y ws rm (PS As) (QcRead r) 0 0 (fun _ => False)) (hG : GoodIn Ts (va_wsS own index y ws)) (hw : ws = Cond.code y bytes maxL ret :: ws') (hrm : rm.cells = 0 ∧ rm.slots = 0)
    (hd : y.cls ≠ "java/lang/invoke/MethodHandle" ∧ y.cls ≠ "java/lang/invoke/VarHandle" ∧ (parseMethodDescriptor y.desc).map (fun d => d.parameters.length) = some n) (hR : rm.frames + 1 ≤ R.frames ∧ 8 + (maxL + 11) + rm.locals ≤ R.locals)
    (hn : As.length = n) (hsz : ls.size = nL) (hst : st0 = As.reverse ++ rest) (hroom : (rest.map fun v => v.category).sum ≤ 8) (hdg : decode cc pc = .ok (.invokestatic index, 3)) (hcs : cells + 0 ≤ R.cells ∧ slots + 0 ≤ R.slots)
    (kk : W p l e R s m args below meth c H locs cells slots Q (F0 m (pc + 3) ls (.int r :: rest))) : W p l e R s m args below meth c H locs cells slots Q (F0 m pc ls st0) := by
  subst hst
  exact W.callR (W.runS S hM (va_cwS n S.2.2.2.2 hG hw hrm.1 hrm.2 hd hR) ⟨PS_blind, fun U hU hW => ⟨rfl, trivial⟩⟩ rfl hn hsz rfl (lv_room hroom) hdg hcs) kk
/-- a call that writes: an object's method with an int answer; its cells are some of the world's, the rest stays -/
theorem wr_Vi {b : Nat} {r : Int32} {ci : Nat} {qc : vw_C} {fs : List Value} {wall wr wd' : va_W} {A0 : Nat → Prop} {H0 : Heap} (S : CallFix p m c cc nL s args Ts own) (hM : Met l y ws rm (PW (.ref b :: As) dC dI cA wd H.size) (QWi dC dI r wd wd' H.size) 0 0 (va_A wd H.size)) (hG : GoodIn Ts (wsV own index qc.1 y ws)) (hw : ws = Cond.code y bytes maxL ret :: ws') (hrm : rm.cells = 0 ∧ rm.slots = 0)
    (hd : y.cls = qc.1 ∧ y.cls ≠ "java/lang/invoke/MethodHandle" ∧ y.cls ≠ "java/lang/invoke/VarHandle" ∧ (parseMethodDescriptor y.desc).map (fun d => d.parameters.length) = some n) (hR : rm.frames + 1 ≤ R.frames ∧ 8 + (maxL + 11) + rm.locals ≤ R.locals)
    (hK : va_K (dC, dI) vwCl [(cA, .int)] s) (hP : va_P (dC, dI) vwCl wall H) (hD : va_D A0 wall) (hS : va_S A0 H0 H locs) (hA : ∀ q, H0.size ≤ q → A0 q) (isC isR : List Nat) (hC : isC.map (fun i => wall[i]?) = wd.map some) (hRr : isR.map (fun i => wall[i]?) = wr.map some) (hnC : va_nd isC = true) (hnR : va_nd isR = true) (hdis : ∀ i ∈ isR, i ∉ isC) (hsame : wd'.map (fun q => q.1) = wd.map (fun q => q.1))
    (hc : vwCl[ci]? = some qc) (he : wd[0]? = some (b, .inr (ci, fs))) (hn : As.length = n) (hsz : ls.size = nL) (hst : st0 = As.reverse ++ .ref b :: rest) (hroom : (rest.map fun v => v.category).sum ≤ 8) (hdg : decode cc pc = .ok (.invokevirtual index, 3)) (hcs : cells + 0 ≤ R.cells ∧ slots + 0 ≤ R.slots)
    (kk : ∀ (H1 : Heap) (locs1 : List Loc), va_P (dC, dI) vwCl (wr ++ wd') H1 → va_D A0 (wr ++ wd') → va_S A0 H0 H1 locs1 → W p l e R s m args below meth c H1 locs1 cells slots Q (F0 m (pc + 3) ls (.int r :: rest))) : W p l e R s m args below meth c H locs cells slots Q (F0 m pc ls st0) := by
  subst hst
  have hDc : va_D A0 wd := hD.sub isC hnC hC
  have hPc : va_P (dC, dI) vwCl wd H := by
    refine hP.sub isC ?_
    have h1 : isC.filterMap (fun i => wall[i]?) = (isC.map (fun i => wall[i]?)).filterMap id := by rw [List.filterMap_map]; rfl
    rw [h1, hC, List.filterMap_map]
    simp
  have hFc := va_free (wc := wd) hD hS hA isC hC
  refine va_calli (va_runV S hM (cwV n S.2.2.2.2 hG hw hrm.1 hrm.2 hd hR) ⟨PW_blind, va_recv hK hPc hc he, fun U hU hW => ⟨rfl, by rw [hU], by rw [hU]; exact hPc, va_K.moved hW.alike hK, hDc.weaken (fun _ _ _ _ => trivial)⟩⟩ rfl hn hsz rfl (lv_room hroom) hdg hcs) hS (fun q _ h => hFc q h) hFc (fun r2 u t H1 locs1 ht hvm hw2 hB hz1 hk1 hS1 => ?_)
  subst hw2
  rw [ht] at hB
  obtain ⟨hP2, hD2⟩ := va_join (wr := wr) (w1 := wd') hP hD isC isR hC hRr hnR hdis hk1 hFc hB (D_same (hDc.self (sz := H.size)) hsame)
  exact kk H1 locs1 hP2 hD2 hS1
/-- the same, void -/
theorem wr_Vv {b : Nat} {ci : Nat} {qc : vw_C} {fs : List Value} {wall wr wd' : va_W} {A0 : Nat → Prop} {H0 : Heap} (S : CallFix p m c cc nL s args Ts own) (hM : Met l y ws rm (PW (.ref b :: As) dC dI cA wd H.size) (QWv dC dI wd wd' H.size) 0 0 (va_A wd H.size)) (hG : GoodIn Ts (wsV own index qc.1 y ws)) (hw : ws = Cond.code y bytes maxL ret :: ws') (hrm : rm.cells = 0 ∧ rm.slots = 0)
    (hd : y.cls = qc.1 ∧ y.cls ≠ "java/lang/invoke/MethodHandle" ∧ y.cls ≠ "java/lang/invoke/VarHandle" ∧ (parseMethodDescriptor y.desc).map (fun d => d.parameters.length) = some n) (hR : rm.frames + 1 ≤ R.frames ∧ 8 + (maxL + 11) + rm.locals ≤ R.locals)
    (hK : va_K (dC, dI) vwCl [(cA, .int)] s) (hP : va_P (dC, dI) vwCl wall H) (hD : va_D A0 wall) (hS : va_S A0 H0 H locs) (hA : ∀ q, H0.size ≤ q → A0 q) (isC isR : List Nat) (hC : isC.map (fun i => wall[i]?) = wd.map some) (hRr : isR.map (fun i => wall[i]?) = wr.map some) (hnC : va_nd isC = true) (hnR : va_nd isR = true) (hdis : ∀ i ∈ isR, i ∉ isC) (hsame : wd'.map (fun q => q.1) = wd.map (fun q => q.1))
    (hc : vwCl[ci]? = some qc) (he : wd[0]? = some (b, .inr (ci, fs))) (hn : As.length = n) (hsz : ls.size = nL) (hst : st0 = As.reverse ++ .ref b :: rest) (hroom : (rest.map fun v => v.category).sum ≤ 8) (hdg : decode cc pc = .ok (.invokevirtual index, 3)) (hcs : cells + 0 ≤ R.cells ∧ slots + 0 ≤ R.slots)
    (kk : ∀ (H1 : Heap) (locs1 : List Loc), va_P (dC, dI) vwCl (wr ++ wd') H1 → va_D A0 (wr ++ wd') → va_S A0 H0 H1 locs1 → W p l e R s m args below meth c H1 locs1 cells slots Q (F0 m (pc + 3) ls rest)) : W p l e R s m args below meth c H locs cells slots Q (F0 m pc ls st0) := by
  subst hst
  have hDc : va_D A0 wd := hD.sub isC hnC hC
  have hPc : va_P (dC, dI) vwCl wd H := by
    refine hP.sub isC ?_
    have h1 : isC.filterMap (fun i => wall[i]?) = (isC.map (fun i => wall[i]?)).filterMap id := by rw [List.filterMap_map]; rfl
    rw [h1, hC, List.filterMap_map]
    simp
  have hFc := va_free (wc := wd) hD hS hA isC hC
  refine va_callv (va_runV S hM (cwV n S.2.2.2.2 hG hw hrm.1 hrm.2 hd hR) ⟨PW_blind, va_recv hK hPc hc he, fun U hU hW => ⟨rfl, by rw [hU], by rw [hU]; exact hPc, va_K.moved hW.alike hK, hDc.weaken (fun _ _ _ _ => trivial)⟩⟩ rfl hn hsz rfl (lv_room hroom) hdg hcs) hS (fun q _ h => hFc q h) hFc (fun u t H1 locs1 ht hvm hw2 hB hz1 hk1 hS1 => ?_)
  rw [ht] at hB
  obtain ⟨hP2, hD2⟩ := va_join (wr := wr) (w1 := wd') hP hD isC isR hC hRr hnR hdis hk1 hFc hB (D_same (hDc.self (sz := H.size)) hsame)
  exact kk H1 locs1 hP2 hD2 hS1
/-- a static method that writes and answers nothing -/
theorem wr_Sv {wall wr wd' : va_W} {A0 : Nat → Prop} {H0 : Heap} (S : CallFix p m c cc nL s args Ts own) (hM : Met l y ws rm (PW As dC dI cA wd H.size) (QWv dC dI wd wd' H.size) 0 0 (va_A wd H.size)) (hG : GoodIn Ts (va_wsS own index y ws)) (hw : ws = Cond.code y bytes maxL ret :: ws') (hrm : rm.cells = 0 ∧ rm.slots = 0)
    (hd : y.cls ≠ "java/lang/invoke/MethodHandle" ∧ y.cls ≠ "java/lang/invoke/VarHandle" ∧ (parseMethodDescriptor y.desc).map (fun d => d.parameters.length) = some n) (hR : rm.frames + 1 ≤ R.frames ∧ 8 + (maxL + 11) + rm.locals ≤ R.locals)
    (hK : va_K (dC, dI) vwCl [(cA, .int)] s) (hP : va_P (dC, dI) vwCl wall H) (hD : va_D A0 wall) (hS : va_S A0 H0 H locs) (hA : ∀ q, H0.size ≤ q → A0 q) (isC isR : List Nat) (hC : isC.map (fun i => wall[i]?) = wd.map some) (hRr : isR.map (fun i => wall[i]?) = wr.map some) (hnC : va_nd isC = true) (hnR : va_nd isR = true) (hdis : ∀ i ∈ isR, i ∉ isC) (hsame : wd'.map (fun q => q.1) = wd.map (fun q => q.1))
    (hn : As.length = n) (hsz : ls.size = nL) (hst : st0 = As.reverse ++ rest) (hroom : (rest.map fun v => v.category).sum ≤ 8) (hdg : decode cc pc = .ok (.invokestatic index, 3)) (hcs : cells + 0 ≤ R.cells ∧ slots + 0 ≤ R.slots)
    (kk : ∀ (H1 : Heap) (locs1 : List Loc), va_P (dC, dI) vwCl (wr ++ wd') H1 → va_D A0 (wr ++ wd') → va_S A0 H0 H1 locs1 → W p l e R s m args below meth c H1 locs1 cells slots Q (F0 m (pc + 3) ls rest)) : W p l e R s m args below meth c H locs cells slots Q (F0 m pc ls st0) := by
  subst hst
  have hDc : va_D A0 wd := hD.sub isC hnC hC
  have hPc : va_P (dC, dI) vwCl wd H := by
    refine hP.sub isC ?_
    have h1 : isC.filterMap (fun i => wall[i]?) = (isC.map (fun i => wall[i]?)).filterMap id := by rw [List.filterMap_map]; rfl
    rw [h1, hC, List.filterMap_map]
    simp
  have hFc := va_free (wc := wd) hD hS hA isC hC
  refine va_callv (va_runS S hM (va_cwS n S.2.2.2.2 hG hw hrm.1 hrm.2 hd hR) ⟨PW_blind, fun U hU hW => ⟨rfl, by rw [hU], by rw [hU]; exact hPc, va_K.moved hW.alike hK, hDc.weaken (fun _ _ _ _ => trivial)⟩⟩ rfl hn hsz rfl (lv_room hroom) hdg hcs) hS (fun q _ h => hFc q h) hFc (fun u t H1 locs1 ht hvm hw2 hB hz1 hk1 hS1 => ?_)
  rw [ht] at hB
  obtain ⟨hP2, hD2⟩ := va_join (wr := wr) (w1 := wd') hP hD isC isR hC hRr hnR hdis hk1 hFc hB (D_same (hDc.self (sz := H.size)) hsame)
  exact kk H1 locs1 hP2 hD2 hS1
end RD
