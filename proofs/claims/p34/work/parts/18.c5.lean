/-! methods that throw -/
abbrev XI : String := "java/lang/IndexOutOfBoundsException"
abbrev XA : String := "java/lang/IllegalArgumentException"
abbrev XS : String := "java/lang/IllegalStateException"
abbrev XN : List String := ["java/lang/RuntimeException", "java/lang/Exception"]
theorem hz_keptAll {D : va_G} {cl : List vw_C} {ws : va_W} {H H1 : Heap} (h : va_P D cl ws H) (hq : ∀ q : Nat, q < H.size → ¬ (fun _ : Nat => False) q → H1[q]? = H[q]?) : va_P D cl ws H1 := h.kept (fun k q hk => hq q.1 (vx_lt h hk) (fun z => z.elim))
section HX
variable {p : Program} {l : Launch} {e : Env} {R : Room} {s : State} {m : MethodId} {args : Array Value} {below : List Frame} {meth : Method} {c : Code} {H : Heap} {locs : List Loc} {cells slots : Nat} {Q : State → Prop}
variable {cc bytes : ByteArray} {pc nL maxL index n : Nat} {ls : Array Slot} {rest st0 As : List Value} {D : va_G} {A : Nat → Prop} {b zE : Nat} {tys : List (ClassId × FieldType)} {ws : va_W} {Ts wz : List Cond} {own C : String} {y : MethodName} {ret : Option FieldType} {rm : Room} {cq : vw_C} {fs : List Value}
variable {Qc : Array Value → State → Outcome → State → Prop} {XC : String → State → State → Prop} {a : Array Value} {mc ms mc1 ms1 : Nat} {free : Addr → Prop}
theorem hz_up {g : JFrame} (h1 : mc1 ≤ mc) (h2 : ms1 ≤ ms) (k : W p l e R s m args below meth c H locs cells slots (MQ below Qc args s mc1 ms1 free) g) : W p l e R s m args below meth c H locs cells slots (vx_MQ below Qc XC args s mc ms free) g := by
  refine vx_ret (fun T hT X => ?_)
  obtain ⟨t, a1, o, b1, b2, b3, L, ⟨e1, e2, e3⟩, b4⟩ := k T hT X
  exact ⟨t, a1, o, b1, b2, b3, L, ⟨e1, e2, e3.mono h1 h2⟩, b4⟩
/-- its words of a throw -/
theorem hz_xw {E : String} {ic : Nat} (hts : ∀ w ∈ Ts, w.before args s = true) (hsub : ∀ w ∈ (vx_atS RX7 ic E XN).filter goodWord, w ∈ Ts) (hG : GP zE A s s.heap) (h0 : ∀ w ∈ (vx_atS RX7 ic E XN).filter (fun w => !goodWord w), w ∈ xwL) : ∀ w ∈ vx_atS RX7 ic E XN, w.before args s = true :=
  vx_hat (B := xwL) (fun w h => hts w (hsub w h)) h0 (fun w h => va_tabs (xwL_o w h) rfl (hG.2.2.2.2.2.2 w h))
theorem hz_thrS {E text : String} {ik is ic : Nat} (hx : p.tables.exec = Jvm.exec) (hb : c.code = cc) (hlt : l.stackTraces = false) (hown : s.vm.findClass RX7 = some m.cls) (hts : ∀ w ∈ Ts, w.before args s = true)
    (hsub : ∀ w ∈ (vx_atS RX7 ic E XN).filter goodWord, w ∈ Ts) (hk : Cond.classLink RX7 ik E ∈ Ts) (hini : Cond.initialized E ∈ Ts) (h0 : ∀ w ∈ (vx_atS RX7 ic E XN).filter (fun w => !goodWord w), w ∈ xwL) (hcls : Bundle.fit E = true) (hgood : ∀ w ∈ Cond.classLink RX7 ik E :: Cond.initialized E :: vx_atS RX7 ic E XN, vx_ot w = true)
    (hG : GP zE A s s.heap) (hst : (is, text) ∈ stL) (hS : va_S A s.heap H locs) (hsize : ls.size = c.maxLocals)
    (d0 : decode cc pc = .ok (.new ik, 3)) (d3 : decode cc (pc + 3) = .ok (.dup, 1)) (d4 : decode cc (pc + 4) = .ok (.ldc is, 2)) (d6 : decode cc (pc + 6) = .ok (.invokespecial ic, 3)) (d9 : decode cc (pc + 9) = .ok (.athrow, 1))
    (hout : ∀ x ∈ c.exceptionTable.toList, False) (hRf : 5 < R.frames) (hRl : (rest.map fun v => v.category).sum + 82 ≤ R.locals) (hRc : cells + 1 ≤ R.cells) (hRs : slots + 6 ≤ R.slots) (hlocks : meth.locks = false)
    (hX : ∀ t : State, H.size ≤ t.heap.size → (∀ q : Nat, q < H.size → t.heap[q]? = H[q]?) → XC E s t) (hf : ∀ z ∈ locs, free z.base) (hc : cells + 1 ≤ mc) (hs : slots + 6 ≤ ms) :
    W p l e R s m args below meth c H locs cells slots (vx_MQ below Qc XC args s mc ms free) (F0 m pc ls rest) := by
  obtain ⟨a, ha⟩ := hG.2.2.2.2.2.1 _ hst
  exact vx_throwS (names := XN) hx hb hlt hown hcls (by decide) (hts _ hk) (hts _ hini) ha (hz_xw hts hsub hG h0) hgood hG.2.2.1 hG.2.2.2.1 hS hsize d0 d3 d4 d6 d9 (fun x h => (hout x h).elim) hRf hRl hRc hRs hlocks (fun t _ => hX t) hf hc hs
theorem hz_thrW {E text : String} {ik is ic : Nat} (hx : p.tables.exec = Jvm.exec) (hb : c.code = cc) (hlt : l.stackTraces = false) (hown : s.vm.findClass RX7 = some m.cls) (hts : ∀ w ∈ Ts, w.before args s = true)
    (hsub : ∀ w ∈ (vx_atS RX7 ic E XN).filter goodWord, w ∈ Ts) (hk : Cond.classLink RX7 ik E ∈ Ts) (hini : Cond.initialized E ∈ Ts) (h0 : ∀ w ∈ (vx_atS RX7 ic E XN).filter (fun w => !goodWord w), w ∈ xwL) (hcls : Bundle.fit E = true) (hgood : ∀ w ∈ Cond.classLink RX7 ik E :: Cond.initialized E :: vx_atS RX7 ic E XN, vx_ot w = true)
    (hG : GP zE A s s.heap) (hst : (is, text) ∈ stL) (hS : va_S A s.heap H locs) (hsize : ls.size = c.maxLocals)
    (d0 : decode cc pc = .ok (.new ik, 3)) (d3 : decode cc (pc + 3) = .ok (.dup, 1)) (d4 : decode cc (pc + 4) = .ok (.ldc_w is, 3)) (d7 : decode cc (pc + 7) = .ok (.invokespecial ic, 3)) (d10 : decode cc (pc + 10) = .ok (.athrow, 1))
    (hout : ∀ x ∈ c.exceptionTable.toList, False) (hRf : 5 < R.frames) (hRl : (rest.map fun v => v.category).sum + 82 ≤ R.locals) (hRc : cells + 1 ≤ R.cells) (hRs : slots + 6 ≤ R.slots) (hlocks : meth.locks = false)
    (hX : ∀ t : State, H.size ≤ t.heap.size → (∀ q : Nat, q < H.size → t.heap[q]? = H[q]?) → XC E s t) (hf : ∀ z ∈ locs, free z.base) (hc : cells + 1 ≤ mc) (hs : slots + 6 ≤ ms) :
    W p l e R s m args below meth c H locs cells slots (vx_MQ below Qc XC args s mc ms free) (F0 m pc ls rest) := by
  obtain ⟨a, ha⟩ := hG.2.2.2.2.2.1 _ hst
  exact vx_throwSW (names := XN) hx hb hlt hown hcls (by decide) (hts _ hk) (hts _ hini) ha (hz_xw hts hsub hG h0) hgood hG.2.2.1 hG.2.2.2.1 hS hsize d0 d3 d4 d7 d10 (fun x h => (hout x h).elim) hRf hRl hRc hRs hlocks (fun t _ => hX t) hf hc hs
/-- a check that is static: it comes back, or throws; the world stays -/
abbrev HPs (zE : Nat) : State → Prop := fun U => GP zE (fun _ => False) U U.heap
abbrev QXs (φ : Prop) : Array Value → State → Outcome → State → Prop := va_Qv (fun (_ : Unit) => φ) (fun _ _ => True) (fun _ => False)
abbrev XXs (E : String) (φ : Prop) : String → State → State → Prop := vx_X (fun (_ : Unit) => φ) (fun E1 _ _ => E1 = E) (fun _ => False)
theorem hz_callXs {E : String} {φ ψ : Prop} (fx : CallFix p m c cc nL s args Ts own) (hM : vx_Met l y wz rm (va_Pc As (HPs zE)) (QXs φ) (XXs E ψ) mc ms (fun _ => False)) (cw : CallB R s args own index y bytes maxL ret wz rm mc ms n ∧ (Cond.static y).before args s = true)
    (hP : va_P D vwCl ws H) (hS : va_S A s.heap H locs) (hG : GP zE A s s.heap)
    (hAs : As.length = n) (hsize : ls.size = nL) (hst : st0 = As.reverse ++ rest) (hW : (rest.map fun v => v.category).sum ≤ 8) (hdg : decode cc pc = .ok (.invokestatic index, 3)) (hroom : cells + mc ≤ R.cells ∧ slots + ms ≤ R.slots)
    (kx : ψ → ∀ (ce : Cell) (q9 : Addr) (H1 : Heap) (locs1 : List Loc), va_P D vwCl ws H1 → va_S A s.heap H1 locs1 → H1[q9]? = some ce → ce.vm = .none → s.vm.findClass E = some ce.cls → vx_W p l e R s m args below meth c H1 locs1 (cells + mc) (slots + ms) Q (F0 m pc ls rest) q9)
    (kk : φ → ∀ (H : Heap) (locs : List Loc), va_P D vwCl ws H → va_S A s.heap H locs → W p l e R s m args below meth c H locs (cells + mc) (slots + ms) Q (F0 m (pc + 3) ls rest)) : W p l e R s m args below meth c H locs cells slots Q (F0 m pc ls st0) := by
  refine vx_callv (vx_runS (As := As) (rest := rest) fx hM cw ⟨fun a U g mk q => ⟨q.1, q.2.same rfl⟩, fun U hU hW => ⟨rfl, hG.call hS (fun q h => h.elim) hU hW⟩⟩ rfl hAs hsize hst (lv_room hW) hdg hroom) hS (fun q _ h => h.elim) (fun q h => h.elim) (fun q _ h => h.elim) (fun E1 ce q9 u t H1 locs1 ht hvm hp hB hz1 hk1 hS1 hce hcv hcl => ?_) (fun u t H1 locs1 ht hvm hp hB hz1 hk1 hS1 => ?_)
  · rw [hB] at hcl
    exact kx hp ce q9 H1 locs1 (hz_keptAll hP hk1) hS1 hce hcv hcl
  · exact kk hp H1 locs1 (hz_keptAll hP hk1) hS1
theorem hz_out {E : String} {ce : Cell} {q : Addr} (hout : ∀ x ∈ c.exceptionTable.toList, False) (hlocks : meth.locks = false) (hcell : H[q]? = some ce) (hv : ce.vm = .none) (hcl : s.vm.findClass E = some ce.cls) (hX : ∀ t : State, t.heap = H → XC E s t) (hf : ∀ z ∈ locs, free z.base) (hc : cells ≤ mc) (hs : slots ≤ ms) :
    vx_W p l e R s m args below meth c H locs cells slots (vx_MQ below Qc XC args s mc ms free) (F0 m pc ls rest) q := vx_out (fun x h => (hout x h).elim) hlocks hcell hv hcl (fun t ht _ => hX t ht) hf hc hs
/-- a method of the world that may throw -/
abbrev QXv {S : Type} (D : va_G) (φ : S → Prop) (w1 : S → va_W) (A : Nat → Prop) : Array Value → State → Outcome → State → Prop := va_Qv φ (fun u t => va_P D vwCl (w1 u) t.heap) A
abbrev QXi {S : Type} (D : va_G) (g : S → Int) (φ : S → Prop) (w1 : S → va_W) (A : Nat → Prop) : Array Value → State → Outcome → State → Prop := va_Qi (fun (r : Int32) (u : S) => r = zI (g u) ∧ φ u) (fun u t => va_P D vwCl (w1 u) t.heap) A
abbrev QXr {S : Type} (D : va_G) (g : S → Nat) (φ : S → Prop) (w1 : S → va_W) (A : Nat → Prop) : Array Value → State → Outcome → State → Prop := fun _ st oc t => (∃ u : S, oc = .returned (some (.ref (g u))) ∧ φ u ∧ va_P D vwCl (w1 u) t.heap) ∧ va_F A st t
abbrev XXw {SX : Type} (D : va_G) (ψ : String → SX → Prop) (wX : SX → va_W) (A : Nat → Prop) : String → State → State → Prop := vx_X (fun _ => True) (fun E u t => ψ E u ∧ va_P D vwCl (wX u) t.heap) A
theorem hz_blindX {av : List Value} {zE : Nat} {D : va_G} {tys : List (ClassId × FieldType)} {ws : va_W} {sz : Nat} : FrameBlind (va_Pc av (HPreG zE D tys ws sz)) := hz_blindG
theorem hz_callXv {S SX : Type} {φ : S → Prop} {w1 : S → va_W} {ψ : String → SX → Prop} {wX : SX → va_W} (fx : CallFix p m c cc nL s args Ts own) (hM : vx_Met l y wz rm (va_Pc (.ref b :: As) (HPreG zE D tys ws H.size)) (QXv D φ w1 (va_A ws H.size)) (XXw D ψ wX (va_A ws H.size)) mc ms (va_A ws H.size)) (cw : CallW R s args own C index y bytes maxL ret wz rm mc ms n)
    (hP : va_P D vwCl ws H) (hK : va_K D vwCl tys s) (hD : va_D A ws) (hS : va_S A s.heap H locs) (hA : ∀ q, s.heap.size ≤ q → A q) (hG : GP zE A s s.heap) (q0 ci : Nat) (hcl : vwCl[ci]? = some cq) (hCe : cq.1 = C) (hb0 : ws[q0]? = some (b, .inr (ci, fs)))
    (hAs : As.length = n) (hsize : ls.size = nL) (hst : st0 = As.reverse ++ .ref b :: rest) (hW : (rest.map fun v => v.category).sum ≤ 8) (hdg : decode cc pc = .ok (.invokevirtual index, 3)) (hroom : cells + mc ≤ R.cells ∧ slots + ms ≤ R.slots) (he : ∀ u, (w1 u).map Prod.fst = ws.map Prod.fst) (heX : ∀ u, (wX u).map Prod.fst = ws.map Prod.fst)
    (kx : ∀ (E : String) (u : SX), ψ E u → ∀ (ce : Cell) (q9 : Addr) (H1 : Heap) (locs1 : List Loc), va_P D vwCl (wX u) H1 → va_S A s.heap H1 locs1 → H1[q9]? = some ce → ce.vm = .none → s.vm.findClass E = some ce.cls → vx_W p l e R s m args below meth c H1 locs1 (cells + mc) (slots + ms) Q (F0 m pc ls rest) q9)
    (kk : ∀ (u : S) (H : Heap) (locs : List Loc), φ u → va_P D vwCl (w1 u) H → va_D A (w1 u) → va_S A s.heap H locs → W p l e R s m args below meth c H locs (cells + mc) (slots + ms) Q (F0 m (pc + 3) ls rest)) : W p l e R s m args below meth c H locs cells slots Q (F0 m pc ls st0) := by
  have hF := hz_freeW hD hS hA
  refine vx_callv (vx_runV (As := As) (rest := rest) fx hM cw ⟨hz_blindG, by rw [← hCe]; exact va_recv hK hP hcl hb0, hz_preWG hP hK hD hS hA hG⟩ rfl hAs hsize hst (lv_room hW) hdg hroom) hS (fun q _ h => hF q h) hF (fun q _ h => hF q h) (fun E1 ce q9 u t H1 locs1 ht hvm _ hB hz1 hk1 hS1 hce hcv hcl => ?_) (fun u t H1 locs1 ht hvm hw hB hz1 hk1 hS1 => ?_)
  · obtain ⟨h1, h2⟩ := hB
    rw [ht] at h2
    exact kx E1 u h1 ce q9 H1 locs1 h2 hS1 hce hcv hcl
  · rw [ht] at hB
    exact kk u H1 locs1 hw hB (hz_Dc hD (he u)) hS1
theorem hz_callXi {S SX : Type} {g : S → Int} {φ : S → Prop} {w1 : S → va_W} {ψ : String → SX → Prop} {wX : SX → va_W} (fx : CallFix p m c cc nL s args Ts own) (hM : vx_Met l y wz rm (va_Pc (.ref b :: As) (HPreG zE D tys ws H.size)) (QXi D g φ w1 (va_A ws H.size)) (XXw D ψ wX (va_A ws H.size)) mc ms (va_A ws H.size)) (cw : CallW R s args own C index y bytes maxL ret wz rm mc ms n)
    (hP : va_P D vwCl ws H) (hK : va_K D vwCl tys s) (hD : va_D A ws) (hS : va_S A s.heap H locs) (hA : ∀ q, s.heap.size ≤ q → A q) (hG : GP zE A s s.heap) (q0 ci : Nat) (hcl : vwCl[ci]? = some cq) (hCe : cq.1 = C) (hb0 : ws[q0]? = some (b, .inr (ci, fs)))
    (hAs : As.length = n) (hsize : ls.size = nL) (hst : st0 = As.reverse ++ .ref b :: rest) (hW : (rest.map fun v => v.category).sum ≤ 8) (hdg : decode cc pc = .ok (.invokevirtual index, 3)) (hroom : cells + mc ≤ R.cells ∧ slots + ms ≤ R.slots) (he : ∀ u, (w1 u).map Prod.fst = ws.map Prod.fst) (heX : ∀ u, (wX u).map Prod.fst = ws.map Prod.fst)
    (kx : ∀ (E : String) (u : SX), ψ E u → ∀ (ce : Cell) (q9 : Addr) (H1 : Heap) (locs1 : List Loc), va_P D vwCl (wX u) H1 → va_S A s.heap H1 locs1 → H1[q9]? = some ce → ce.vm = .none → s.vm.findClass E = some ce.cls → vx_W p l e R s m args below meth c H1 locs1 (cells + mc) (slots + ms) Q (F0 m pc ls rest) q9)
    (kk : ∀ (u : S) (H : Heap) (locs : List Loc), φ u → va_P D vwCl (w1 u) H → va_D A (w1 u) → va_S A s.heap H locs → W p l e R s m args below meth c H locs (cells + mc) (slots + ms) Q (F0 m (pc + 3) ls (zi (g u) :: rest))) : W p l e R s m args below meth c H locs cells slots Q (F0 m pc ls st0) := by
  have hF := hz_freeW hD hS hA
  refine vx_calli (vx_runV (As := As) (rest := rest) fx hM cw ⟨hz_blindG, by rw [← hCe]; exact va_recv hK hP hcl hb0, hz_preWG hP hK hD hS hA hG⟩ rfl hAs hsize hst (lv_room hW) hdg hroom) hS (fun q _ h => hF q h) hF (fun q _ h => hF q h) (fun E1 ce q9 u t H1 locs1 ht hvm _ hB hz1 hk1 hS1 hce hcv hcl => ?_) (fun r u t H1 locs1 ht hvm hw hB hz1 hk1 hS1 => ?_)
  · obtain ⟨h1, h2⟩ := hB
    rw [ht] at h2
    exact kx E1 u h1 ce q9 H1 locs1 h2 hS1 hce hcv hcl
  · obtain ⟨rfl, hφ⟩ := hw
    rw [ht] at hB
    exact kk u H1 locs1 hφ hB (hz_Dc hD (he u)) hS1
theorem hz_callXr {S SX : Type} {g : S → Nat} {φ : S → Prop} {w1 : S → va_W} {ψ : String → SX → Prop} {wX : SX → va_W} (fx : CallFix p m c cc nL s args Ts own) (hM : vx_Met l y wz rm (va_Pc (.ref b :: As) (HPreG zE D tys ws H.size)) (QXr D g φ w1 (va_A ws H.size)) (XXw D ψ wX (va_A ws H.size)) mc ms (va_A ws H.size)) (cw : CallW R s args own C index y bytes maxL ret wz rm mc ms n)
    (hP : va_P D vwCl ws H) (hK : va_K D vwCl tys s) (hD : va_D A ws) (hS : va_S A s.heap H locs) (hA : ∀ q, s.heap.size ≤ q → A q) (hG : GP zE A s s.heap) (q0 ci : Nat) (hcl : vwCl[ci]? = some cq) (hCe : cq.1 = C) (hb0 : ws[q0]? = some (b, .inr (ci, fs)))
    (hAs : As.length = n) (hsize : ls.size = nL) (hst : st0 = As.reverse ++ .ref b :: rest) (hW : (rest.map fun v => v.category).sum ≤ 8) (hdg : decode cc pc = .ok (.invokevirtual index, 3)) (hroom : cells + mc ≤ R.cells ∧ slots + ms ≤ R.slots) (he : ∀ u, (w1 u).map Prod.fst = ws.map Prod.fst) (heX : ∀ u, (wX u).map Prod.fst = ws.map Prod.fst)
    (kx : ∀ (E : String) (u : SX), ψ E u → ∀ (ce : Cell) (q9 : Addr) (H1 : Heap) (locs1 : List Loc), va_P D vwCl (wX u) H1 → va_S A s.heap H1 locs1 → H1[q9]? = some ce → ce.vm = .none → s.vm.findClass E = some ce.cls → vx_W p l e R s m args below meth c H1 locs1 (cells + mc) (slots + ms) Q (F0 m pc ls rest) q9)
    (kk : ∀ (u : S) (H : Heap) (locs : List Loc), φ u → va_P D vwCl (w1 u) H → va_D A (w1 u) → va_S A s.heap H locs → W p l e R s m args below meth c H locs (cells + mc) (slots + ms) Q (F0 m (pc + 3) ls (.ref (g u) :: rest))) : W p l e R s m args below meth c H locs cells slots Q (F0 m pc ls st0) := by
  have hF := hz_freeW hD hS hA
  have hr : vx_Run p l e R s m args below meth c H locs cells slots mc ms (F0 m pc ls st0) rest (QXr D g φ w1 (va_A ws H.size) (Value.ref b :: As).toArray) (XXw D ψ wX (va_A ws H.size)) (va_A ws H.size) := vx_runV (As := As) (rest := rest) fx hM cw ⟨hz_blindG, by rw [← hCe]; exact va_recv hK hP hcl hb0, hz_preWG hP hK hD hS hA hG⟩ (g := F0 m pc ls st0) rfl hAs hsize hst (lv_room hW) hdg hroom
  intro T hT X
  rcases hr T hT X with ⟨v, st₀, t, T', L, h0, X', hL, e1, e2, ⟨⟨u, hv, hp, hB⟩, hFF⟩, st⟩ | ⟨q, st₀, t, T', L, E, ce, h0, X', hL, e1, e2, ⟨u, _, ⟨hp, hB⟩, hFF⟩, hce, hcv, hcl2, st⟩
  · cases hv
    obtain ⟨k1, k2, k3⟩ := vx_keep h0 e1 hS (fun q _ h => hF q h) hF hL hFF
    obtain ⟨t2, a1, b1⟩ := kk u T'.heap (locs ++ L) hp (by rw [e1]; exact hB) (hz_Dc hD (he u)) k3 T' rfl X'
    exact ⟨t2, st t2 a1, b1⟩
  · obtain ⟨k1, k2, k3⟩ := vx_keep h0 e1 hS (fun q _ h => hF q h) hF hL hFF
    obtain ⟨t2, a1, b1⟩ := kx E u hp ce q T'.heap (locs ++ L) (by rw [e1]; exact hB) k3 (by rw [e1]; exact hce) hcv hcl2 T' rfl X'
    exact ⟨t2, st.trans a1, b1⟩
end HX
theorem hz_ofSX {l : Launch} {y : MethodName} {wz ws' : List Cond} {rm : Room} {av : List Value} {zE : Nat} {Qf : Array Value → State → Outcome → State → Prop} {Xf : String → State → State → Prop} {cc : ByteArray} {maxL mc ms : Nat} {ret : Option FieldType} (hy : plainName y.cls = true) (hw : wz = Cond.code y cc maxL ret :: ws') (hle : (lg_sl av).length ≤ maxL)
    (body : ∀ (p : Program) (e : Env) (s : State) (m : MethodId) (below : List Frame) (meth : Method) (c : Code) (A : Nat → Prop) (ls : Array Slot), A = (fun _ => False) → p.tables.exec = Jvm.exec → c.code = cc → meth.sig.returnType = ret → (∀ w ∈ wz, w.before av.toArray s = true) → s.vm.findClass y.cls = some m.cls → meth.locks = false → c.maxLocals = maxL → (∀ x ∈ c.exceptionTable.toList, False) → va_S A s.heap s.heap [] → GP zE A s s.heap → lv_has ls maxL (lv_args 0 av) →
      W p l e (headSpec wz rm).room s m av.toArray below meth c s.heap [] 0 0 (vx_MQ below Qf Xf av.toArray s mc ms (fun _ => False)) (F0 m 0 ls [])) : vx_Met l y wz rm (va_Pc av (HPs zE)) Qf Xf mc ms (fun _ => False) := by
  refine vx_ofW (cc := cc) (maxL := maxL) (ret := ret) hy hw ?_
  intro p e s m args below meth c s₁ B hml ht hv
  obtain ⟨rfl, hG⟩ := hv
  have hts := atoms_spec (ws := wz) B.pre
  have hown : s.vm.findClass y.cls = some m.cls := findClass_of_methodNamed B.named
  have hl := lv_entry av (n := maxL) hle
  rw [lg_entry_eq]
  exact body p e s m below meth c _ _ rfl B.exec B.bytes B.returns hts hown B.notSynchronized hml ht va_S.rf hG hl
theorem hz_ofWX {l : Launch} {y : MethodName} {wz ws' : List Cond} {rm : Room} {av : List Value} {zE : Nat} {D : va_G} {tys : List (ClassId × FieldType)} {w : va_W} {sz mc ms : Nat} {Qf : (Nat → Prop) → Array Value → State → Outcome → State → Prop} {Xf : (Nat → Prop) → String → State → State → Prop} {cc : ByteArray} {maxL : Nat} {ret : Option FieldType} (hy : plainName y.cls = true) (hw : wz = Cond.code y cc maxL ret :: ws') (hle : (lg_sl av).length ≤ maxL)
    (body : ∀ (p : Program) (e : Env) (s : State) (m : MethodId) (below : List Frame) (meth : Method) (c : Code) (A : Nat → Prop) (ls : Array Slot), p.tables.exec = Jvm.exec → c.code = cc → meth.sig.returnType = ret → (∀ w ∈ wz, w.before av.toArray s = true) → s.vm.findClass y.cls = some m.cls → meth.locks = false → c.maxLocals = maxL → (∀ x ∈ c.exceptionTable.toList, False) → va_P D vwCl w s.heap → va_K D vwCl tys s → (∀ q, s.heap.size ≤ q → A q) → va_D A w → va_S A s.heap s.heap [] → GP zE A s s.heap → lv_has ls maxL (lv_args 0 av) →
      W p l e (headSpec wz rm).room s m av.toArray below meth c s.heap [] 0 0 (vx_MQ below (Qf A) (Xf A) av.toArray s mc ms A) (F0 m 0 ls [])) : vx_Met l y wz rm (va_Pc av (HPreG zE D tys w sz)) (Qf (va_A w sz)) (Xf (va_A w sz)) mc ms (va_A w sz) := by
  refine vx_ofW (cc := cc) (maxL := maxL) (ret := ret) hy hw ?_
  intro p e s m args below meth c s₁ B hml ht hv
  obtain ⟨rfl, ⟨hsz, hP, hK, hD0⟩, hG⟩ := hv
  have hts := atoms_spec (ws := wz) B.pre
  have hown : s.vm.findClass y.cls = some m.cls := findClass_of_methodNamed B.named
  subst hsz
  have hl := lv_entry av (n := maxL) hle
  rw [lg_entry_eq]
  exact body p e s m below meth c _ _ B.exec B.bytes B.returns hts hown B.notSynchronized hml ht hP hK (fun q h => Or.inr h) hD0.self va_S.rf hG hl
