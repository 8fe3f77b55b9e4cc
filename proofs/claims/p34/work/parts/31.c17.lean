
def GX (mi : Nat) (U : State) : Prop := va_AO "java/lang/Object" U ∧ va_Mi "[Ljava/lang/Object;" mi U ∧ va_Dc U ∧ va_Nw (.castable RX4 "java/lang/Object") U ∧ va_Nw (.castable RX1 "java/lang/Object") U
theorem GX.warm {mi : Nat} {s U : State} (h : GX mi s) (hW : s.WarmedH U.vm) : GX mi U := ⟨h.1.moved hW.alike, h.2.1.moved hW.alike, h.2.2.1.moved hW.alike, va_Nw.warmC hW h.2.2.2.1, va_Nw.warmC hW h.2.2.2.2⟩
theorem GX.same {mi : Nat} {s U : State} (h : GX mi s) (hv : U.vm = s.vm) : GX mi U := by
  have hal : s.vm.Alike U.vm := by rw [hv]; exact Vm.Alike.refl _
  exact ⟨h.1.moved hal, h.2.1.moved hal, h.2.2.1.moved hal, va_Nw.same rfl hv.symm h.2.2.2.1, va_Nw.same rfl hv.symm h.2.2.2.2⟩
theorem hz_anyK {E : String} {s : State} {H H1 : Heap} {a : Nat} (h : va_Any E s H a) (hq : H1[a]? = H[a]?) : va_Any E s H1 a := by
  obtain ⟨c, h1, h2, h3, h4⟩ := h
  exact ⟨c, hq.trans h1, h2, h3, h4⟩
theorem hz_anyM {E : String} {s U : State} {H : Heap} {a : Nat} (hal : s.vm.Alike U.vm) (h : va_Any E s H a) : va_Any E U H a := by
  obtain ⟨c, h1, h2, ⟨k, h3⟩, h4⟩ := h
  obtain ⟨k', h5, -⟩ := hal.2.2 _ _ h3
  exact ⟨c, h1, h2, ⟨k', h5⟩, fun comp hc => by rw [hal.assignable]; exact h4 comp (by rw [← hal.findClass]; exact hc)⟩
theorem hz_anyL {E : String} {s : State} {H : Heap} {a : Nat} (h : va_Any E s H a) : a < H.size := by
  obtain ⟨c, h1, _⟩ := h
  exact (Array.getElem?_eq_some_iff.mp h1).1
def AnyX (A : Nat → Prop) (U : State) (H : Heap) (x : Nat) : Prop := va_Any "java/lang/Object" U H x ∧ ¬ A x
theorem AnyX.at {A : Nat → Prop} {s : State} {H : Heap} {locs : List Loc} {x : Nat} (h : AnyX A s s.heap x) (hS : va_S A s.heap H locs) : va_Any "java/lang/Object" s H x := hz_anyK h.1 (hS.2.1 x (hz_anyL h.1) h.2)
abbrev HPreX (mi zE : Nat) (D : va_G) (tys : List (ClassId × FieldType)) (ws : va_W) (sz : Nat) (L : Nat → Prop) : State → Prop := fun U => HPreG zE D tys ws sz U ∧ GX mi U ∧ ∀ x, L x → AnyX (va_A ws sz) U U.heap x
theorem hz_blindY {av : List Value} {mi zE : Nat} {D : va_G} {tys : List (ClassId × FieldType)} {ws : va_W} {sz : Nat} {L : Nat → Prop} : FrameBlind (va_Pc av (HPreX mi zE D tys ws sz L)) := fun a U g mk q => by
  obtain ⟨q0, ⟨⟨q1, qP, qK, qD⟩, qG⟩, qX, qL⟩ := q
  exact ⟨q0, ⟨⟨q1, qP, va_K.moved (u := U) (U := U.calling g mk a) (Vm.Alike.refl U.vm) qK, qD⟩, qG.same rfl⟩, qX.same rfl, fun x hx => ⟨hz_anyM (s := U) (U := U.calling g mk a) (Vm.Alike.refl U.vm) (qL x hx).1, (qL x hx).2⟩⟩
section HY
variable {p : Program} {l : Launch} {e : Env} {R : Room} {s : State} {m : MethodId} {args : Array Value} {below : List Frame} {meth : Method} {c : Code} {H H0 : Heap} {locs : List Loc} {cells slots : Nat} {Q : State → Prop} {cc bytes : ByteArray} {pc nL maxL index n : Nat} {ls : Array Slot} {rest st0 As : List Value} {D : va_G} {A : Nat → Prop} {b zE mi : Nat} {tys tys' : List (ClassId × FieldType)} {ws wc wr : va_W} {Ts wz : List Cond} {own C : String} {y : MethodName} {ret : Option FieldType} {rm : Room} {cq : vw_C} {fs : List Value}
variable {Qc : Array Value → State → Outcome → State → Prop} {a av : Array Value} {mc ms mc1 ms1 : Nat} {free : Addr → Prop}
theorem hz_preX {av : List Value} {L : Nat → Prop} (hP : va_P D vwCl ws H) (hK : va_K D vwCl tys s) (hD : va_D A ws) (hS : va_S A s.heap H locs) (hA : ∀ q, s.heap.size ≤ q → A q) (hG : GP zE A s s.heap) (hX : GX mi s) (is ts : List Nat) (hC : is.map (fun i => ws[i]?) = wc.map some) (hn : va_nd is = true) (hT : ts.filterMap (fun i => tys[i]?) = tys') (hL : ∀ x, L x → va_Any "java/lang/Object" s H x ∧ ¬ va_A wc H.size x) : ∀ U : State, U.heap = H → s.WarmedH U.vm → va_Pc av (HPreX mi zE D tys' wc H.size L) av.toArray U := fun U hU hW => ⟨rfl, (hz_preSG (av := av) hP hK hD hS hA hG is ts hC hn hT U hU hW).2, hX.warm hW, fun x hx => ⟨by rw [hU]; exact hz_anyM hW.alike (hL x hx).1, (hL x hx).2⟩⟩
theorem hz_preXW {av : List Value} {L : Nat → Prop} (hP : va_P D vwCl ws H) (hK : va_K D vwCl tys s) (hD : va_D A ws) (hS : va_S A s.heap H locs) (hA : ∀ q, s.heap.size ≤ q → A q) (hG : GP zE A s s.heap) (hX : GX mi s) (hL : ∀ x, L x → AnyX A s s.heap x) : ∀ U : State, U.heap = H → s.WarmedH U.vm → va_Pc av (HPreX mi zE D tys ws H.size L) av.toArray U := fun U hU hW => ⟨rfl, (hz_preWG (av := av) hP hK hD hS hA hG U hU hW).2, hX.warm hW, fun x hx => ⟨by rw [hU]; exact hz_anyM hW.alike ((hL x hx).at hS), fun z => (hL x hx).2 (hz_freeW hD hS hA x z)⟩⟩
/-- behind a call that makes cells and answers a reference, the world being all of ours -/
theorem hz_aftR {S : Type} {φ : S → Nat → Prop} {w1 : S → Nat → va_W} (hr : va_Run p l e R s m args below meth c H locs cells slots mc ms (F0 m pc ls st0) rest (va_Qr (fun (_ : S) => True) (fun u a t => φ u a ∧ va_P D vwCl (w1 u a) t.heap ∧ va_D (va_A ws H.size) (w1 u a)) (va_A ws H.size) av) (va_A ws H.size))
    (hD : va_D A ws) (hS : va_S A H0 H locs) (hA : ∀ q, H0.size ≤ q → A q)
    (kk : ∀ (u : S) (a : Nat) (H1 : Heap) (locs1 : List Loc), φ u a → va_P D vwCl (w1 u a) H1 → va_D A (w1 u a) → va_S A H0 H1 locs1 → W p l e R s m args below meth c H1 locs1 (cells + mc) (slots + ms) Q (F0 m (pc + 3) ls (.ref a :: rest))) : W p l e R s m args below meth c H locs cells slots Q (F0 m pc ls st0) := by
  have hF := hz_freeW hD hS hA
  refine va_callr hr hS (fun q _ h => hF q h) hF (fun u a t H1 locs1 ht hvm hw hB hz1 hk1 hS1 => ?_)
  rw [ht] at hB
  exact kk u a H1 locs1 hB.1 hB.2.1 (hB.2.2.weaken (fun k q _ h => hF q.1 h)) hS1
theorem hz_aftRs {S : Type} {φ : S → Nat → Prop} {w1 : S → Nat → va_W} (hr : va_Run p l e R s m args below meth c H locs cells slots mc ms (F0 m pc ls st0) rest (va_Qr (fun (_ : S) => True) (fun u a t => φ u a ∧ va_P D vwCl (w1 u a) t.heap ∧ va_D (va_A wc H.size) (w1 u a)) (va_A wc H.size) av) (va_A wc H.size))
    (hP : va_P D vwCl ws H) (hD : va_D A ws) (hS : va_S A H0 H locs) (hA : ∀ q, H0.size ≤ q → A q) (isC isR : List Nat) (hC : isC.map (fun i => ws[i]?) = wc.map some) (hR : isR.map (fun i => ws[i]?) = wr.map some) (hn : va_nd isR = true) (hdis : ∀ i ∈ isR, i ∉ isC)
    (kk : ∀ (u : S) (a : Nat) (H1 : Heap) (locs1 : List Loc), φ u a → va_P D vwCl (wr ++ w1 u a) H1 → va_D A (wr ++ w1 u a) → va_S A H0 H1 locs1 → W p l e R s m args below meth c H1 locs1 (cells + mc) (slots + ms) Q (F0 m (pc + 3) ls (.ref a :: rest))) : W p l e R s m args below meth c H locs cells slots Q (F0 m pc ls st0) := by
  have hF := va_free hD hS hA isC hC
  refine va_callr hr hS (fun q _ h => hF q h) hF (fun u a t H1 locs1 ht hvm hw hB hz1 hk1 hS1 => ?_)
  rw [ht] at hB
  obtain ⟨hP1, hD1⟩ := va_join hP hD isC isR hC hR hn hdis hk1 hF hB.2.1 hB.2.2
  exact kk u a H1 locs1 hB.1 hP1 hD1 hS1
theorem hz_aftAW {S : Type} {φ : S → Prop} {w1 : S → va_W} (hr : va_Run p l e R s m args below meth c H locs cells slots mc ms (F0 m pc ls st0) rest (QAv D φ w1 (va_A ws H.size) av) (va_A ws H.size))
    (hD : va_D A ws) (hS : va_S A H0 H locs) (hA : ∀ q, H0.size ≤ q → A q)
    (kk : ∀ (u : S) (H1 : Heap) (locs1 : List Loc), φ u → va_P D vwCl (w1 u) H1 → va_D A (w1 u) → va_S A H0 H1 locs1 → W p l e R s m args below meth c H1 locs1 (cells + mc) (slots + ms) Q (F0 m (pc + 3) ls rest)) : W p l e R s m args below meth c H locs cells slots Q (F0 m pc ls st0) := by
  have hF := hz_freeW hD hS hA
  refine va_callv hr hS (fun q _ h => hF q h) hF (fun u t H1 locs1 ht hvm hw hB hz1 hk1 hS1 => ?_)
  rw [ht] at hB
  exact kk u H1 locs1 hw hB.1 (hB.2.weaken (fun k q _ h => hF q.1 h)) hS1
theorem hz_ofN (n : Nat) : Int32.ofNat n = zI (n : Int) := by
  unfold zI
  rfl
theorem hz_clN {n : Nat} (h : n ≤ 1000) : (zI (n : Int)).toNatClampNeg = n := by
  have := zI_cl (i := (n : Int)) (by omega)
  omega
theorem hz_ge0 {z : Int} (h : 0 ≤ z ∧ z ≤ 1000) : ¬ zI z < 0 := fun q => zI_in (n := 2147483648) (i := z) (by omega) (by omega) (Or.inl q)
theorem hz_copy (hx : p.tables.exec = Jvm.exec) (hb : c.code = cc) (hml : c.maxLocals = ls.size) {own : String} {index : Nat} (hown : s.vm.findClass own = some m.cls) (hlink : (Cond.methodLink own index arraycopyName).before args s = true) (hnat : (Cond.native arraycopyName).before args s = true) (hstat : (Cond.static arraycopyName).before args s = true) (hini : (Cond.initialized "java/lang/System").before args s = true)
    (hK : va_K D vwCl tys s) (hP : va_P D vwCl ws H) (hD : va_D A ws) (hS : va_S A H0 H locs) (q0 q1 t0 : Nat) {a0 a1 : Nat} {c0 : ClassId} {n0 n1 : Nat} {f g : Nat → Option Nat} (ha0 : ws[q0]? = some (a0, .inl (c0, n0, .inr (.inr (.inr (.inr f)))))) (ha1 : ws[q1]? = some (a1, .inl (c0, n1, .inr (.inr (.inr (.inr g)))))) (ht0 : tys[t0]? = some (c0, .object "java/lang/Object"))
    {N : Nat} (hN : N ≤ n0 ∧ N ≤ n1 ∧ N ≤ 1000) (hel : ∀ i : Nat, i < N → ∀ y : Nat, f i = some y → va_Any "java/lang/Object" s H y)
    (hframes : 1 ≤ R.frames) (hlocals : (rest.map fun v => v.category).sum + (nativeFrameWords "java/lang/System" "arraycopy" 5 + 11) ≤ R.locals) (hdg : decode cc pc = .ok (.invokestatic index, 3))
    (kk : ∀ (H1 : Heap) (locs1 : List Loc), va_P D vwCl (ws.set q1 (a1, .inl (c0, n1, .inr (.inr (.inr (.inr (va_cpy f g 0 0 N))))))) H1 → va_D A (ws.set q1 (a1, .inl (c0, n1, .inr (.inr (.inr (.inr (va_cpy f g 0 0 N))))))) → va_S A H0 H1 locs1 → W p l e R s m args below meth c H1 locs1 cells slots Q (F0 m (pc + 3) ls rest)) : W p l e R s m args below meth c H locs cells slots Q (F0 m pc ls (zi (N : Int) :: zi 0 :: .ref a1 :: zi 0 :: .ref a0 :: rest)) := by
  have e0 : (zI 0).toNatClampNeg = 0 := by decide
  have eN := hz_clN hN.2.2
  refine va_copyM hx hb hml hown hlink hnat hstat hini hK hP hD hS q0 q1 t0 t0 ha0 ha1 ht0 ht0 (sp := zI 0) (dp := zI 0) (n := zI (N : Int)) (hz_ge0 (by omega)) (hz_ge0 (by omega)) (hz_ge0 (by omega)) (by omega) (by omega) (fun i hi y hy => ?_) hframes hlocals hdg ?_
  · rw [e0, Nat.zero_add] at hy
    exact hel i (by omega) y hy
  · rw [e0, eN]
    exact kk
end HY
theorem hz_ofWY {l : Launch} {y : MethodName} {wz ws' : List Cond} {rm : Room} {av : List Value} {mi zE : Nat} {D : va_G} {tys : List (ClassId × FieldType)} {w : va_W} {sz mc ms : Nat} {L : Nat → Prop} {Qf : (Nat → Prop) → Array Value → State → Outcome → State → Prop} {cc : ByteArray} {maxL : Nat} {ret : Option FieldType} (hy : plainName y.cls = true) (hw : wz = Cond.code y cc maxL ret :: ws') (hle : (lg_sl av).length ≤ maxL)
    (body : ∀ (p : Program) (e : Env) (s : State) (m : MethodId) (below : List Frame) (meth : Method) (c : Code) (A : Nat → Prop) (ls : Array Slot), p.tables.exec = Jvm.exec → c.code = cc → meth.sig.returnType = ret → (∀ w ∈ wz, w.before av.toArray s = true) → s.vm.findClass y.cls = some m.cls → meth.name = y.name → meth.locks = false → c.maxLocals = maxL → va_P D vwCl w s.heap → va_K D vwCl tys s → (∀ q, s.heap.size ≤ q → A q) → va_D A w → va_S A s.heap s.heap [] → GP zE A s s.heap → GX mi s → (∀ x, L x → AnyX A s s.heap x) → lv_has ls maxL (lv_args 0 av) →
      W p l e (headSpec wz rm).room s m av.toArray below meth c s.heap [] 0 0 (MQ below (Qf A) av.toArray s mc ms A) (F0 m 0 ls [])) : Met l y wz rm (va_Pc av (HPreX mi zE D tys w sz L)) (Qf (va_A w sz)) mc ms (va_A w sz) := by
  refine Met.ofW (cc := cc) (maxL := maxL) (ret := ret) hy hw ?_
  intro p e s m args below meth c s₁ B hml hv
  obtain ⟨rfl, ⟨⟨hsz, hP, hK, hD0⟩, hG⟩, hX, hL⟩ := hv
  have hts := atoms_spec (ws := wz) B.pre
  have hown : s.vm.findClass y.cls = some m.cls := findClass_of_methodNamed B.named
  have hin : meth.name = y.name := (name_of_methodNamed B.named B.method).1
  subst hsz
  have hl := lv_entry av (n := maxL) hle
  rw [lg_entry_eq]
  exact body p e s m below meth c _ _ B.exec B.bytes B.returns hts hown hin B.notSynchronized hml hP hK (fun q h => Or.inr h) hD0.self va_S.rf hG hX hL hl
theorem hz_rtA : (∃ c0, FieldType.array (.object "java/lang/Object") = .object c0) ∨ ∃ t0, FieldType.array (.object "java/lang/Object") = .array t0 := Or.inr ⟨_, rfl⟩
abbrev Q_copyOf3 (G : va_G) (y : Nat → ClassId) (e0 cap : Nat) (fo : Nat → Option Nat) (n : Int) (A : Nat → Prop) : Array Value → State → Outcome → State → Prop := va_Qr (fun (_ : Unit) => True) (fun _ a t => True ∧ va_P G vwCl [(e0, .inl (y 3, cap, .inr (.inr (.inr (.inr fo))))), (a, .inl (y 3, n.toNat, .inr (.inr (.inr (.inr (va_cpy fo (fun _ => none) 0 0 cap))))))] t.heap ∧ va_D A [(e0, .inl (y 3, cap, .inr (.inr (.inr (.inr fo))))), (a, .inl (y 3, n.toNat, .inr (.inr (.inr (.inr (va_cpy fo (fun _ => none) 0 0 cap))))))]) A
set_option maxHeartbeats 4000000 in
set_option maxRecDepth 100000 in
theorem c_copyOf3 (l : Launch) (G : va_G) (mi zE : Nat) (y : Nat → ClassId) (sz : Nat) (e0 cap : Nat) (fo : Nat → Option Nat) (n : Int) (h : (cap : Int) ≤ n ∧ n ≤ 20) : Met l yJ7_copyOf_6403c wsJ7_copyOf_6403c ({ frames := 1, cells := 1, slots := 20, locals := 24 }) (va_Pc [.ref e0, zi n, .ref mi] (HPreX mi zE G (tyL y) [(e0, .inl (y 3, cap, .inr (.inr (.inr (.inr fo)))))] sz (fun x => ∃ i, i < cap ∧ fo i = some x))) (Q_copyOf3 G y e0 cap fo n (va_A [(e0, .inl (y 3, cap, .inr (.inr (.inr (.inr fo)))))] sz)) 1 20 (va_A [(e0, .inl (y 3, cap, .inr (.inr (.inr (.inr fo)))))] sz) := by
  refine hz_ofWY (Qf := Q_copyOf3 G y e0 cap fo n) (cc := cJ7_copyOf_6403c) (maxL := 4) (ret := some (.array (.object "java/lang/Object"))) (by decide) rfl (Nat.le_of_ble_eq_true rfl) ?_
  intro p e s m below meth c A ls hx hb hr hts hown _ hlocks hml hP hK hA hD hS hGP hX hL hl
  have hown : s.vm.findClass RJ7 = some m.cls := hown
  have hl : lv_has ls 4 [(0, .ref e0), (1, zi n), (2, .ref mi)] := hl
  refine lv_aload_n hx hb dJ7_copyOf_6403c_0 rfl (lv_at hl 2 rfl) ?_
  refine va_ldcM (C := "[Ljava/lang/Object;") hx hb hown (hts (.classLink RJ7 110 "[Ljava/lang/Object;") (List.mem_of_getElem? (i := 1) rfl)) hX.2.1 dJ7_copyOf_6403c_1 ?_
  refine lv_acmp_ne (rx := some mi) (ry := some mi) (tgt := 13) hx hb dJ7_copyOf_6403c_3 (by decide) (fun q => absurd rfl q) (fun _ => ?_)
  refine lv_iload_n hx hb dJ7_copyOf_6403c_6 rfl (lv_at hl 1 rfl) ?_
  refine hz_newq (C := "java/lang/Object") hx hb hown (hts (.classLink RJ7 2 "java/lang/Object") (List.mem_of_getElem? (i := 2) rfl)) hX.1 hK hP hD hS hA 3 rfl (by omega) (Nat.le_of_ble_eq_true rfl) (by show 0 + n.toNat ≤ 20; omega) dJ7_copyOf_6403c_7 (fun q1 H hP hD hS => ?_)
  have hP : va_P G vwCl [(e0, .inl (y 3, cap, .inr (.inr (.inr (.inr fo))))), (q1, .inl (y 3, n.toNat, .inr (.inr (.inr (.inr (fun _ => none))))))] H := hP
  have hD : va_D A [(e0, .inl (y 3, cap, .inr (.inr (.inr (.inr fo))))), (q1, .inl (y 3, n.toNat, .inr (.inr (.inr (.inr (fun _ => none))))))] := hD
  refine lv_goto (tgt := 24) hx hb dJ7_copyOf_6403c_10 (by decide) ?_
  refine lv_astore_n (lv' := [(3, .ref q1), (0, .ref e0), (1, zi n), (2, .ref mi)]) hx hb dJ7_copyOf_6403c_24 rfl hl (by decide) rfl (fun ls hl => ?_)
  refine lv_aload_n hx hb dJ7_copyOf_6403c_25 rfl (lv_at hl 1 rfl) ?_
  refine hz_iconst hx hb dJ7_copyOf_6403c_26 ?_
  refine lv_aload_n hx hb dJ7_copyOf_6403c_27 rfl (lv_at hl 0 rfl) ?_
  refine hz_iconst hx hb dJ7_copyOf_6403c_28 ?_
  refine lv_aload_n hx hb dJ7_copyOf_6403c_29 rfl (lv_at hl 1 rfl) ?_
  refine va_alen (v := zI (cap : Int)) hx hb hK hP 0 3 rfl rfl (hz_ofN cap) dJ7_copyOf_6403c_30 ?_
  refine lv_iload_n hx hb dJ7_copyOf_6403c_31 rfl (lv_at hl 2 rfl) ?_
  refine hz_mmin hx hb (hml.trans hl.1.symm) hown (hts (.methodLink RJ7 304 Lib.Math.min.name) (List.mem_of_getElem? (i := 3) rfl)) (hts (.static Lib.Math.min.name) (List.mem_of_getElem? (i := 4) rfl)) (hts (.initialized "java/lang/Math") (List.mem_of_getElem? (i := 5) rfl)) (hts (.code Lib.Math.min.name Lib.Math.min.code 2 (some .int)) (List.mem_of_getElem? (i := 6) rfl)) (Nat.le_of_ble_eq_true rfl) (Nat.le_of_ble_eq_true rfl) (Nat.le_of_ble_eq_true rfl) (by show 0 + n.toNat ≤ 20; omega) (by omega) dJ7_copyOf_6403c_32 ?_
  rw [if_neg (by omega)]
  refine hz_copy hx hb (hml.trans hl.1.symm) hown (hts (.methodLink RJ7 150 arraycopyName) (List.mem_of_getElem? (i := 7) rfl)) (hts (.native arraycopyName) (List.mem_of_getElem? (i := 8) rfl)) (hts (.static arraycopyName) (List.mem_of_getElem? (i := 9) rfl)) (hts (.initialized "java/lang/System") (List.mem_of_getElem? (i := 10) rfl)) hK hP hD hS 0 1 3 rfl rfl rfl (by omega) (fun i hi y9 hy => (hL y9 ⟨i, hi, hy⟩).at hS) (Nat.le_of_ble_eq_true rfl) (by decide) dJ7_copyOf_6403c_35 (fun H locs hP hD hS => ?_)
  refine lv_aload_n hx hb dJ7_copyOf_6403c_38 rfl (lv_at hl 0 rfl) ?_
  exact hz_upM (Nat.le_of_ble_eq_true rfl) (by show 0 + n.toNat ≤ 20; omega) (W.aret (v := .ref q1) (rt := .array (.object "java/lang/Object")) hx hb hr hz_rtA (Or.inr ⟨_, rfl⟩) (fun t ht hW => ⟨⟨(), q1, rfl, trivial, trivial, hz_at2 hP hD ht⟩, hS.F ht⟩) hS.2.2 dJ7_copyOf_6403c_39)
set_option maxHeartbeats 4000000 in
set_option maxRecDepth 100000 in
theorem c_copyOf2 (l : Launch) (G : va_G) (mi zE : Nat) (y : Nat → ClassId) (sz : Nat) (e0 cap : Nat) (fo : Nat → Option Nat) (n : Int) (h : (cap : Int) ≤ n ∧ n ≤ 20) : Met l yJ7_copyOf_1904c wsJ7_copyOf_1904c ({ frames := 2, cells := 1, slots := 20, locals := 47 }) (va_Pc [.ref e0, zi n] (HPreX mi zE G (tyL y) [(e0, .inl (y 3, cap, .inr (.inr (.inr (.inr fo)))))] sz (fun x => ∃ i, i < cap ∧ fo i = some x))) (Q_copyOf3 G y e0 cap fo n (va_A [(e0, .inl (y 3, cap, .inr (.inr (.inr (.inr fo)))))] sz)) 1 20 (va_A [(e0, .inl (y 3, cap, .inr (.inr (.inr (.inr fo)))))] sz) := by
  refine hz_ofWY (Qf := Q_copyOf3 G y e0 cap fo n) (cc := cJ7_copyOf_1904c) (maxL := 2) (ret := some (.array (.object "java/lang/Object"))) (by decide) rfl (Nat.le_of_ble_eq_true rfl) ?_
  intro p e s m below meth c A ls hx hb hr hts hown _ hlocks hml hP hK hA hD hS hGP hX hL hl
  have hown : s.vm.findClass RJ7 = some m.cls := hown
  have hl : lv_has ls 2 [(0, .ref e0), (1, zi n)] := hl
  refine lv_aload_n hx hb dJ7_copyOf_1904c_0 rfl (lv_at hl 0 rfl) ?_
  refine lv_iload_n hx hb dJ7_copyOf_1904c_1 rfl (lv_at hl 1 rfl) ?_
  refine lv_aload_n hx hb dJ7_copyOf_1904c_2 rfl (lv_at hl 0 rfl) ?_
  have hca : ∃ cell : Cell, s.heap[e0]? = some cell ∧ cell.vm.isStatics = false ∧ s.vm.findClass "[Ljava/lang/Object;" = some cell.cls := ⟨_, hP 0 _ rfl, rfl, va_nmO (hK.2 3 _ rfl).2 (by decide)⟩
  refine va_getC (C := "[Ljava/lang/Object;") hx hb (hml.trans hl.1.symm) hown (hts (.methodLink RJ7 86 ⟨"java/lang/Object", "getClass", "()Ljava/lang/Class;"⟩) (List.mem_of_getElem? (i := 1) rfl)) (va_Dc.use hX.2.2.1) (hts (.selects "[Ljava/lang/Object;" ⟨"java/lang/Object", "getClass", "()Ljava/lang/Class;"⟩ ⟨"java/lang/Object", "getClass", "()Ljava/lang/Class;"⟩) (List.mem_of_getElem? (i := 2) rfl)) (hts (.instanceMethod ⟨"java/lang/Object", "getClass", "()Ljava/lang/Class;"⟩) (List.mem_of_getElem? (i := 3) rfl)) (hts (.native ⟨"java/lang/Object", "getClass", "()Ljava/lang/Class;"⟩) (List.mem_of_getElem? (i := 4) rfl)) hX.2.1 hca (Nat.le_of_ble_eq_true rfl) (Nat.le_of_ble_eq_true rfl) dJ7_copyOf_1904c_3 ?_
  refine hz_aftR (w1 := fun (_ : Unit) a => [(e0, .inl (y 3, cap, .inr (.inr (.inr (.inr fo))))), (a, .inl (y 3, n.toNat, .inr (.inr (.inr (.inr (va_cpy fo (fun _ => none) 0 0 cap))))))]) (φ := fun _ _ => True) (va_runS (As := [.ref e0, zi n, .ref mi]) (rest := []) ⟨hx, hb, hml, hown, hts⟩ (c_copyOf3 l G mi zE y _ e0 cap fo n h) (va_cwS 3 hts gJ7_copyOf_1904c_J7_copyOf_6403c rfl rfl rfl (by decide +kernel) ⟨Nat.le_of_ble_eq_true rfl, Nat.le_of_ble_eq_true rfl⟩) ⟨hz_blindY, hz_preXW hP hK hD hS hA hGP hX hL⟩ rfl rfl hl.1 rfl (lv_room (Nat.le_of_ble_eq_true rfl)) dJ7_copyOf_1904c_6 ⟨Nat.le_of_ble_eq_true rfl, Nat.le_of_ble_eq_true rfl⟩) hD hS hA (fun u a H locs _ hP hD hS => ?_)
  exact W.aret (v := .ref a) (rt := .array (.object "java/lang/Object")) hx hb hr hz_rtA (Or.inr ⟨_, rfl⟩) (fun t ht hW => ⟨⟨(), a, rfl, trivial, trivial, hz_at2 hP hD ht⟩, hS.F ht⟩) hS.2.2 dJ7_copyOf_1904c_9
theorem c_J8_newLength_cabcc (l : Launch) (na : Int) (nb : Int) (nc : Int) (ha : 0 ≤ na ∧ na ≤ 1000) (hb1 : 1 ≤ nb ∧ nb ≤ 1000) (hc1 : 0 ≤ nc ∧ nc ≤ 1000) : Met l yJ8_newLength_cabcc wsJ8_newLength_cabcc ({ frames := 1, cells := 0, slots := 0, locals := 22 }) (va_Pc [zi na, zi nb, zi nc] (fun _ => True)) (vp_Si (fun r => r = zI (na + (if nb < nc then nc else nb)))) 0 0 (fun _ => False) := by
  refine hz_ofS (cc := cJ8_newLength_cabcc) (maxL := 4) (ret := (some .int)) (by decide) rfl (Nat.le_of_ble_eq_true rfl) ?_
  intro p e s m below meth c ls hx hb hr hts hown hlocks hml hl
  have hown : s.vm.findClass RJ8 = some m.cls := hown
  have hl : lv_has ls 4 [(0, zi na), (1, zi nb), (2, zi nc)] := hl
  refine lv_iload_n hx hb dJ8_newLength_cabcc_0 rfl (lv_at hl 0 rfl) ?_
  refine lv_iload_n hx hb dJ8_newLength_cabcc_1 rfl (lv_at hl 1 rfl) ?_
  refine lv_iload_n hx hb dJ8_newLength_cabcc_2 rfl (lv_at hl 2 rfl) ?_
  refine hz_mmax hx hb (hml.trans hl.1.symm) hown (hts (.methodLink RJ8 194 Lib.Math.max.name) (List.mem_of_getElem? (i := 1) rfl)) (hts (.static Lib.Math.max.name) (List.mem_of_getElem? (i := 2) rfl)) (hts (.initialized "java/lang/Math") (List.mem_of_getElem? (i := 3) rfl)) (hts (.code Lib.Math.max.name Lib.Math.max.code 2 (some .int)) (List.mem_of_getElem? (i := 4) rfl)) (Nat.le_of_ble_eq_true rfl) (Nat.le_of_ble_eq_true rfl) (Nat.le_of_ble_eq_true rfl) (Nat.le_of_ble_eq_true rfl) (by omega) dJ8_newLength_cabcc_3 ?_
  refine hz_topi (fun z1 e2 => ?_)
  refine hz_iadd hx hb dJ8_newLength_cabcc_6 ?_
  refine lv_istore_n (lv' := [(3, zi (na + z1)), (0, zi na), (1, zi nb), (2, zi nc)]) hx hb dJ8_newLength_cabcc_7 rfl hl (by decide) rfl (fun ls hl => ?_)
  refine hz_iconst hx hb dJ8_newLength_cabcc_8 ?_
  refine lv_iload_n hx hb dJ8_newLength_cabcc_9 rfl (lv_at hl 0 rfl) ?_
  refine hz_icmp_ge (tgt := 21) hx hb dJ8_newLength_cabcc_10 (by decide) (by omega) (fun q => absurd q (by omega)) (fun c3 => ?_)
  refine lv_iload_n hx hb dJ8_newLength_cabcc_13 rfl (lv_at hl 0 rfl) ?_
  refine lv_ldc (v := zI 2147483639) hx hb hown (hts (.constant RJ8 200 (2147483639)) (List.mem_of_getElem? (i := 5) rfl)) dJ8_newLength_cabcc_14 ?_
  refine hz_icmp_gt (tgt := 21) hx hb dJ8_newLength_cabcc_16 (by decide) (by omega) (fun q => absurd q (by omega)) (fun c4 => ?_)
  refine lv_iload_n hx hb dJ8_newLength_cabcc_19 rfl (lv_at hl 0 rfl) ?_
  exact W.iret (v := zI (na + z1)) hx hb hr (fun t ht hW => ⟨zI (na + z1), rfl, congrArg zI (by omega), ht⟩) (fun q hq => absurd hq List.not_mem_nil) dJ8_newLength_cabcc_20
def alW (a0 e0 cap : Nat) (b : Bool) (y : Nat → ClassId) (xm : Int32) (xN : Int) (fo : Nat → Option Nat) : va_W := (a0, .inr (0, [.int xm, .ref e0, zi xN])) :: leW b e0 (y 3) cap fo
abbrev alR (a0 : Nat) (y : Nat → ClassId) (xm : Int32) (xN : Int) (u : Nat × (Nat → Option Nat)) (a : Nat) : va_W := [(a0, .inr (0, [.int xm, .ref a, zi xN])), (a, .inl (y 3, u.1, .inr (.inr (.inr (.inr u.2)))))]
abbrev grF (xN : Int) (fo : Nat → Option Nat) (u : Nat × (Nat → Option Nat)) : Prop := xN + 1 ≤ (u.1 : Int) ∧ u.1 ≤ 20 ∧ ∀ i : Nat, (i : Int) < xN → u.2 i = fo i
abbrev Q_grow (G : va_G) (y : Nat → ClassId) (a0 : Nat) (xm : Int32) (xN : Int) (fo : Nat → Option Nat) (A : Nat → Prop) : Array Value → State → Outcome → State → Prop := va_Qr (fun (_ : Nat × (Nat → Option Nat)) => True) (fun u a t => grF xN fo u ∧ va_P G vwCl (alR a0 y xm xN u a) t.heap ∧ va_D A (alR a0 y xm xN u a)) A
set_option maxHeartbeats 4000000 in
set_option maxRecDepth 100000 in
theorem c_grow1 (l : Launch) (G : va_G) (mi zE : Nat) (y : Nat → ClassId) (sz : Nat) (a0 e0 cap : Nat) (b : Bool) (xm : Int32) (xN : Int) (fo : Nat → Option Nat) (hb0 : (b = true ∧ xN = cap ∧ cap ≤ 12) ∨ (b = false ∧ e0 = zE ∧ xN = 0)) : Met l yJx4a65c_grow_92f84 wsJx4a65c_grow_92f84 ({ frames := 3, cells := 1, slots := 20, locals := 68 }) (va_Pc [.ref a0, zi (xN + 1)] (HPreX mi zE G (tyL y) (alW a0 e0 cap b y xm xN fo) sz (fun x => ∃ i : Nat, (i : Int) < xN ∧ fo i = some x))) (Q_grow G y a0 xm xN fo (va_A (alW a0 e0 cap b y xm xN fo) sz)) 1 20 (va_A (alW a0 e0 cap b y xm xN fo) sz) := by
  refine hz_ofWY (Qf := Q_grow G y a0 xm xN fo) (cc := cJx4a65c_grow_92f84) (maxL := 4) (ret := some (.array (.object "java/lang/Object"))) (by decide) rfl (Nat.le_of_ble_eq_true rfl) ?_
  intro p e s m below meth c A ls hx hb hr hts hown _ hlocks hml hP hK hA hD hS hGP hX hL hl
  have hown : s.vm.findClass RJx4a65c = some m.cls := hown
  have hl : lv_has ls 4 [(0, .ref a0), (1, zi (xN + 1))] := hl
  have hinws : ∀ w ∈ wsJx4a65c0, w ∈ wsJx4a65c_grow_92f84 := fun _ h => List.mem_cons_of_mem _ (List.mem_append_right _ (h))
  rcases hb0 with ⟨rfl, rfl, hc12⟩ | ⟨rfl, rfl, rfl⟩
  · have hP : va_P G vwCl [(a0, .inr (0, [.int xm, .ref e0, zi (cap : Int)])), (e0, .inl (y 3, cap, .inr (.inr (.inr (.inr fo)))))] s.heap := hP
    have hD : va_D A [(a0, .inr (0, [.int xm, .ref e0, zi (cap : Int)])), (e0, .inl (y 3, cap, .inr (.inr (.inr (.inr fo)))))] := hD
    refine lv_aload_n hx hb dJx4a65c_grow_92f84_0 rfl (lv_at hl 0 rfl) ?_
    refine va_get (D := G) (ci := 0) (v := .ref e0) (C := RJx4a65c) (T := TJx4a65c) (N := 3) hx hb hts hinws hown hK hP 0 rfl rfl 1 (by decide) (hts (.fieldLink RJx4a65c 9 "java/util/ArrayList" "elementData" "[Ljava/lang/Object;") (List.mem_of_getElem? (i := 1) rfl)) (fun _ h9 => h9) rfl dJx4a65c_grow_92f84_1 ?_
    refine va_alen (v := zI (cap : Int)) hx hb hK hP 1 3 rfl rfl (hz_ofN cap) dJx4a65c_grow_92f84_4 ?_
    refine lv_istore_n (lv' := [(2, zi (cap : Int)), (0, .ref a0), (1, zi ((cap : Int) + 1))]) hx hb dJx4a65c_grow_92f84_5 rfl hl (by decide) rfl (fun ls hl => ?_)
    have L20 : W p l e (headSpec wsJx4a65c_grow_92f84 ({ frames := 3, cells := 1, slots := 20, locals := 68 })).room s m ([.ref a0, zi ((cap : Int) + 1)] : List Value).toArray below meth c s.heap [] 0 0 (MQ below (Q_grow G y a0 xm (cap : Int) fo A) ([.ref a0, zi ((cap : Int) + 1)] : List Value).toArray s 1 20 A) (F0 m 20 ls []) := by
      refine lv_iload_n hx hb dJx4a65c_grow_92f84_20 rfl (lv_at hl 0 rfl) ?_
      refine lv_iload_n hx hb dJx4a65c_grow_92f84_21 rfl (lv_at hl 2 rfl) ?_
      refine lv_iload_n hx hb dJx4a65c_grow_92f84_22 rfl (lv_at hl 0 rfl) ?_
      refine hz_isub hx hb dJx4a65c_grow_92f84_23 ?_
      refine lv_iload_n hx hb dJx4a65c_grow_92f84_24 rfl (lv_at hl 0 rfl) ?_
      refine hz_iconst hx hb dJx4a65c_grow_92f84_25 ?_
      refine hz_ishr hx hb dJx4a65c_grow_92f84_26 (by omega) ?_
      have e2 : (cap : Int) / 2 ^ (1 : Int).toNat = (cap : Int) / 2 := rfl
      rw [e2]
      refine hz_callSi (As := [zi (cap : Int), zi (((cap : Int) + 1) - cap), zi ((cap : Int) / 2)]) (rest := []) ⟨hx, hb, hml, hown, hts⟩ (c_J8_newLength_cabcc l (cap : Int) (((cap : Int) + 1) - cap) ((cap : Int) / 2) (by omega) (by omega) (by omega)) (va_cwS 3 hts gJx4a65c_grow_92f84_J8_newLength_cabcc rfl rfl rfl (by decide +kernel) ⟨Nat.le_of_ble_eq_true rfl, Nat.le_of_ble_eq_true rfl⟩) rfl hl.1 rfl (Nat.le_of_ble_eq_true rfl) dJx4a65c_grow_92f84_27 ⟨Nat.zero_le _, Nat.zero_le _⟩ ?_
      refine hz_topi (fun n hn => ?_)
      refine lv_istore_n (lv' := [(3, zi n), (2, zi (cap : Int)), (0, .ref a0), (1, zi ((cap : Int) + 1))]) hx hb dJx4a65c_grow_92f84_30 rfl hl (by decide) rfl (fun ls hl => ?_)
      refine lv_aload_n hx hb dJx4a65c_grow_92f84_31 rfl (lv_at hl 2 rfl) ?_
      refine lv_aload_n hx hb dJx4a65c_grow_92f84_32 rfl (lv_at hl 2 rfl) ?_
      refine va_get (D := G) (ci := 0) (v := .ref e0) (C := RJx4a65c) (T := TJx4a65c) (N := 3) hx hb hts hinws hown hK hP 0 rfl rfl 1 (by decide) (hts (.fieldLink RJx4a65c 9 "java/util/ArrayList" "elementData" "[Ljava/lang/Object;") (List.mem_of_getElem? (i := 1) rfl)) (fun _ h9 => h9) rfl dJx4a65c_grow_92f84_33 ?_
      refine lv_iload_n hx hb dJx4a65c_grow_92f84_36 rfl (lv_at hl 0 rfl) ?_
      have hF := va_free (wc := [(e0, .inl (y 3, cap, .inr (.inr (.inr (.inr fo)))))]) hD hS hA [1] rfl
      refine hz_aftRs (wc := [(e0, .inl (y 3, cap, .inr (.inr (.inr (.inr fo)))))]) (wr := [(a0, .inr (0, [.int xm, .ref e0, zi (cap : Int)]))]) (w1 := fun (_ : Unit) a => [(e0, .inl (y 3, cap, .inr (.inr (.inr (.inr fo))))), (a, .inl (y 3, n.toNat, .inr (.inr (.inr (.inr (va_cpy fo (fun _ => none) 0 0 cap))))))]) (φ := fun _ _ => True) (va_runS (As := [.ref e0, zi n]) (rest := [.ref a0]) ⟨hx, hb, hml, hown, hts⟩ (c_copyOf2 l G mi zE y _ e0 cap fo n (by omega)) (va_cwS 2 hts gJx4a65c_grow_92f84_J7_copyOf_1904c rfl rfl rfl (by decide +kernel) ⟨Nat.le_of_ble_eq_true rfl, Nat.le_of_ble_eq_true rfl⟩) ⟨hz_blindY, hz_preX hP hK hD hS hA hGP hX [1] [0, 1, 2, 3] rfl rfl rfl (fun x hx9 => by obtain ⟨i, h1, h2⟩ := hx9; have h3 := hL x ⟨i, by omega, h2⟩; exact ⟨h3.at hS, fun z => h3.2 (hF x z)⟩)⟩ rfl rfl hl.1 rfl (lv_room (Nat.le_of_ble_eq_true rfl)) dJx4a65c_grow_92f84_37 ⟨Nat.le_of_ble_eq_true rfl, Nat.le_of_ble_eq_true rfl⟩) hP hD hS hA [1] [0] rfl rfl (by decide) (by decide) (fun u a H locs _ hP hD hS => ?_)
      have hP : va_P G vwCl [(a0, .inr (0, [.int xm, .ref e0, zi (cap : Int)])), (e0, .inl (y 3, cap, .inr (.inr (.inr (.inr fo))))), (a, .inl (y 3, n.toNat, .inr (.inr (.inr (.inr (va_cpy fo (fun _ => none) 0 0 cap))))))] H := hP
      have hD : va_D A [(a0, .inr (0, [.int xm, .ref e0, zi (cap : Int)])), (e0, .inl (y 3, cap, .inr (.inr (.inr (.inr fo))))), (a, .inl (y 3, n.toNat, .inr (.inr (.inr (.inr (va_cpy fo (fun _ => none) 0 0 cap))))))] := hD
      refine lv_dup_x1 hx hb dJx4a65c_grow_92f84_40 rfl rfl ?_
      refine va_put (D := G) (ci := 0) (v := .ref a) (ty := .array (.object "java/lang/Object")) (C := RJx4a65c) (T := TJx4a65c) (N := 3) hx hb hts hinws tyJx4a65c tyJx4a65c_ok nmJx4a65c hown hK hP hD hS 0 rfl rfl 1 (by decide) (hts (.fieldLink RJx4a65c 9 "java/util/ArrayList" "elementData" "[Ljava/lang/Object;") (List.mem_of_getElem? (i := 1) rfl)) (fun _ h9 => h9) rfl (by decide +kernel) rfl rfl (Nat.le_of_ble_eq_true rfl) dJx4a65c_grow_92f84_41 (fun H locs hP hD hS => ?_)
      have hP9 : va_P G vwCl (alR a0 y xm (cap : Int) (n.toNat, va_cpy fo (fun _ => none) 0 0 cap) a) H := hP.sub [0, 2] rfl
      have hD9 : va_D A (alR a0 y xm (cap : Int) (n.toNat, va_cpy fo (fun _ => none) 0 0 cap) a) := hD.sub [0, 2] (by decide) rfl
      have hgr : grF (cap : Int) fo (n.toNat, va_cpy fo (fun _ => none) 0 0 cap) := ⟨by show (cap : Int) + 1 ≤ ((n.toNat : Nat) : Int); omega, by show n.toNat ≤ 20; omega, fun i hi => by show (if 0 ≤ i ∧ i < 0 + cap then fo (0 + (i - 0)) else none) = fo i; rw [if_pos (by omega)]; exact congrArg fo (by omega)⟩
      exact hz_upM (Nat.le_of_ble_eq_true rfl) (Nat.le_of_ble_eq_true rfl) (W.aret (v := .ref a) (rt := .array (.object "java/lang/Object")) hx hb hr hz_rtA (Or.inr ⟨_, rfl⟩) (fun t ht hW => ⟨⟨(n.toNat, va_cpy fo (fun _ => none) 0 0 cap), a, rfl, trivial, hgr, hz_at2 hP9 hD9 ht⟩, hS.F ht⟩) hS.2.2 dJx4a65c_grow_92f84_44)
    refine lv_iload_n hx hb dJx4a65c_grow_92f84_6 rfl (lv_at hl 0 rfl) ?_
    refine hz_if_gt (tgt := 20) hx hb dJx4a65c_grow_92f84_7 (by decide) (by omega) (fun _ => L20) (fun c1 => ?_)
    refine lv_aload_n hx hb dJx4a65c_grow_92f84_10 rfl (lv_at hl 1 rfl) ?_
    refine va_get (D := G) (ci := 0) (v := .ref e0) (C := RJx4a65c) (T := TJx4a65c) (N := 3) hx hb hts hinws hown hK hP 0 rfl rfl 1 (by decide) (hts (.fieldLink RJx4a65c 9 "java/util/ArrayList" "elementData" "[Ljava/lang/Object;") (List.mem_of_getElem? (i := 1) rfl)) (fun _ h9 => h9) rfl dJx4a65c_grow_92f84_11 ?_
    refine va_gets (C := "java/util/ArrayList") (n := "DEFAULTCAPACITY_EMPTY_ELEMENTDATA") (d := "[Ljava/lang/Object;") hx hb hGP.2.2.2.2.1.1 hS hown (hts (.fieldLink RJx4a65c 39 "java/util/ArrayList" "DEFAULTCAPACITY_EMPTY_ELEMENTDATA" "[Ljava/lang/Object;") (List.mem_of_getElem? (i := 2) rfl)) (fun _ h9 => h9) dJx4a65c_grow_92f84_14 ?_
    refine lv_acmp_eq (rx := some e0) (ry := some zE) (tgt := 45) hx hb dJx4a65c_grow_92f84_17 (by decide) (fun q => ?_) (fun _ => L20)
    exact absurd (hD.2 1 _ rfl) (by rw [show e0 = zE from Option.some.inj q]; exact hGP.2.2.2.2.1.2.out)
  · have hP : va_P G vwCl [(a0, .inr (0, [.int xm, .ref e0, zi 0]))] s.heap := hP
    have hD : va_D A [(a0, .inr (0, [.int xm, .ref e0, zi 0]))] := hD
    refine lv_aload_n hx hb dJx4a65c_grow_92f84_0 rfl (lv_at hl 0 rfl) ?_
    refine va_get (D := G) (ci := 0) (v := .ref e0) (C := RJx4a65c) (T := TJx4a65c) (N := 3) hx hb hts hinws hown hK hP 0 rfl rfl 1 (by decide) (hts (.fieldLink RJx4a65c 9 "java/util/ArrayList" "elementData" "[Ljava/lang/Object;") (List.mem_of_getElem? (i := 1) rfl)) (fun _ h9 => h9) rfl dJx4a65c_grow_92f84_1 ?_
    refine va_tlen (v := zI 0) hx hb hGP.2.2.2.2.1.2 hS (by decide) dJx4a65c_grow_92f84_4 ?_
    refine lv_istore_n (lv' := [(2, zi 0), (0, .ref a0), (1, zi (0 + 1))]) hx hb dJx4a65c_grow_92f84_5 rfl hl (by decide) rfl (fun ls hl => ?_)
    refine lv_iload_n hx hb dJx4a65c_grow_92f84_6 rfl (lv_at hl 0 rfl) ?_
    refine hz_if_gt (tgt := 20) hx hb dJx4a65c_grow_92f84_7 (by decide) (by omega) (fun q => absurd q (by omega)) (fun _ => ?_)
    refine lv_aload_n hx hb dJx4a65c_grow_92f84_10 rfl (lv_at hl 1 rfl) ?_
    refine va_get (D := G) (ci := 0) (v := .ref e0) (C := RJx4a65c) (T := TJx4a65c) (N := 3) hx hb hts hinws hown hK hP 0 rfl rfl 1 (by decide) (hts (.fieldLink RJx4a65c 9 "java/util/ArrayList" "elementData" "[Ljava/lang/Object;") (List.mem_of_getElem? (i := 1) rfl)) (fun _ h9 => h9) rfl dJx4a65c_grow_92f84_11 ?_
    refine va_gets (C := "java/util/ArrayList") (n := "DEFAULTCAPACITY_EMPTY_ELEMENTDATA") (d := "[Ljava/lang/Object;") hx hb hGP.2.2.2.2.1.1 hS hown (hts (.fieldLink RJx4a65c 39 "java/util/ArrayList" "DEFAULTCAPACITY_EMPTY_ELEMENTDATA" "[Ljava/lang/Object;") (List.mem_of_getElem? (i := 2) rfl)) (fun _ h9 => h9) dJx4a65c_grow_92f84_14 ?_
    refine lv_acmp_eq (rx := some e0) (ry := some e0) (tgt := 45) hx hb dJx4a65c_grow_92f84_17 (by decide) (fun _ => ?_) (fun q => absurd rfl q)
    refine lv_aload_n hx hb dJx4a65c_grow_92f84_45 rfl (lv_at hl 1 rfl) ?_
    refine hz_bipush hx hb dJx4a65c_grow_92f84_46 (by decide) ?_
    refine lv_iload_n hx hb dJx4a65c_grow_92f84_48 rfl (lv_at hl 2 rfl) ?_
    refine hz_mmax hx hb (hml.trans hl.1.symm) hown (hts (.methodLink RJx4a65c 79 Lib.Math.max.name) (List.mem_of_getElem? (i := 3) rfl)) (hts (.static Lib.Math.max.name) (List.mem_of_getElem? (i := 4) rfl)) (hts (.initialized "java/lang/Math") (List.mem_of_getElem? (i := 5) rfl)) (hts (.code Lib.Math.max.name Lib.Math.max.code 2 (some .int)) (List.mem_of_getElem? (i := 6) rfl)) (Nat.le_of_ble_eq_true rfl) (Nat.le_of_ble_eq_true rfl) (Nat.le_of_ble_eq_true rfl) (Nat.le_of_ble_eq_true rfl) (by omega) dJx4a65c_grow_92f84_49 ?_
    rw [if_neg (by omega)]
    refine hz_newq (C := "java/lang/Object") hx hb hown (hts (.classLink RJx4a65c 7 "java/lang/Object") (List.mem_of_getElem? (i := 7) rfl)) hX.1 hK hP hD hS hA 3 rfl (by omega) (Nat.le_of_ble_eq_true rfl) (Nat.le_of_ble_eq_true rfl) dJx4a65c_grow_92f84_52 (fun a H hP hD hS => ?_)
    have hP : va_P G vwCl [(a0, .inr (0, [.int xm, .ref e0, zi 0])), (a, .inl (y 3, 10, .inr (.inr (.inr (.inr (fun _ => none))))))] H := hP
    have hD : va_D A [(a0, .inr (0, [.int xm, .ref e0, zi 0])), (a, .inl (y 3, 10, .inr (.inr (.inr (.inr (fun _ => none))))))] := hD
    refine lv_dup_x1 hx hb dJx4a65c_grow_92f84_55 rfl rfl ?_
    refine va_put (D := G) (ci := 0) (v := .ref a) (ty := .array (.object "java/lang/Object")) (C := RJx4a65c) (T := TJx4a65c) (N := 3) hx hb hts hinws tyJx4a65c tyJx4a65c_ok nmJx4a65c hown hK hP hD hS 0 rfl rfl 1 (by decide) (hts (.fieldLink RJx4a65c 9 "java/util/ArrayList" "elementData" "[Ljava/lang/Object;") (List.mem_of_getElem? (i := 1) rfl)) (fun _ h9 => h9) rfl (by decide +kernel) rfl rfl (Nat.le_of_ble_eq_true rfl) dJx4a65c_grow_92f84_56 (fun H locs hP hD hS => ?_)
    have hgr : grF 0 fo (10, fun _ => none) := ⟨by show (0 : Int) + 1 ≤ ((10 : Nat) : Int); omega, by show 10 ≤ 20; omega, fun i hi => by omega⟩
    exact hz_upM (Nat.le_of_ble_eq_true rfl) (Nat.le_of_ble_eq_true rfl) (W.aret (v := .ref a) (rt := .array (.object "java/lang/Object")) hx hb hr hz_rtA (Or.inr ⟨_, rfl⟩) (fun t ht hW => ⟨⟨(10, fun _ => none), a, rfl, trivial, hgr, hz_at2 (w := alR a0 y xm 0 (10, fun _ => none) a) hP hD ht⟩, hS.F ht⟩) hS.2.2 dJx4a65c_grow_92f84_59)
set_option maxHeartbeats 4000000 in
set_option maxRecDepth 100000 in
theorem c_grow0 (l : Launch) (G : va_G) (mi zE : Nat) (y : Nat → ClassId) (sz : Nat) (a0 e0 cap : Nat) (b : Bool) (xm : Int32) (xN : Int) (fo : Nat → Option Nat) (hb0 : (b = true ∧ xN = cap ∧ cap ≤ 12) ∨ (b = false ∧ e0 = zE ∧ xN = 0)) : Met l yJx4a65c_grow_d5877 wsJx4a65c_grow_d5877 ({ frames := 4, cells := 1, slots := 20, locals := 91 }) (va_Pc [.ref a0] (HPreX mi zE G (tyL y) (alW a0 e0 cap b y xm xN fo) sz (fun x => ∃ i : Nat, (i : Int) < xN ∧ fo i = some x))) (Q_grow G y a0 xm xN fo (va_A (alW a0 e0 cap b y xm xN fo) sz)) 1 20 (va_A (alW a0 e0 cap b y xm xN fo) sz) := by
  refine hz_ofWY (Qf := Q_grow G y a0 xm xN fo) (cc := cJx4a65c_grow_d5877) (maxL := 1) (ret := some (.array (.object "java/lang/Object"))) (by decide) rfl (Nat.le_of_ble_eq_true rfl) ?_
  intro p e s m below meth c A ls hx hb hr hts hown _ hlocks hml hP hK hA hD hS hGP hX hL hl
  have hown : s.vm.findClass RJx4a65c = some m.cls := hown
  have hl : lv_has ls 1 [(0, .ref a0)] := hl
  have hinws : ∀ w ∈ wsJx4a65c0, w ∈ wsJx4a65c_grow_d5877 := fun _ h => List.mem_cons_of_mem _ (List.mem_append_right _ (h))
  refine lv_aload_n hx hb dJx4a65c_grow_d5877_0 rfl (lv_at hl 0 rfl) ?_
  refine lv_aload_n hx hb dJx4a65c_grow_d5877_1 rfl (lv_at hl 0 rfl) ?_
  refine va_get (D := G) (ci := 0) (v := zi xN) (C := RJx4a65c) (T := TJx4a65c) (N := 3) hx hb hts hinws hown hK hP 0 rfl rfl 2 (by decide) (hts (.fieldLink RJx4a65c 48 "java/util/ArrayList" "size" "I") (List.mem_of_getElem? (i := 1) rfl)) (fun _ h9 => h9) rfl dJx4a65c_grow_d5877_2 ?_
  refine hz_iconst hx hb dJx4a65c_grow_d5877_5 ?_
  refine hz_iadd hx hb dJx4a65c_grow_d5877_6 ?_
  refine hz_aftR (w1 := fun u a => alR a0 y xm xN u a) (φ := fun u _ => grF xN fo u) (va_runV (As := [zi (xN + 1)]) (rest := []) ⟨hx, hb, hml, hown, hts⟩ (c_grow1 l G mi zE y _ a0 e0 cap b xm xN fo hb0) (cwV 1 hts gJx4a65c_grow_d5877_Jx4a65c_grow_92f84 rfl rfl rfl (by decide +kernel) ⟨Nat.le_of_ble_eq_true rfl, Nat.le_of_ble_eq_true rfl⟩) ⟨hz_blindY, va_recv hK hP (ci := 0) (q0 := 0) rfl rfl, hz_preXW hP hK hD hS hA hGP hX hL⟩ rfl rfl hl.1 rfl (lv_room (Nat.le_of_ble_eq_true rfl)) dJx4a65c_grow_d5877_7 ⟨Nat.le_of_ble_eq_true rfl, Nat.le_of_ble_eq_true rfl⟩) hD hS hA (fun u a H locs hg hP hD hS => ?_)
  exact W.aret (v := .ref a) (rt := .array (.object "java/lang/Object")) hx hb hr hz_rtA (Or.inr ⟨_, rfl⟩) (fun t ht hW => ⟨⟨u, a, rfl, trivial, hg, hz_at2 hP hD ht⟩, hS.F ht⟩) hS.2.2 dJx4a65c_grow_d5877_10
abbrev adF (xN : Int) (q : Nat) (fo : Nat → Option Nat) (u : Nat × (Nat → Option Nat) × Nat) : Prop := (xN + 1 ≤ (u.1 : Int) ∧ u.1 ≤ 1000) ∧ u.2.1 xN.toNat = some q ∧ ∀ i : Nat, (i : Int) < xN → u.2.1 i = fo i
abbrev Q_add3 (G : va_G) (y : Nat → ClassId) (a0 q : Nat) (xm : Int32) (xN : Int) (fo : Nat → Option Nat) (A : Nat → Prop) : Array Value → State → Outcome → State → Prop := QAv G (fun (u : Nat × (Nat → Option Nat) × Nat) => adF xN q fo u) (fun u => alR a0 y xm (xN + 1) (u.1, u.2.1) u.2.2) A
set_option maxHeartbeats 4000000 in
set_option maxRecDepth 100000 in
theorem c_add3 (l : Launch) (G : va_G) (mi zE : Nat) (y : Nat → ClassId) (sz : Nat) (a0 e0 cap q : Nat) (b : Bool) (xm : Int32) (xN : Int) (fo : Nat → Option Nat) (hb0 : (b = true ∧ (0 ≤ xN ∧ xN ≤ 12) ∧ xN ≤ (cap : Int) ∧ cap ≤ 1000) ∨ (b = false ∧ e0 = zE ∧ xN = 0)) : Met l yJx4a65c_add_72be8 wsJx4a65c_add_72be8 ({ frames := 5, cells := 1, slots := 20, locals := 111 }) (va_Pc [.ref a0, .ref q, .ref e0, zi xN] (HPreX mi zE G (tyL y) (alW a0 e0 cap b y xm xN fo) sz (fun x => x = q ∨ ∃ i : Nat, (i : Int) < xN ∧ fo i = some x))) (Q_add3 G y a0 q xm xN fo (va_A (alW a0 e0 cap b y xm xN fo) sz)) 1 20 (va_A (alW a0 e0 cap b y xm xN fo) sz) := by
  refine hz_ofWY (Qf := Q_add3 G y a0 q xm xN fo) (cc := cJx4a65c_add_72be8) (maxL := 4) (ret := none) (by decide) rfl (Nat.le_of_ble_eq_true rfl) ?_
  intro p e s m below meth c A ls hx hb hr hts hown _ hlocks hml hP hK hA hD hS hGP hX hL hl
  have hown : s.vm.findClass RJx4a65c = some m.cls := hown
  have hl : lv_has ls 4 [(0, .ref a0), (1, .ref q), (2, .ref e0), (3, zi xN)] := hl
  have hinws : ∀ w ∈ wsJx4a65c0, w ∈ wsJx4a65c_add_72be8 := fun _ h => List.mem_cons_of_mem _ (List.mem_append_right _ (h))
  have hxN : 0 ≤ xN ∧ xN ≤ 12 := by rcases hb0 with h | h <;> omega
  have L11 : ∀ (e1 n1 : Nat) (f1 : Nat → Option Nat) (H : Heap) (locs : List Loc) (cells slots : Nat), (xN + 1 ≤ (n1 : Int) ∧ n1 ≤ 1000) → (∀ i : Nat, (i : Int) < xN → f1 i = fo i) → cells ≤ 1 → slots ≤ 20 → va_P G vwCl (alR a0 y xm xN (n1, f1) e1) H → va_D A (alR a0 y xm xN (n1, f1) e1) → va_S A s.heap H locs → ∀ ls : Array Slot, lv_has ls 4 [(2, .ref e1), (0, .ref a0), (1, .ref q), (3, zi xN)] → W p l e (headSpec wsJx4a65c_add_72be8 ({ frames := 5, cells := 1, slots := 20, locals := 111 })).room s m ([.ref a0, .ref q, .ref e0, zi xN] : List Value).toArray below meth c H locs cells slots (MQ below (Q_add3 G y a0 q xm xN fo A) ([.ref a0, .ref q, .ref e0, zi xN] : List Value).toArray s 1 20 A) (F0 m 11 ls []) := by
    intro e1 n1 f1 H locs cells slots hn1 hf1 hc1 hs1 hP hD hS ls hl
    refine lv_aload_n hx hb dJx4a65c_add_72be8_11 rfl (lv_at hl 0 rfl) ?_
    refine lv_iload_n hx hb dJx4a65c_add_72be8_12 rfl (lv_at hl 3 rfl) ?_
    refine lv_aload_n hx hb dJx4a65c_add_72be8_13 rfl (lv_at hl 2 rfl) ?_
    refine va_astqM (E := "java/lang/Object") hx hb hK hP hD hS 1 3 rfl rfl ((hL q (Or.inl rfl)).at hS) (zI_in (by omega) (by omega)) dJx4a65c_add_72be8_14 (fun H locs hP hD hS => ?_)
    have e3 : (zI xN).toNatClampNeg = xN.toNat := by have := zI_cl (i := xN) (by omega); omega
    rw [e3] at hP hD
    have hP : va_P G vwCl (alR a0 y xm xN (n1, va_up f1 xN.toNat (some q)) e1) H := hP
    have hD : va_D A (alR a0 y xm xN (n1, va_up f1 xN.toNat (some q)) e1) := hD
    refine lv_aload_n hx hb dJx4a65c_add_72be8_15 rfl (lv_at hl 1 rfl) ?_
    refine lv_iload_n hx hb dJx4a65c_add_72be8_16 rfl (lv_at hl 3 rfl) ?_
    refine hz_iconst hx hb dJx4a65c_add_72be8_17 ?_
    refine hz_iadd hx hb dJx4a65c_add_72be8_18 ?_
    refine va_put (D := G) (ci := 0) (v := zi (xN + 1)) (ty := .int) (C := RJx4a65c) (T := TJx4a65c) (N := 3) hx hb hts hinws tyJx4a65c tyJx4a65c_ok nmJx4a65c hown hK hP hD hS 0 rfl rfl 2 (by decide) (hts (.fieldLink RJx4a65c 48 "java/util/ArrayList" "size" "I") (List.mem_of_getElem? (i := 1) rfl)) (fun _ h9 => h9) rfl (by decide +kernel) rfl rfl (Nat.le_of_ble_eq_true rfl) dJx4a65c_add_72be8_19 (fun H locs hP hD hS => ?_)
    have had : adF xN q fo (n1, va_up f1 xN.toNat (some q), e1) := ⟨hn1, by show (if xN.toNat = xN.toNat then some q else f1 xN.toNat) = some q; rw [if_pos rfl], fun i hi => by show (if i = xN.toNat then some q else f1 i) = fo i; rw [if_neg (by omega)]; exact hf1 i hi⟩
    exact hz_upM (mc1 := cells) (ms1 := slots) hc1 hs1 (W.vret hx hb hr (fun t ht hW => ⟨⟨(n1, va_up f1 xN.toNat (some q), e1), rfl, had, hz_at2 (w := alR a0 y xm (xN + 1) (n1, va_up f1 xN.toNat (some q)) e1) hP hD ht⟩, hS.F ht⟩) hS.2.2 dJx4a65c_add_72be8_22)
  have L6 : ((b = true ∧ xN = cap ∧ cap ≤ 12) ∨ (b = false ∧ e0 = zE ∧ xN = 0)) → W p l e (headSpec wsJx4a65c_add_72be8 ({ frames := 5, cells := 1, slots := 20, locals := 111 })).room s m ([.ref a0, .ref q, .ref e0, zi xN] : List Value).toArray below meth c s.heap [] 0 0 (MQ below (Q_add3 G y a0 q xm xN fo A) ([.ref a0, .ref q, .ref e0, zi xN] : List Value).toArray s 1 20 A) (F0 m 6 ls []) := by
    intro hb1
    refine lv_aload_n hx hb dJx4a65c_add_72be8_6 rfl (lv_at hl 0 rfl) ?_
    refine hz_aftR (w1 := fun u a => alR a0 y xm xN u a) (φ := fun u _ => grF xN fo u) (va_runV (As := []) (rest := []) ⟨hx, hb, hml, hown, hts⟩ (c_grow0 l G mi zE y _ a0 e0 cap b xm xN fo hb1) (cwV 0 hts gJx4a65c_add_72be8_Jx4a65c_grow_d5877 rfl rfl rfl (by decide +kernel) ⟨Nat.le_of_ble_eq_true rfl, Nat.le_of_ble_eq_true rfl⟩) ⟨hz_blindY, va_recv hK hP (ci := 0) (q0 := 0) rfl rfl, hz_preXW hP hK hD hS hA hGP hX (fun x h => hL x (Or.inr h))⟩ rfl rfl hl.1 rfl (lv_room (Nat.le_of_ble_eq_true rfl)) dJx4a65c_add_72be8_7 ⟨Nat.le_of_ble_eq_true rfl, Nat.le_of_ble_eq_true rfl⟩) hD hS hA (fun u a H locs hg hP hD hS => ?_)
    obtain ⟨n1, f1⟩ := u
    refine lv_astore_n (lv' := [(2, .ref a), (0, .ref a0), (1, .ref q), (3, zi xN)]) hx hb dJx4a65c_add_72be8_10 rfl hl (by decide) rfl (fun ls hl => ?_)
    exact L11 a n1 f1 H locs _ _ ⟨hg.1, Nat.le_trans hg.2.1 (Nat.le_of_ble_eq_true rfl)⟩ hg.2.2 (Nat.le_of_ble_eq_true rfl) (Nat.le_of_ble_eq_true rfl) hP hD hS ls hl
  refine lv_iload_n hx hb dJx4a65c_add_72be8_0 rfl (lv_at hl 3 rfl) ?_
  refine lv_aload_n hx hb dJx4a65c_add_72be8_1 rfl (lv_at hl 2 rfl) ?_
  rcases hb0 with ⟨rfl, h1, h2, h3⟩ | ⟨rfl, rfl, rfl⟩
  · refine va_alen (v := zI (cap : Int)) hx hb hK hP 1 3 rfl rfl (hz_ofN cap) dJx4a65c_add_72be8_2 ?_
    refine hz_icmp_ne (tgt := 11) hx hb dJx4a65c_add_72be8_3 (by decide) (by omega) (fun c1 => ?_) (fun c1 => L6 (Or.inl ⟨rfl, c1, by omega⟩))
    exact L11 e0 cap fo _ _ _ _ (by omega) (fun _ _ => rfl) (Nat.le_of_ble_eq_true rfl) (Nat.le_of_ble_eq_true rfl) hP hD hS ls (lv_sub hl [2, 0, 1, 3] rfl)
  · refine va_tlen (v := zI 0) hx hb hGP.2.2.2.2.1.2 hS (by decide) dJx4a65c_add_72be8_2 ?_
    refine hz_icmp_ne (tgt := 11) hx hb dJx4a65c_add_72be8_3 (by decide) (by omega) (fun q => absurd rfl q) (fun _ => L6 (Or.inr ⟨rfl, rfl, rfl⟩))
abbrev Q_add1 (G : va_G) (y : Nat → ClassId) (a0 q : Nat) (xm : Int32) (xN : Int) (fo : Nat → Option Nat) (A : Nat → Prop) : Array Value → State → Outcome → State → Prop := va_Qi (fun (r : Int32) (u : Nat × (Nat → Option Nat) × Nat) => r = zI 1 ∧ adF xN q fo u) (fun u t => va_P G vwCl (alR a0 y (xm + zI 1) (xN + 1) (u.1, u.2.1) u.2.2) t.heap ∧ va_D A (alR a0 y (xm + zI 1) (xN + 1) (u.1, u.2.1) u.2.2)) A
set_option maxHeartbeats 4000000 in
set_option maxRecDepth 100000 in
theorem c_add1 (l : Launch) (G : va_G) (mi zE : Nat) (y : Nat → ClassId) (sz : Nat) (a0 e0 cap q : Nat) (b : Bool) (xm : Int32) (xN : Int) (fo : Nat → Option Nat) (hb0 : (b = true ∧ (0 ≤ xN ∧ xN ≤ 12) ∧ xN ≤ (cap : Int) ∧ cap ≤ 1000) ∨ (b = false ∧ e0 = zE ∧ xN = 0)) : Met l yJx4a65c_add_9ea2d wsJx4a65c_add_9ea2d ({ frames := 6, cells := 1, slots := 20, locals := 134 }) (va_Pc [.ref a0, .ref q] (HPreX mi zE G (tyL y) (alW a0 e0 cap b y xm xN fo) sz (fun x => x = q ∨ ∃ i : Nat, (i : Int) < xN ∧ fo i = some x))) (Q_add1 G y a0 q xm xN fo (va_A (alW a0 e0 cap b y xm xN fo) sz)) 1 20 (va_A (alW a0 e0 cap b y xm xN fo) sz) := by
  refine hz_ofWY (Qf := Q_add1 G y a0 q xm xN fo) (cc := cJx4a65c_add_9ea2d) (maxL := 2) (ret := some .boolean) (by decide) rfl (Nat.le_of_ble_eq_true rfl) ?_
  intro p e s m below meth c A ls hx hb hr hts hown _ hlocks hml hP hK hA hD hS hGP hX hL hl
  have hown : s.vm.findClass RJx4a65c = some m.cls := hown
  have hl : lv_has ls 2 [(0, .ref a0), (1, .ref q)] := hl
  have hinws : ∀ w ∈ wsJx4a65c0, w ∈ wsJx4a65c_add_9ea2d := fun _ h => List.mem_cons_of_mem _ (List.mem_append_right _ (h))
  refine lv_aload_n hx hb dJx4a65c_add_9ea2d_0 rfl (lv_at hl 0 rfl) ?_
  refine lv_dup hx hb dJx4a65c_add_9ea2d_1 rfl ?_
  refine va_get (D := G) (ci := 0) (v := .int xm) (C := RJx4a65c) (T := TJx4a65c) (N := 3) hx hb hts hinws hown hK hP 0 rfl rfl 0 (by decide) (hts (.fieldLink RJx4a65c 63 "java/util/ArrayList" "modCount" "I") (List.mem_of_getElem? (i := 1) rfl)) (fun x9 h9 => u_same (hts (.sameField "java/util/ArrayList" "java/util/AbstractList" "modCount" "I") (List.mem_of_getElem? (i := 2) rfl)) x9 h9) rfl dJx4a65c_add_9ea2d_2 ?_
  refine hz_iconst hx hb dJx4a65c_add_9ea2d_5 ?_
  refine lv_iadd hx hb dJx4a65c_add_9ea2d_6 ?_
  refine va_put (D := G) (ci := 0) (v := .int (xm + zI 1)) (ty := .int) (C := RJx4a65c) (T := TJx4a65c) (N := 3) hx hb hts hinws tyJx4a65c tyJx4a65c_ok nmJx4a65c hown hK hP hD hS 0 rfl rfl 0 (by decide) (hts (.fieldLink RJx4a65c 63 "java/util/ArrayList" "modCount" "I") (List.mem_of_getElem? (i := 1) rfl)) (fun x9 h9 => u_same (hts (.sameField "java/util/ArrayList" "java/util/AbstractList" "modCount" "I") (List.mem_of_getElem? (i := 2) rfl)) x9 h9) rfl (by decide +kernel) rfl rfl (Nat.le_of_ble_eq_true rfl) dJx4a65c_add_9ea2d_7 (fun H locs hP hD hS => ?_)
  have hP : va_P G vwCl (alW a0 e0 cap b y (xm + zI 1) xN fo) H := hP
  have hD : va_D A (alW a0 e0 cap b y (xm + zI 1) xN fo) := hD
  refine lv_aload_n hx hb dJx4a65c_add_9ea2d_10 rfl (lv_at hl 0 rfl) ?_
  refine lv_aload_n hx hb dJx4a65c_add_9ea2d_11 rfl (lv_at hl 1 rfl) ?_
  refine lv_aload_n hx hb dJx4a65c_add_9ea2d_12 rfl (lv_at hl 0 rfl) ?_
  refine va_get (D := G) (ci := 0) (v := .ref e0) (C := RJx4a65c) (T := TJx4a65c) (N := 3) hx hb hts hinws hown hK hP 0 rfl rfl 1 (by decide) (hts (.fieldLink RJx4a65c 9 "java/util/ArrayList" "elementData" "[Ljava/lang/Object;") (List.mem_of_getElem? (i := 3) rfl)) (fun _ h9 => h9) rfl dJx4a65c_add_9ea2d_13 ?_
  refine lv_aload_n hx hb dJx4a65c_add_9ea2d_16 rfl (lv_at hl 0 rfl) ?_
  refine va_get (D := G) (ci := 0) (v := zi xN) (C := RJx4a65c) (T := TJx4a65c) (N := 3) hx hb hts hinws hown hK hP 0 rfl rfl 2 (by decide) (hts (.fieldLink RJx4a65c 48 "java/util/ArrayList" "size" "I") (List.mem_of_getElem? (i := 4) rfl)) (fun _ h9 => h9) rfl dJx4a65c_add_9ea2d_17 ?_
  refine hz_aftAW (w1 := fun u : Nat × (Nat → Option Nat) × Nat => alR a0 y (xm + zI 1) (xN + 1) (u.1, u.2.1) u.2.2) (φ := adF xN q fo) (va_runV (As := [.ref q, .ref e0, zi xN]) (rest := []) ⟨hx, hb, hml, hown, hts⟩ (c_add3 l G mi zE y _ a0 e0 cap q b (xm + zI 1) xN fo hb0) (cwV 3 hts gJx4a65c_add_9ea2d_Jx4a65c_add_72be8 rfl rfl rfl (by decide +kernel) ⟨Nat.le_of_ble_eq_true rfl, Nat.le_of_ble_eq_true rfl⟩) ⟨hz_blindY, va_recv hK hP (ci := 0) (q0 := 0) rfl rfl, hz_preXW hP hK hD hS hA hGP hX hL⟩ rfl rfl hl.1 rfl (lv_room (Nat.le_of_ble_eq_true rfl)) dJx4a65c_add_9ea2d_20 ⟨Nat.le_of_ble_eq_true rfl, Nat.le_of_ble_eq_true rfl⟩) hD hS hA (fun u H locs hg hP hD hS => ?_)
  refine hz_iconst hx hb dJx4a65c_add_9ea2d_23 ?_
  exact W.zret (ty := .boolean) (v := zI 1) hx hb hr (zI_nb (by omega)) (fun t ht hW => ⟨⟨zI 1, u, rfl, ⟨rfl, hg⟩, hz_at2 hP hD ht⟩, hS.F ht⟩) hS.2.2 dJx4a65c_add_9ea2d_24
