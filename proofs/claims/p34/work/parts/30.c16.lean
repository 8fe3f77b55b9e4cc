/-! making objects: worlds that grow -/
theorem hz_Dl {A : Nat → Prop} {ws : va_W} : va_D A ws ↔ (ws.map Prod.fst).Nodup ∧ ∀ q ∈ ws, A q.1 := by
  constructor
  · rintro ⟨h1, h2⟩
    refine ⟨List.pairwise_iff_getElem.mpr (fun i j hi hj hij e => ?_), fun q hq => ?_⟩
    · have hj2 : j < ws.length := by simpa using hj
      have hi2 : i < ws.length := Nat.lt_trans hij hj2
      rw [List.getElem_map, List.getElem_map] at e
      have := h1 i j _ _ (List.getElem?_eq_getElem hi2) (List.getElem?_eq_getElem hj2) e
      omega
    · obtain ⟨i, hi⟩ := List.getElem?_of_mem hq
      exact h2 i q hi
  · rintro ⟨h1, h2⟩
    refine ⟨fun i j p q hi hj e => ?_, fun k q hk => h2 q (List.mem_of_getElem? hk)⟩
    have ei : (ws.map Prod.fst)[i]? = some p.1 := by rw [List.getElem?_map, hi]; rfl
    have ej : (ws.map Prod.fst)[j]? = some q.1 := by rw [List.getElem?_map, hj]; rfl
    exact (List.getElem?_inj (List.getElem?_eq_some_iff.mp ei).1 h1).mp (by rw [ei, ej, e])
theorem hz_Pm {D : va_G} {cl : List vw_C} {ws ws' : va_W} {H : Heap} (h : ∀ q ∈ ws', q ∈ ws) (hP : va_P D cl ws H) : va_P D cl ws' H := fun k q hk => by
  obtain ⟨i, hi⟩ := List.getElem?_of_mem (h q (List.mem_of_getElem? hk))
  exact hP i q hi
theorem hz_Pp {D : va_G} {cl : List vw_C} {ws ws' : va_W} {H : Heap} (h : ws.Perm ws') (hP : va_P D cl ws H) : va_P D cl ws' H := hz_Pm (fun _ hq => h.mem_iff.mpr hq) hP
theorem hz_Dp {A : Nat → Prop} {ws ws' : va_W} (h : ws.Perm ws') (hD : va_D A ws) : va_D A ws' := by
  rw [hz_Dl] at hD ⊢
  exact ⟨(h.map Prod.fst).nodup_iff.mp hD.1, fun q hq => hD.2 q (h.mem_iff.mpr hq)⟩
theorem hz_RAu {U : State} {c c' : ClassId} {ty : FieldType} (h : va_RA U c ty) (h' : va_RA U c' ty) : c = c' := by
  cases ty with
  | object C =>
    obtain ⟨_, _, _, _, _, h4⟩ := h
    obtain ⟨_, _, _, _, _, h5⟩ := h'
    exact Option.some.inj (h4.symm.trans h5)
  | _ => exact Option.some.inj (Eq.trans (Eq.symm h) h')
theorem hz_Ku {D : va_G} {cl : List vw_C} {tys : List (ClassId × FieldType)} {U : State} {c c' : ClassId} {ty : FieldType} {t0 : Nat} (h : va_K D cl (tys ++ [(c, ty)]) U) (ht : tys[t0]? = some (c', ty)) : c = c' := by
  have lt : t0 < tys.length := (List.getElem?_eq_some_iff.mp ht).1
  exact hz_RAu (h.2 tys.length (c, ty) (by rw [List.getElem?_append_right (Nat.le_refl _), Nat.sub_self]; rfl)).2 (h.2 t0 (c', ty) (by rw [List.getElem?_append_left lt]; exact ht)).2
abbrev QAv {S : Type} (D : va_G) (φ : S → Prop) (w1 : S → va_W) (A : Nat → Prop) : Array Value → State → Outcome → State → Prop := va_Qv φ (fun u t => va_P D vwCl (w1 u) t.heap ∧ va_D A (w1 u)) A
theorem hz_at2 {D : va_G} {w : va_W} {H : Heap} {t : State} {A : Nat → Prop} (hP : va_P D vwCl w H) (hD : va_D A w) (ht : t.heap = H) : va_P D vwCl w t.heap ∧ va_D A w := ⟨by rw [ht]; exact hP, hD⟩
section HN1
variable {p : Program} {l : Launch} {e : Env} {R : Room} {s : State} {m : MethodId} {args : Array Value} {below : List Frame} {meth : Method} {c : Code} {H H0 : Heap} {locs : List Loc} {cells slots : Nat} {Q : State → Prop} {cc bytes : ByteArray} {pc nL maxL index n : Nat} {ls : Array Slot} {rest st0 As : List Value} {D : va_G} {A : Nat → Prop} {b zE : Nat} {tys tys' : List (ClassId × FieldType)} {ws wc wr : va_W} {Ts wz : List Cond} {own C : String} {y : MethodName} {ret : Option FieldType} {rm : Room} {cq : vw_C} {fs : List Value}
variable {Qc : Array Value → State → Outcome → State → Prop} {a av : Array Value} {mc ms mc1 ms1 : Nat} {free : Addr → Prop}
theorem hz_upM {g : JFrame} (h1 : mc1 ≤ mc) (h2 : ms1 ≤ ms) (k : W p l e R s m args below meth c H locs cells slots (MQ below Qc args s mc1 ms1 free) g) : W p l e R s m args below meth c H locs cells slots (MQ below Qc args s mc ms free) g := by
  intro T hT X
  obtain ⟨t, a1, o, b1, b2, b3, L, ⟨e1, e2, e3⟩, b4⟩ := k T hT X
  exact ⟨t, a1, o, b1, b2, b3, L, ⟨e1, e2, e3.mono h1 h2⟩, b4⟩
theorem hz_newa (hx : p.tables.exec = Jvm.exec) (hb : c.code = cc) {atype : ArrayType} (harr : (Cond.arrayClass (newarray.typeOf atype)).before args s = true) {ty : FieldType} (hty : newarray.typeOf atype = ty) (hK : va_K D vwCl tys s) (hP : va_P D vwCl ws H) (hD : va_D A ws) (hS : va_S A H0 H locs) (hA : ∀ q, H0.size ≤ q → A q)
    (t0 : Nat) {cA : ClassId} (ht : tys[t0]? = some (cA, ty)) {n : Int} (N' : Nat) {a0 : vp_A} (ha : ∀ cA : ClassId, vp_cell cA a0 = arrV cA N' (fun _ => defaultValue ty)) (hn : 0 ≤ n ∧ n < 2147483648) (hN : n.toNat = N') (hbytes : N' * componentBytes ty ≤ 536870912) (hcells : cells + 1 ≤ R.cells) (hslots : slots + N' ≤ R.slots) (hdg : decode cc pc = .ok (.newarray atype, 2))
    (kk : ∀ (q : Nat) (H1 : Heap), va_P D vwCl (ws ++ [(q, .inl (cA, a0))]) H1 → va_D A (ws ++ [(q, .inl (cA, a0))]) → va_S A H0 H1 locs →
      W p l e R s m args below meth c H1 locs (cells + 1) (slots + N') Q (F0 m (pc + 2) ls (.ref q :: rest))) : W p l e R s m args below meth c H locs cells slots Q (F0 m pc ls (zi n :: rest)) := by
  have e1 : (zI n).toNatClampNeg = N' := by
    have := zI_cl (i := n) (by omega)
    omega
  have e2 : ¬ zI n < 0 := fun h => by
    have := (zI_in (n := 2147483648) (i := n) (by omega) (by omega))
    exact this (Or.inl h)
  refine va_newa hx hb harr hty hK hP hD hS hA ha e2 e1 hbytes hcells hslots hdg (fun q cA' H1 hK1 hP1 hD1 hS1 => ?_)
  have := hz_Ku hK1 ht
  subst this
  exact kk q H1 hP1 hD1 hS1
theorem hz_newq (hx : p.tables.exec = Jvm.exec) (hb : c.code = cc) {own C : String} {index : Nat} (hown : s.vm.findClass own = some m.cls) (hclink : (Cond.classLink own index C).before args s = true) (hover : va_AO C s) (hK : va_K D vwCl tys s) (hP : va_P D vwCl ws H) (hD : va_D A ws) (hS : va_S A H0 H locs) (hA : ∀ q, H0.size ≤ q → A q)
    (t0 : Nat) {cA : ClassId} (ht : tys[t0]? = some (cA, .object C)) {n : Int} (hn : 0 ≤ n ∧ n ≤ 1000) (hcells : cells + 1 ≤ R.cells) (hslots : slots + n.toNat ≤ R.slots) (hdg : decode cc pc = .ok (.anewarray index, 3))
    (kk : ∀ (q : Nat) (H1 : Heap), va_P D vwCl (ws ++ [(q, .inl (cA, n.toNat, .inr (.inr (.inr (.inr (fun _ => none))))))]) H1 → va_D A (ws ++ [(q, .inl (cA, n.toNat, .inr (.inr (.inr (.inr (fun _ => none))))))]) → va_S A H0 H1 locs →
      W p l e R s m args below meth c H1 locs (cells + 1) (slots + n.toNat) Q (F0 m (pc + 3) ls (.ref q :: rest))) : W p l e R s m args below meth c H locs cells slots Q (F0 m pc ls (zi n :: rest)) := by
  have e1 : (zI n).toNatClampNeg = n.toNat := by
    have := zI_cl (i := n) (by omega)
    omega
  have e2 : ¬ zI n < 0 := fun h => by
    have := (zI_in (n := 2147483648) (i := n) (by omega) (by omega))
    exact this (Or.inl h)
  refine va_newq hx hb hown hclink hover hK hP hD hS hA e2 e1 (by omega) hcells hslots hdg (fun q cA' H1 hK1 hP1 hD1 hS1 => ?_)
  have := hz_Ku hK1 ht
  subst this
  exact kk q H1 hP1 hD1 hS1
theorem hz_preSG {av : List Value} (hP : va_P D vwCl ws H) (hK : va_K D vwCl tys s) (hD : va_D A ws) (hS : va_S A s.heap H locs) (hA : ∀ q, s.heap.size ≤ q → A q) (hG : GP zE A s s.heap) (is ts : List Nat) (hC : is.map (fun i => ws[i]?) = wc.map some) (hn : va_nd is = true) (hT : ts.filterMap (fun i => tys[i]?) = tys') : ∀ U : State, U.heap = H → s.WarmedH U.vm → va_Pc av (HPreG zE D tys' wc H.size) av.toArray U := fun U hU hW => ⟨rfl, (hz_pre (av := av) hP hK hD is ts hC hn hT U hU hW).2, hG.call hS (va_free hD hS hA is hC) hU hW⟩
/-- behind a call that makes nothing: its world inside ours -/
theorem hz_aftV {S : Type} {φ : S → Prop} {w1 : S → va_W} (hr : va_Run p l e R s m args below meth c H locs cells slots 0 0 (F0 m pc ls st0) rest (va_Qv φ (fun u t => va_P D vwCl (w1 u) t.heap) (va_A wc H.size) av) (va_A wc H.size))
    (hP : va_P D vwCl ws H) (hD : va_D A ws) (hS : va_S A H0 H locs) (hA : ∀ q, H0.size ≤ q → A q) (is : List Nat) (hC : is.map (fun i => ws[i]?) = wc.map some) (hn : va_nd is = true) (he : ∀ u, (w1 u).map Prod.fst = wc.map Prod.fst)
    (kk : ∀ (u : S) (H1 : Heap) (locs1 : List Loc), φ u → va_P D vwCl (setL ws is (w1 u)) H1 → va_D A (setL ws is (w1 u)) → va_S A H0 H1 locs1 → W p l e R s m args below meth c H1 locs1 cells slots Q (F0 m (pc + 3) ls rest)) : W p l e R s m args below meth c H locs cells slots Q (F0 m pc ls st0) := by
  have hF := va_free hD hS hA is hC
  refine va_callv hr hS (fun q _ h => hF q h) hF (fun u t H1 locs1 ht hvm hw hB hz1 hk1 hS1 => ?_)
  rw [ht] at hB
  have h9 := hz_frame hP hD is hC hn hk1 hB (he u)
  exact kk u H1 locs1 hw h9.1 h9.2 hS1
/-- behind a call that makes cells -/
theorem hz_aftA {S : Type} {φ : S → Prop} {w1 : S → va_W} (hr : va_Run p l e R s m args below meth c H locs cells slots mc ms (F0 m pc ls st0) rest (QAv D φ w1 (va_A wc H.size) av) (va_A wc H.size))
    (hP : va_P D vwCl ws H) (hD : va_D A ws) (hS : va_S A H0 H locs) (hA : ∀ q, H0.size ≤ q → A q) (isC isR : List Nat) (hC : isC.map (fun i => ws[i]?) = wc.map some) (hR : isR.map (fun i => ws[i]?) = wr.map some) (hn : va_nd isR = true) (hdis : ∀ i ∈ isR, i ∉ isC)
    (kk : ∀ (u : S) (H1 : Heap) (locs1 : List Loc), φ u → va_P D vwCl (wr ++ w1 u) H1 → va_D A (wr ++ w1 u) → va_S A H0 H1 locs1 → W p l e R s m args below meth c H1 locs1 (cells + mc) (slots + ms) Q (F0 m (pc + 3) ls rest)) : W p l e R s m args below meth c H locs cells slots Q (F0 m pc ls st0) := by
  have hF := va_free hD hS hA isC hC
  refine va_callv hr hS (fun q _ h => hF q h) hF (fun u t H1 locs1 ht hvm hw hB hz1 hk1 hS1 => ?_)
  rw [ht] at hB
  obtain ⟨hP1, hD1⟩ := va_join hP hD isC isR hC hR hn hdis hk1 hF hB.1 hB.2
  exact kk u H1 locs1 hw hP1 hD1 hS1
end HN1
theorem dvJx4a65c : ∀ j, j < 3 → defaultValue (tyJx4a65c j) = vp_V [zi 0, .null, zi 0] j := fun j hj => by
  rcases (show j = 0 ∨ j = 1 ∨ j = 2 by omega) with rfl | rfl | rfl <;> rfl
theorem dvX0 : ∀ j, j < 7 → defaultValue (tyX0 j) = vp_V [.null, .null, .null, .null, .null, zi 0, zi 0] j := fun j hj => by
  rcases (show j = 0 ∨ j = 1 ∨ j = 2 ∨ j = 3 ∨ j = 4 ∨ j = 5 ∨ j = 6 by omega) with rfl | rfl | rfl | rfl | rfl | rfl | rfl <;> rfl
theorem dvX1 : ∀ j, j < 6 → defaultValue (tyX1 j) = vp_V [zi 0, zi 0, zi 0, zi 0, zi 0, zi 0] j := fun j hj => by
  rcases (show j = 0 ∨ j = 1 ∨ j = 2 ∨ j = 3 ∨ j = 4 ∨ j = 5 by omega) with rfl | rfl | rfl | rfl | rfl | rfl <;> rfl
theorem dvX2 : ∀ j, j < 5 → defaultValue (tyX2 j) = vp_V [.null, .null, .null, zi 0, zi 0] j := fun j hj => by
  rcases (show j = 0 ∨ j = 1 ∨ j = 2 ∨ j = 3 ∨ j = 4 by omega) with rfl | rfl | rfl | rfl | rfl <;> rfl
theorem dvX3 : ∀ j, j < 2 → defaultValue (tyX3 j) = vp_V [.null, zi 0] j := fun j hj => by
  rcases (show j = 0 ∨ j = 1 by omega) with rfl | rfl <;> rfl
theorem dvX4 : ∀ j, j < 8 → defaultValue (tyX4 j) = vp_V [zi 0, zi 0, zi 0, zi 0, zi 0, zi 0, zi 0, zi 0] j := fun j hj => by
  rcases (show j = 0 ∨ j = 1 ∨ j = 2 ∨ j = 3 ∨ j = 4 ∨ j = 5 ∨ j = 6 ∨ j = 7 by omega) with rfl | rfl | rfl | rfl | rfl | rfl | rfl | rfl <;> rfl
theorem dvX5 : ∀ j, j < 4 → defaultValue (tyX5 j) = vp_V [zi 0, zi 0, zi 0, zi 0] j := fun j hj => by
  rcases (show j = 0 ∨ j = 1 ∨ j = 2 ∨ j = 3 by omega) with rfl | rfl | rfl | rfl <;> rfl
theorem dvX6 : ∀ j, j < 3 → defaultValue (tyX6 j) = vp_V [zi 0, zi 0, zi 0] j := fun j hj => by
  rcases (show j = 0 ∨ j = 1 ∨ j = 2 by omega) with rfl | rfl | rfl <;> rfl
theorem dvX7 : ∀ j, j < 14 → defaultValue (tyX7 j) = vp_V [.null, .null, .null, .null, .null, zi 0, zi 0, zi 0, .null, .null, zi 0, .null, .null, .null] j := fun j hj => by
  rcases (show j = 0 ∨ j = 1 ∨ j = 2 ∨ j = 3 ∨ j = 4 ∨ j = 5 ∨ j = 6 ∨ j = 7 ∨ j = 8 ∨ j = 9 ∨ j = 10 ∨ j = 11 ∨ j = 12 ∨ j = 13 by omega) with rfl | rfl | rfl | rfl | rfl | rfl | rfl | rfl | rfl | rfl | rfl | rfl | rfl | rfl <;> rfl
abbrev Q_Jxa1e45_init_da8c8 (G : va_G) (zE : Nat) (y : Nat → ClassId) (a0 : Nat) (v1 : Value) (v2 : Value) (v3 : Value) (A : Nat → Prop) : Array Value → State → Outcome → State → Prop := QAv G (fun (_ : Unit) => True) (fun u => [(a0, .inr (0, [v1, v2, v3]))]) A
set_option maxHeartbeats 4000000 in
set_option maxRecDepth 100000 in
theorem c_Jxa1e45_init_da8c8 (l : Launch) (G : va_G) (zE : Nat) (y : Nat → ClassId) (sz : Nat) (a0 : Nat) (v1 : Value) (v2 : Value) (v3 : Value)  : Met l yJxa1e45_init_da8c8 wsJxa1e45_init_da8c8 ({ frames := 1, cells := 0, slots := 0, locals := 12 }) (va_Pc [.ref a0] (HPreG zE G (tyL y) [(a0, .inr (0, [v1, v2, v3]))] sz)) (Q_Jxa1e45_init_da8c8 G zE y a0 v1 v2 v3 (va_A [(a0, .inr (0, [v1, v2, v3]))] sz)) 0 0 (va_A [(a0, .inr (0, [v1, v2, v3]))] sz) := by
  refine hz_ofWG (Qf := Q_Jxa1e45_init_da8c8 G zE y a0 v1 v2 v3) (cc := cJxa1e45_init_da8c8) (maxL := 1) (ret := none) (by decide) rfl (Nat.le_of_ble_eq_true rfl) ?_
  intro p e s m below meth c A ls hx hb hr hts hown hin hlocks hml hP hK hA hD hS hGP hl
  have hown : s.vm.findClass RJxa1e45 = some m.cls := hown
  have hl : lv_has ls 1 [(0, .ref a0)] := hl
  refine lv_aload_n hx hb dJxa1e45_init_da8c8_0 rfl (lv_at hl 0 rfl) ?_
  refine W.objInit hx hb hown (hts (.methodLink RJxa1e45 1 objectInit) (List.mem_of_getElem? (i := 1) rfl)) (hts (.instanceMethod objectInit) (List.mem_of_getElem? (i := 2) rfl)) (hts _ (List.mem_of_getElem? (i := 3) rfl)) rfl (hl.1.trans hml.symm) rfl dJxa1e45_init_da8c8_1 (Nat.le_of_ble_eq_true rfl) (Nat.le_of_ble_eq_true rfl) ?_
  have hP9 : va_P G vwCl [(a0, .inr (0, [v1, v2, v3]))] s.heap := hP.sub [0] rfl
  have hD9 : va_D A [(a0, .inr (0, [v1, v2, v3]))] := hD.sub [0] (by decide) rfl
  exact hz_upM (Nat.le_of_ble_eq_true rfl) (Nat.le_of_ble_eq_true rfl) (W.vret hx hb hr (fun t ht hW => ⟨⟨(), rfl, trivial, hz_at2 hP9 hD9 ht⟩, hS.F ht⟩) hS.2.2 dJxa1e45_init_da8c8_4)
abbrev Q_Jxc12de_init_da8c8 (G : va_G) (zE : Nat) (y : Nat → ClassId) (a0 : Nat) (v1 : Value) (v2 : Value) (v3 : Value) (A : Nat → Prop) : Array Value → State → Outcome → State → Prop := QAv G (fun (_ : Unit) => True) (fun u => [(a0, .inr (0, [zi 0, v2, v3]))]) A
set_option maxHeartbeats 4000000 in
set_option maxRecDepth 100000 in
theorem c_Jxc12de_init_da8c8 (l : Launch) (G : va_G) (zE : Nat) (y : Nat → ClassId) (sz : Nat) (a0 : Nat) (v1 : Value) (v2 : Value) (v3 : Value)  : Met l yJxc12de_init_da8c8 wsJxc12de_init_da8c8 ({ frames := 2, cells := 0, slots := 0, locals := 32 }) (va_Pc [.ref a0] (HPreG zE G (tyL y) [(a0, .inr (0, [v1, v2, v3]))] sz)) (Q_Jxc12de_init_da8c8 G zE y a0 v1 v2 v3 (va_A [(a0, .inr (0, [v1, v2, v3]))] sz)) 0 0 (va_A [(a0, .inr (0, [v1, v2, v3]))] sz) := by
  refine hz_ofWG (Qf := Q_Jxc12de_init_da8c8 G zE y a0 v1 v2 v3) (cc := cJxc12de_init_da8c8) (maxL := 1) (ret := none) (by decide) rfl (Nat.le_of_ble_eq_true rfl) ?_
  intro p e s m below meth c A ls hx hb hr hts hown hin hlocks hml hP hK hA hD hS hGP hl
  have hown : s.vm.findClass RJxc12de = some m.cls := hown
  have hl : lv_has ls 1 [(0, .ref a0)] := hl
  have hinwsJx4a65c0 : ∀ w ∈ wsJx4a65c0, w ∈ wsJxc12de_init_da8c8 := fun _ h => List.mem_cons_of_mem _ (List.mem_append_right _ (h))
  refine lv_aload_n hx hb dJxc12de_init_da8c8_0 rfl (lv_at hl 0 rfl) ?_
  refine hz_aftA (wc := [(a0, .inr (0, [v1, v2, v3]))]) (wr := []) (va_runI (As := []) (rest := []) ⟨hx, hb, hml, hown, hts⟩ (c_Jxa1e45_init_da8c8 l G zE y _ a0 v1 v2 v3) (cwI 0 hts gJxc12de_init_da8c8_Jxa1e45_init_da8c8 rfl rfl rfl (hts (.initialized RJxa1e45) (List.mem_of_getElem? (i := 4) rfl)) (hts (.methodLink RJxc12de 1 yJxa1e45_init_da8c8) (List.mem_of_getElem? (i := 2) rfl)) (hts (.instanceMethod yJxa1e45_init_da8c8) (List.mem_of_getElem? (i := 3) rfl)) rfl (by decide +kernel) ⟨Nat.le_of_ble_eq_true rfl, Nat.le_of_ble_eq_true rfl⟩) ⟨hz_blindG, hz_preSG hP hK hD hS hA hGP [0] [0, 1, 2, 3] rfl rfl rfl⟩ rfl rfl hl.1 rfl (lv_room (Nat.le_of_ble_eq_true rfl)) dJxc12de_init_da8c8_1 ⟨Nat.le_of_ble_eq_true rfl, Nat.le_of_ble_eq_true rfl⟩) hP hD hS hA [0] [] rfl rfl (by decide) (by decide) (fun u H locs hw hP hD hS => ?_)
  have hP : va_P G vwCl [(a0, .inr (0, [v1, v2, v3]))] H := hP
  have hD : va_D A [(a0, .inr (0, [v1, v2, v3]))] := hD
  refine lv_aload_n hx hb dJxc12de_init_da8c8_4 rfl (lv_at hl 0 rfl) ?_
  refine hz_iconst hx hb dJxc12de_init_da8c8_5 ?_
  refine va_put (D := G) (ci := 0) (v := zi 0) (ty := .int) (C := RJx4a65c) (T := TJx4a65c) (N := 3) hx hb hts hinwsJx4a65c0 tyJx4a65c tyJx4a65c_ok nmJx4a65c hown hK hP hD hS 0 rfl rfl 0 (by decide) (hts (.fieldLink RJxc12de 7 "java/util/AbstractList" "modCount" "I") (List.mem_of_getElem? (i := 1) rfl)) (fun _ h9 => h9) rfl (by decide +kernel) rfl rfl (Nat.le_of_ble_eq_true rfl) dJxc12de_init_da8c8_6 (fun H locs hP hD hS => ?_)
  have hP : va_P G vwCl [(a0, .inr (0, [zi 0, v2, v3]))] H := hP
  have hD : va_D A [(a0, .inr (0, [zi 0, v2, v3]))] := hD
  have hP9 : va_P G vwCl [(a0, .inr (0, [zi 0, v2, v3]))] H := hP.sub [0] rfl
  have hD9 : va_D A [(a0, .inr (0, [zi 0, v2, v3]))] := hD.sub [0] (by decide) rfl
  exact hz_upM (Nat.le_of_ble_eq_true rfl) (Nat.le_of_ble_eq_true rfl) (W.vret hx hb hr (fun t ht hW => ⟨⟨(), rfl, trivial, hz_at2 hP9 hD9 ht⟩, hS.F ht⟩) hS.2.2 dJxc12de_init_da8c8_9)
abbrev Q_Jx4a65c_init_da8c8 (G : va_G) (zE : Nat) (y : Nat → ClassId) (a0 : Nat) (A : Nat → Prop) : Array Value → State → Outcome → State → Prop := QAv G (fun (_ : Unit) => True) (fun u => [(a0, .inr (0, [zi 0, .ref zE, zi 0]))]) A
set_option maxHeartbeats 4000000 in
set_option maxRecDepth 100000 in
theorem c_Jx4a65c_init_da8c8 (l : Launch) (G : va_G) (zE : Nat) (y : Nat → ClassId) (sz : Nat) (a0 : Nat)  : Met l yJx4a65c_init_da8c8 wsJx4a65c_init_da8c8 ({ frames := 3, cells := 0, slots := 0, locals := 52 }) (va_Pc [.ref a0] (HPreG zE G (tyL y) [(a0, .inr (0, [zi 0, .null, zi 0]))] sz)) (Q_Jx4a65c_init_da8c8 G zE y a0 (va_A [(a0, .inr (0, [zi 0, .null, zi 0]))] sz)) 0 0 (va_A [(a0, .inr (0, [zi 0, .null, zi 0]))] sz) := by
  refine hz_ofWG (Qf := Q_Jx4a65c_init_da8c8 G zE y a0) (cc := cJx4a65c_init_da8c8) (maxL := 1) (ret := none) (by decide) rfl (Nat.le_of_ble_eq_true rfl) ?_
  intro p e s m below meth c A ls hx hb hr hts hown hin hlocks hml hP hK hA hD hS hGP hl
  have hown : s.vm.findClass RJx4a65c = some m.cls := hown
  have hl : lv_has ls 1 [(0, .ref a0)] := hl
  have hinwsJx4a65c0 : ∀ w ∈ wsJx4a65c0, w ∈ wsJx4a65c_init_da8c8 := fun _ h => List.mem_cons_of_mem _ (List.mem_append_right _ (h))
  refine lv_aload_n hx hb dJx4a65c_init_da8c8_0 rfl (lv_at hl 0 rfl) ?_
  refine hz_aftA (wc := [(a0, .inr (0, [(zi 0), .null, (zi 0)]))]) (wr := []) (va_runI (As := []) (rest := []) ⟨hx, hb, hml, hown, hts⟩ (c_Jxc12de_init_da8c8 l G zE y _ a0 (zi 0) .null (zi 0)) (cwI 0 hts gJx4a65c_init_da8c8_Jxc12de_init_da8c8 rfl rfl rfl (hts (.initialized RJxc12de) (List.mem_of_getElem? (i := 5) rfl)) (hts (.methodLink RJx4a65c 1 yJxc12de_init_da8c8) (List.mem_of_getElem? (i := 3) rfl)) (hts (.instanceMethod yJxc12de_init_da8c8) (List.mem_of_getElem? (i := 4) rfl)) rfl (by decide +kernel) ⟨Nat.le_of_ble_eq_true rfl, Nat.le_of_ble_eq_true rfl⟩) ⟨hz_blindG, hz_preSG hP hK hD hS hA hGP [0] [0, 1, 2, 3] rfl rfl rfl⟩ rfl rfl hl.1 rfl (lv_room (Nat.le_of_ble_eq_true rfl)) dJx4a65c_init_da8c8_1 ⟨Nat.le_of_ble_eq_true rfl, Nat.le_of_ble_eq_true rfl⟩) hP hD hS hA [0] [] rfl rfl (by decide) (by decide) (fun u H locs hw hP hD hS => ?_)
  have hP : va_P G vwCl [(a0, .inr (0, [zi 0, .null, (zi 0)]))] H := hP
  have hD : va_D A [(a0, .inr (0, [zi 0, .null, (zi 0)]))] := hD
  refine lv_aload_n hx hb dJx4a65c_init_da8c8_4 rfl (lv_at hl 0 rfl) ?_
  refine va_gets (C := "java/util/ArrayList") (n := "DEFAULTCAPACITY_EMPTY_ELEMENTDATA") (d := "[Ljava/lang/Object;") hx hb hGP.2.2.2.2.1.1 hS hown (hts (.fieldLink RJx4a65c 39 "java/util/ArrayList" "DEFAULTCAPACITY_EMPTY_ELEMENTDATA" "[Ljava/lang/Object;") (List.mem_of_getElem? (i := 1) rfl)) (fun _ h9 => h9) dJx4a65c_init_da8c8_5 ?_
  refine va_put (D := G) (ci := 0) (v := .ref zE) (ty := .array (.object "java/lang/Object")) (C := RJx4a65c) (T := TJx4a65c) (N := 3) hx hb hts hinwsJx4a65c0 tyJx4a65c tyJx4a65c_ok nmJx4a65c hown hK hP hD hS 0 rfl rfl 1 (by decide) (hts (.fieldLink RJx4a65c 9 "java/util/ArrayList" "elementData" "[Ljava/lang/Object;") (List.mem_of_getElem? (i := 2) rfl)) (fun _ h9 => h9) rfl (by decide +kernel) rfl rfl (Nat.le_of_ble_eq_true rfl) dJx4a65c_init_da8c8_8 (fun H locs hP hD hS => ?_)
  have hP : va_P G vwCl [(a0, .inr (0, [zi 0, .ref zE, (zi 0)]))] H := hP
  have hD : va_D A [(a0, .inr (0, [zi 0, .ref zE, (zi 0)]))] := hD
  have hP9 : va_P G vwCl [(a0, .inr (0, [zi 0, .ref zE, zi 0]))] H := hP.sub [0] rfl
  have hD9 : va_D A [(a0, .inr (0, [zi 0, .ref zE, zi 0]))] := hD.sub [0] (by decide) rfl
  exact hz_upM (Nat.le_of_ble_eq_true rfl) (Nat.le_of_ble_eq_true rfl) (W.vret hx hb hr (fun t ht hW => ⟨⟨(), rfl, trivial, hz_at2 hP9 hD9 ht⟩, hS.F ht⟩) hS.2.2 dJx4a65c_init_da8c8_11)
abbrev Q_X3_init (G : va_G) (zE : Nat) (y : Nat → ClassId) (l0 : Nat) (A : Nat → Prop) : Array Value → State → Outcome → State → Prop := QAv G (fun (_ : Nat) => True) (fun u => [(l0, .inr (4, [.ref u, zi 0])), (u, .inl (y 0, 6, .inl (IA (fun _ : Int => (0 : Int)))))]) A
set_option maxHeartbeats 4000000 in
set_option maxRecDepth 100000 in
theorem c_X3_init (l : Launch) (G : va_G) (zE : Nat) (y : Nat → ClassId) (sz : Nat) (l0 : Nat)  : Met l yX3_init wsX3_init ({ frames := 1, cells := 1, slots := 6, locals := 12 }) (va_Pc [.ref l0] (HPreG zE G (tyL y) [(l0, .inr (4, [.null, zi 0]))] sz)) (Q_X3_init G zE y l0 (va_A [(l0, .inr (4, [.null, zi 0]))] sz)) 1 6 (va_A [(l0, .inr (4, [.null, zi 0]))] sz) := by
  refine hz_ofWG (Qf := Q_X3_init G zE y l0) (cc := cX3_init) (maxL := 1) (ret := none) (by decide) rfl (Nat.le_of_ble_eq_true rfl) ?_
  intro p e s m below meth c A ls hx hb hr hts hown hin hlocks hml hP hK hA hD hS hGP hl
  have hown : s.vm.findClass RX3 = some m.cls := hown
  have hl : lv_has ls 1 [(0, .ref l0)] := hl
  have hinwsX30 : ∀ w ∈ wsX30, w ∈ wsX3_init := fun _ h => List.mem_cons_of_mem _ (List.mem_append_right _ (h))
  refine lv_aload_n hx hb dX3_init_0 rfl (lv_at hl 0 rfl) ?_
  refine W.objInit hx hb hown (hts (.methodLink RX3 3 objectInit) (List.mem_of_getElem? (i := 1) rfl)) (hts (.instanceMethod objectInit) (List.mem_of_getElem? (i := 2) rfl)) (hts _ (List.mem_of_getElem? (i := 3) rfl)) rfl (hl.1.trans hml.symm) rfl dX3_init_1 (Nat.le_of_ble_eq_true rfl) (Nat.le_of_ble_eq_true rfl) ?_
  refine lv_aload_n hx hb dX3_init_4 rfl (lv_at hl 0 rfl) ?_
  refine hz_bipush hx hb dX3_init_5 (by decide) ?_
  refine hz_newa (atype := .int) (ty := .int) (a0 := (6, .inl (IA (fun _ : Int => (0 : Int))))) hx hb (hts (.arrayClass .int) (List.mem_of_getElem? (i := 4) rfl)) rfl hK hP hD hS hA 0 rfl 6 (fun _ => rfl) (by omega) rfl (Nat.le_of_ble_eq_true rfl) (Nat.le_of_ble_eq_true rfl) (Nat.le_of_ble_eq_true rfl) dX3_init_7 (fun q1 H hP hD hS => ?_)
  have hP : va_P G vwCl [(l0, .inr (4, [.null, zi 0])), (q1, .inl (y 0, 6, .inl (IA (fun _ : Int => (0 : Int)))))] H := hP
  have hD : va_D A [(l0, .inr (4, [.null, zi 0])), (q1, .inl (y 0, 6, .inl (IA (fun _ : Int => (0 : Int)))))] := hD
  refine va_putF (D := G) (ci := 4) (v := .ref q1) (ty := .array .int) (C := RX3) (T := TX3) (N := 2) hx hb hts hinwsX30 tyX3 tyX3_ok nmX3 hown hK hP hD hS 0 rfl rfl 0 (by decide) (hts (.fieldLink RX3 9 "Heliokeep$Light" "fluxes" "[I") (List.mem_of_getElem? (i := 5) rfl)) (fun _ h9 => h9) rfl hin rfl (by decide +kernel) rfl rfl (Nat.le_of_ble_eq_true rfl) dX3_init_9 (fun H locs hP hD hS => ?_)
  have hP : va_P G vwCl [(l0, .inr (4, [.ref q1, zi 0])), (q1, .inl (y 0, 6, .inl (IA (fun _ : Int => (0 : Int)))))] H := hP
  have hD : va_D A [(l0, .inr (4, [.ref q1, zi 0])), (q1, .inl (y 0, 6, .inl (IA (fun _ : Int => (0 : Int)))))] := hD
  have hP9 : va_P G vwCl [(l0, .inr (4, [.ref q1, zi 0])), (q1, .inl (y 0, 6, .inl (IA (fun _ : Int => (0 : Int)))))] H := hP.sub [0, 1] rfl
  have hD9 : va_D A [(l0, .inr (4, [.ref q1, zi 0])), (q1, .inl (y 0, 6, .inl (IA (fun _ : Int => (0 : Int)))))] := hD.sub [0, 1] (by decide) rfl
  exact hz_upM (Nat.le_of_ble_eq_true rfl) (Nat.le_of_ble_eq_true rfl) (W.vret hx hb hr (fun t ht hW => ⟨⟨(q1), rfl, trivial, hz_at2 hP9 hD9 ht⟩, hS.F ht⟩) hS.2.2 dX3_init_12)
abbrev Q_X0_init (G : va_G) (zE : Nat) (y : Nat → ClassId) (s0 : Nat) (A : Nat → Prop) : Array Value → State → Outcome → State → Prop := QAv G (fun (_ : Nat × Nat × Nat × Nat × Nat × Nat) => True) (fun u => [(s0, .inr (1, [.ref u.1, .ref u.2.2.1, .ref u.2.2.2.1, .ref u.2.2.2.2.1, .ref u.2.2.2.2.2, zi 0, zi 0])), (u.1, .inr (4, [.ref u.2.1, zi 0])), (u.2.1, .inl (y 0, 6, .inl (IA (fun _ : Int => (0 : Int))))), (u.2.2.1, .inl (y 0, 4, .inl (IA (fun _ : Int => (0 : Int))))), (u.2.2.2.1, .inl (y 0, 4, .inl (IA (fun _ : Int => (0 : Int))))), (u.2.2.2.2.1, .inl (y 0, 4, .inl (IA (fun _ : Int => (0 : Int))))), (u.2.2.2.2.2, .inl (y 0, 4, .inl (IA (fun _ : Int => (0 : Int)))))]) A
set_option maxHeartbeats 4000000 in
set_option maxRecDepth 100000 in
theorem c_X0_init (l : Launch) (G : va_G) (zE : Nat) (y : Nat → ClassId) (sz : Nat) (s0 : Nat)  : Met l yX0_init wsX0_init ({ frames := 2, cells := 6, slots := 24, locals := 32 }) (va_Pc [.ref s0] (HPreG zE G (tyL y) [(s0, .inr (1, [.null, .null, .null, .null, .null, zi 0, zi 0]))] sz)) (Q_X0_init G zE y s0 (va_A [(s0, .inr (1, [.null, .null, .null, .null, .null, zi 0, zi 0]))] sz)) 6 24 (va_A [(s0, .inr (1, [.null, .null, .null, .null, .null, zi 0, zi 0]))] sz) := by
  refine hz_ofWG (Qf := Q_X0_init G zE y s0) (cc := cX0_init) (maxL := 1) (ret := none) (by decide) rfl (Nat.le_of_ble_eq_true rfl) ?_
  intro p e s m below meth c A ls hx hb hr hts hown hin hlocks hml hP hK hA hD hS hGP hl
  have hown : s.vm.findClass RX0 = some m.cls := hown
  have hl : lv_has ls 1 [(0, .ref s0)] := hl
  have hinwsX00 : ∀ w ∈ wsX00, w ∈ wsX0_init := fun _ h => List.mem_cons_of_mem _ (List.mem_append_right _ (h))
  have hinwsX30 : ∀ w ∈ wsX30, w ∈ wsX0_init := fun _ h => List.mem_cons_of_mem _ (List.mem_append_left _ (List.mem_append_right _ (h)))
  refine lv_aload_n hx hb dX0_init_0 rfl (lv_at hl 0 rfl) ?_
  refine W.objInit hx hb hown (hts (.methodLink RX0 3 objectInit) (List.mem_of_getElem? (i := 1) rfl)) (hts (.instanceMethod objectInit) (List.mem_of_getElem? (i := 2) rfl)) (hts _ (List.mem_of_getElem? (i := 3) rfl)) rfl (hl.1.trans hml.symm) rfl dX0_init_1 (Nat.le_of_ble_eq_true rfl) (Nat.le_of_ble_eq_true rfl) ?_
  refine lv_aload_n hx hb dX0_init_4 rfl (lv_at hl 0 rfl) ?_
  refine va_new (ci := 4) (fs := [.null, zi 0]) (C := RX3) (T := TX3) (N := 2) hx hb hts hinwsX30 tyX3 tyX3_ok hown (hts (.classLink RX0 9 RX3) (List.mem_of_getElem? (i := 4) rfl)) (hts (.instantiable RX3 2) (List.mem_of_getElem? (i := 5) rfl)) (hts (.initialized RX3) (List.mem_of_getElem? (i := 6) rfl)) hK hP hD hS hA rfl dvX3 (Nat.le_of_ble_eq_true rfl) (Nat.le_of_ble_eq_true rfl) dX0_init_5 (fun q1 H hP hD hS => ?_)
  have hP : va_P G vwCl [(s0, .inr (1, [.null, .null, .null, .null, .null, zi 0, zi 0])), (q1, .inr (4, [.null, zi 0]))] H := hP
  have hD : va_D A [(s0, .inr (1, [.null, .null, .null, .null, .null, zi 0, zi 0])), (q1, .inr (4, [.null, zi 0]))] := hD
  refine lv_dup hx hb dX0_init_8 rfl ?_
  refine hz_aftA (wc := [(q1, .inr (4, [.null, zi 0]))]) (wr := [(s0, .inr (1, [.null, .null, .null, .null, .null, zi 0, zi 0]))]) (va_runIN (host := "Heliokeep") (As := []) (rest := [.ref q1, .ref s0]) ⟨hx, hb, hml, hown, hts⟩ (c_X3_init l G zE y _ q1) ⟨va_cnB 0 hts gX0_init_X3_init_n11 rfl rfl rfl (hGP.1 (.methodLinkNest "Heliokeep$AimSearch" 11 yX3_init "Heliokeep") (by decide +kernel)) (hts (.initialized RX3) (List.mem_of_getElem? (i := 6) rfl)) (by decide +kernel) ⟨Nat.le_of_ble_eq_true rfl, Nat.le_of_ble_eq_true rfl⟩, rfl, (hts (.instanceMethod yX3_init) (List.mem_of_getElem? (i := 13) rfl))⟩ ⟨hz_blindG, hz_preSG hP hK hD hS hA hGP [1] [0, 1, 2, 3] rfl rfl rfl⟩ rfl rfl hl.1 rfl (lv_room (Nat.le_of_ble_eq_true rfl)) dX0_init_9 ⟨Nat.le_of_ble_eq_true rfl, Nat.le_of_ble_eq_true rfl⟩) hP hD hS hA [1] [0] rfl rfl (by decide) (by decide) (fun q2 H locs hw hP hD hS => ?_)
  have hP : va_P G vwCl [(s0, .inr (1, [.null, .null, .null, .null, .null, zi 0, zi 0])), (q1, .inr (4, [.ref q2, zi 0])), (q2, .inl (y 0, 6, .inl (IA (fun _ : Int => (0 : Int)))))] H := hP
  have hD : va_D A [(s0, .inr (1, [.null, .null, .null, .null, .null, zi 0, zi 0])), (q1, .inr (4, [.ref q2, zi 0])), (q2, .inl (y 0, 6, .inl (IA (fun _ : Int => (0 : Int)))))] := hD
  refine va_putF (D := G) (ci := 1) (v := .ref q1) (ty := .object "Heliokeep$Light") (C := RX0) (T := TX0) (N := 7) hx hb hts hinwsX00 tyX0 tyX0_ok nmX0 hown hK hP hD hS 0 rfl rfl 0 (by decide) (hts (.fieldLink RX0 12 "Heliokeep$AimSearch" "light" "LHeliokeep$Light;") (List.mem_of_getElem? (i := 7) rfl)) (fun _ h9 => h9) rfl hin rfl (by decide +kernel) rfl rfl (Nat.le_of_ble_eq_true rfl) dX0_init_12 (fun H locs hP hD hS => ?_)
  have hP : va_P G vwCl [(s0, .inr (1, [.ref q1, .null, .null, .null, .null, zi 0, zi 0])), (q1, .inr (4, [.ref q2, zi 0])), (q2, .inl (y 0, 6, .inl (IA (fun _ : Int => (0 : Int)))))] H := hP
  have hD : va_D A [(s0, .inr (1, [.ref q1, .null, .null, .null, .null, zi 0, zi 0])), (q1, .inr (4, [.ref q2, zi 0])), (q2, .inl (y 0, 6, .inl (IA (fun _ : Int => (0 : Int)))))] := hD
  refine lv_aload_n hx hb dX0_init_15 rfl (lv_at hl 0 rfl) ?_
  refine hz_iconst hx hb dX0_init_16 ?_
  refine hz_newa (atype := .int) (ty := .int) (a0 := (4, .inl (IA (fun _ : Int => (0 : Int))))) hx hb (hts (.arrayClass .int) (List.mem_of_getElem? (i := 8) rfl)) rfl hK hP hD hS hA 0 rfl 4 (fun _ => rfl) (by omega) rfl (Nat.le_of_ble_eq_true rfl) (Nat.le_of_ble_eq_true rfl) (Nat.le_of_ble_eq_true rfl) dX0_init_17 (fun q3 H hP hD hS => ?_)
  have hP : va_P G vwCl [(s0, .inr (1, [.ref q1, .null, .null, .null, .null, zi 0, zi 0])), (q1, .inr (4, [.ref q2, zi 0])), (q2, .inl (y 0, 6, .inl (IA (fun _ : Int => (0 : Int))))), (q3, .inl (y 0, 4, .inl (IA (fun _ : Int => (0 : Int)))))] H := hP
  have hD : va_D A [(s0, .inr (1, [.ref q1, .null, .null, .null, .null, zi 0, zi 0])), (q1, .inr (4, [.ref q2, zi 0])), (q2, .inl (y 0, 6, .inl (IA (fun _ : Int => (0 : Int))))), (q3, .inl (y 0, 4, .inl (IA (fun _ : Int => (0 : Int)))))] := hD
  refine va_putF (D := G) (ci := 1) (v := .ref q3) (ty := .array .int) (C := RX0) (T := TX0) (N := 7) hx hb hts hinwsX00 tyX0 tyX0_ok nmX0 hown hK hP hD hS 0 rfl rfl 1 (by decide) (hts (.fieldLink RX0 18 "Heliokeep$AimSearch" "tenths" "[I") (List.mem_of_getElem? (i := 9) rfl)) (fun _ h9 => h9) rfl hin rfl (by decide +kernel) rfl rfl (Nat.le_of_ble_eq_true rfl) dX0_init_19 (fun H locs hP hD hS => ?_)
  have hP : va_P G vwCl [(s0, .inr (1, [.ref q1, .ref q3, .null, .null, .null, zi 0, zi 0])), (q1, .inr (4, [.ref q2, zi 0])), (q2, .inl (y 0, 6, .inl (IA (fun _ : Int => (0 : Int))))), (q3, .inl (y 0, 4, .inl (IA (fun _ : Int => (0 : Int)))))] H := hP
  have hD : va_D A [(s0, .inr (1, [.ref q1, .ref q3, .null, .null, .null, zi 0, zi 0])), (q1, .inr (4, [.ref q2, zi 0])), (q2, .inl (y 0, 6, .inl (IA (fun _ : Int => (0 : Int))))), (q3, .inl (y 0, 4, .inl (IA (fun _ : Int => (0 : Int)))))] := hD
  refine lv_aload_n hx hb dX0_init_22 rfl (lv_at hl 0 rfl) ?_
  refine hz_iconst hx hb dX0_init_23 ?_
  refine hz_newa (atype := .int) (ty := .int) (a0 := (4, .inl (IA (fun _ : Int => (0 : Int))))) hx hb (hts (.arrayClass .int) (List.mem_of_getElem? (i := 8) rfl)) rfl hK hP hD hS hA 0 rfl 4 (fun _ => rfl) (by omega) rfl (Nat.le_of_ble_eq_true rfl) (Nat.le_of_ble_eq_true rfl) (Nat.le_of_ble_eq_true rfl) dX0_init_24 (fun q4 H hP hD hS => ?_)
  have hP : va_P G vwCl [(s0, .inr (1, [.ref q1, .ref q3, .null, .null, .null, zi 0, zi 0])), (q1, .inr (4, [.ref q2, zi 0])), (q2, .inl (y 0, 6, .inl (IA (fun _ : Int => (0 : Int))))), (q3, .inl (y 0, 4, .inl (IA (fun _ : Int => (0 : Int))))), (q4, .inl (y 0, 4, .inl (IA (fun _ : Int => (0 : Int)))))] H := hP
  have hD : va_D A [(s0, .inr (1, [.ref q1, .ref q3, .null, .null, .null, zi 0, zi 0])), (q1, .inr (4, [.ref q2, zi 0])), (q2, .inl (y 0, 6, .inl (IA (fun _ : Int => (0 : Int))))), (q3, .inl (y 0, 4, .inl (IA (fun _ : Int => (0 : Int))))), (q4, .inl (y 0, 4, .inl (IA (fun _ : Int => (0 : Int)))))] := hD
  refine va_putF (D := G) (ci := 1) (v := .ref q4) (ty := .array .int) (C := RX0) (T := TX0) (N := 7) hx hb hts hinwsX00 tyX0 tyX0_ok nmX0 hown hK hP hD hS 0 rfl rfl 2 (by decide) (hts (.fieldLink RX0 22 "Heliokeep$AimSearch" "awry" "[I") (List.mem_of_getElem? (i := 10) rfl)) (fun _ h9 => h9) rfl hin rfl (by decide +kernel) rfl rfl (Nat.le_of_ble_eq_true rfl) dX0_init_26 (fun H locs hP hD hS => ?_)
  have hP : va_P G vwCl [(s0, .inr (1, [.ref q1, .ref q3, .ref q4, .null, .null, zi 0, zi 0])), (q1, .inr (4, [.ref q2, zi 0])), (q2, .inl (y 0, 6, .inl (IA (fun _ : Int => (0 : Int))))), (q3, .inl (y 0, 4, .inl (IA (fun _ : Int => (0 : Int))))), (q4, .inl (y 0, 4, .inl (IA (fun _ : Int => (0 : Int)))))] H := hP
  have hD : va_D A [(s0, .inr (1, [.ref q1, .ref q3, .ref q4, .null, .null, zi 0, zi 0])), (q1, .inr (4, [.ref q2, zi 0])), (q2, .inl (y 0, 6, .inl (IA (fun _ : Int => (0 : Int))))), (q3, .inl (y 0, 4, .inl (IA (fun _ : Int => (0 : Int))))), (q4, .inl (y 0, 4, .inl (IA (fun _ : Int => (0 : Int)))))] := hD
  refine lv_aload_n hx hb dX0_init_29 rfl (lv_at hl 0 rfl) ?_
  refine hz_iconst hx hb dX0_init_30 ?_
  refine hz_newa (atype := .int) (ty := .int) (a0 := (4, .inl (IA (fun _ : Int => (0 : Int))))) hx hb (hts (.arrayClass .int) (List.mem_of_getElem? (i := 8) rfl)) rfl hK hP hD hS hA 0 rfl 4 (fun _ => rfl) (by omega) rfl (Nat.le_of_ble_eq_true rfl) (Nat.le_of_ble_eq_true rfl) (Nat.le_of_ble_eq_true rfl) dX0_init_31 (fun q5 H hP hD hS => ?_)
  have hP : va_P G vwCl [(s0, .inr (1, [.ref q1, .ref q3, .ref q4, .null, .null, zi 0, zi 0])), (q1, .inr (4, [.ref q2, zi 0])), (q2, .inl (y 0, 6, .inl (IA (fun _ : Int => (0 : Int))))), (q3, .inl (y 0, 4, .inl (IA (fun _ : Int => (0 : Int))))), (q4, .inl (y 0, 4, .inl (IA (fun _ : Int => (0 : Int))))), (q5, .inl (y 0, 4, .inl (IA (fun _ : Int => (0 : Int)))))] H := hP
  have hD : va_D A [(s0, .inr (1, [.ref q1, .ref q3, .ref q4, .null, .null, zi 0, zi 0])), (q1, .inr (4, [.ref q2, zi 0])), (q2, .inl (y 0, 6, .inl (IA (fun _ : Int => (0 : Int))))), (q3, .inl (y 0, 4, .inl (IA (fun _ : Int => (0 : Int))))), (q4, .inl (y 0, 4, .inl (IA (fun _ : Int => (0 : Int))))), (q5, .inl (y 0, 4, .inl (IA (fun _ : Int => (0 : Int)))))] := hD
  refine va_putF (D := G) (ci := 1) (v := .ref q5) (ty := .array .int) (C := RX0) (T := TX0) (N := 7) hx hb hts hinwsX00 tyX0 tyX0_ok nmX0 hown hK hP hD hS 0 rfl rfl 3 (by decide) (hts (.fieldLink RX0 25 "Heliokeep$AimSearch" "row" "[I") (List.mem_of_getElem? (i := 11) rfl)) (fun _ h9 => h9) rfl hin rfl (by decide +kernel) rfl rfl (Nat.le_of_ble_eq_true rfl) dX0_init_33 (fun H locs hP hD hS => ?_)
  have hP : va_P G vwCl [(s0, .inr (1, [.ref q1, .ref q3, .ref q4, .ref q5, .null, zi 0, zi 0])), (q1, .inr (4, [.ref q2, zi 0])), (q2, .inl (y 0, 6, .inl (IA (fun _ : Int => (0 : Int))))), (q3, .inl (y 0, 4, .inl (IA (fun _ : Int => (0 : Int))))), (q4, .inl (y 0, 4, .inl (IA (fun _ : Int => (0 : Int))))), (q5, .inl (y 0, 4, .inl (IA (fun _ : Int => (0 : Int)))))] H := hP
  have hD : va_D A [(s0, .inr (1, [.ref q1, .ref q3, .ref q4, .ref q5, .null, zi 0, zi 0])), (q1, .inr (4, [.ref q2, zi 0])), (q2, .inl (y 0, 6, .inl (IA (fun _ : Int => (0 : Int))))), (q3, .inl (y 0, 4, .inl (IA (fun _ : Int => (0 : Int))))), (q4, .inl (y 0, 4, .inl (IA (fun _ : Int => (0 : Int))))), (q5, .inl (y 0, 4, .inl (IA (fun _ : Int => (0 : Int)))))] := hD
  refine lv_aload_n hx hb dX0_init_36 rfl (lv_at hl 0 rfl) ?_
  refine hz_iconst hx hb dX0_init_37 ?_
  refine hz_newa (atype := .int) (ty := .int) (a0 := (4, .inl (IA (fun _ : Int => (0 : Int))))) hx hb (hts (.arrayClass .int) (List.mem_of_getElem? (i := 8) rfl)) rfl hK hP hD hS hA 0 rfl 4 (fun _ => rfl) (by omega) rfl (Nat.le_of_ble_eq_true rfl) (Nat.le_of_ble_eq_true rfl) (Nat.le_of_ble_eq_true rfl) dX0_init_38 (fun q6 H hP hD hS => ?_)
  have hP : va_P G vwCl [(s0, .inr (1, [.ref q1, .ref q3, .ref q4, .ref q5, .null, zi 0, zi 0])), (q1, .inr (4, [.ref q2, zi 0])), (q2, .inl (y 0, 6, .inl (IA (fun _ : Int => (0 : Int))))), (q3, .inl (y 0, 4, .inl (IA (fun _ : Int => (0 : Int))))), (q4, .inl (y 0, 4, .inl (IA (fun _ : Int => (0 : Int))))), (q5, .inl (y 0, 4, .inl (IA (fun _ : Int => (0 : Int))))), (q6, .inl (y 0, 4, .inl (IA (fun _ : Int => (0 : Int)))))] H := hP
  have hD : va_D A [(s0, .inr (1, [.ref q1, .ref q3, .ref q4, .ref q5, .null, zi 0, zi 0])), (q1, .inr (4, [.ref q2, zi 0])), (q2, .inl (y 0, 6, .inl (IA (fun _ : Int => (0 : Int))))), (q3, .inl (y 0, 4, .inl (IA (fun _ : Int => (0 : Int))))), (q4, .inl (y 0, 4, .inl (IA (fun _ : Int => (0 : Int))))), (q5, .inl (y 0, 4, .inl (IA (fun _ : Int => (0 : Int))))), (q6, .inl (y 0, 4, .inl (IA (fun _ : Int => (0 : Int)))))] := hD
  refine va_putF (D := G) (ci := 1) (v := .ref q6) (ty := .array .int) (C := RX0) (T := TX0) (N := 7) hx hb hts hinwsX00 tyX0 tyX0_ok nmX0 hown hK hP hD hS 0 rfl rfl 4 (by decide) (hts (.fieldLink RX0 28 "Heliokeep$AimSearch" "bestRow" "[I") (List.mem_of_getElem? (i := 12) rfl)) (fun _ h9 => h9) rfl hin rfl (by decide +kernel) rfl rfl (Nat.le_of_ble_eq_true rfl) dX0_init_40 (fun H locs hP hD hS => ?_)
  have hP : va_P G vwCl [(s0, .inr (1, [.ref q1, .ref q3, .ref q4, .ref q5, .ref q6, zi 0, zi 0])), (q1, .inr (4, [.ref q2, zi 0])), (q2, .inl (y 0, 6, .inl (IA (fun _ : Int => (0 : Int))))), (q3, .inl (y 0, 4, .inl (IA (fun _ : Int => (0 : Int))))), (q4, .inl (y 0, 4, .inl (IA (fun _ : Int => (0 : Int))))), (q5, .inl (y 0, 4, .inl (IA (fun _ : Int => (0 : Int))))), (q6, .inl (y 0, 4, .inl (IA (fun _ : Int => (0 : Int)))))] H := hP
  have hD : va_D A [(s0, .inr (1, [.ref q1, .ref q3, .ref q4, .ref q5, .ref q6, zi 0, zi 0])), (q1, .inr (4, [.ref q2, zi 0])), (q2, .inl (y 0, 6, .inl (IA (fun _ : Int => (0 : Int))))), (q3, .inl (y 0, 4, .inl (IA (fun _ : Int => (0 : Int))))), (q4, .inl (y 0, 4, .inl (IA (fun _ : Int => (0 : Int))))), (q5, .inl (y 0, 4, .inl (IA (fun _ : Int => (0 : Int))))), (q6, .inl (y 0, 4, .inl (IA (fun _ : Int => (0 : Int)))))] := hD
  have hP9 : va_P G vwCl [(s0, .inr (1, [.ref q1, .ref q3, .ref q4, .ref q5, .ref q6, zi 0, zi 0])), (q1, .inr (4, [.ref q2, zi 0])), (q2, .inl (y 0, 6, .inl (IA (fun _ : Int => (0 : Int))))), (q3, .inl (y 0, 4, .inl (IA (fun _ : Int => (0 : Int))))), (q4, .inl (y 0, 4, .inl (IA (fun _ : Int => (0 : Int))))), (q5, .inl (y 0, 4, .inl (IA (fun _ : Int => (0 : Int))))), (q6, .inl (y 0, 4, .inl (IA (fun _ : Int => (0 : Int)))))] H := hP.sub [0, 1, 2, 3, 4, 5, 6] rfl
  have hD9 : va_D A [(s0, .inr (1, [.ref q1, .ref q3, .ref q4, .ref q5, .ref q6, zi 0, zi 0])), (q1, .inr (4, [.ref q2, zi 0])), (q2, .inl (y 0, 6, .inl (IA (fun _ : Int => (0 : Int))))), (q3, .inl (y 0, 4, .inl (IA (fun _ : Int => (0 : Int))))), (q4, .inl (y 0, 4, .inl (IA (fun _ : Int => (0 : Int))))), (q5, .inl (y 0, 4, .inl (IA (fun _ : Int => (0 : Int))))), (q6, .inl (y 0, 4, .inl (IA (fun _ : Int => (0 : Int)))))] := hD.sub [0, 1, 2, 3, 4, 5, 6] (by decide) rfl
  exact hz_upM (Nat.le_of_ble_eq_true rfl) (Nat.le_of_ble_eq_true rfl) (W.vret hx hb hr (fun t ht hW => ⟨⟨(q1, q2, q3, q4, q5, q6), rfl, trivial, hz_at2 hP9 hD9 ht⟩, hS.F ht⟩) hS.2.2 dX0_init_43)
abbrev Q_X2_init (G : va_G) (zE : Nat) (y : Nat → ClassId) (f0 : Nat) (A : Nat → Prop) : Array Value → State → Outcome → State → Prop := QAv G (fun (_ : Nat × Nat × Nat) => True) (fun u => [(f0, .inr (3, [.ref u.1, .ref u.2.1, .ref u.2.2, zi 0, zi 0])), (u.1, .inr (0, [zi 0, .ref zE, zi 0])), (u.2.1, .inr (0, [zi 0, .ref zE, zi 0])), (u.2.2, .inl (y 2, 64, .inl (IA (fun _ : Int => (0 : Int)))))]) A
set_option maxHeartbeats 4000000 in
set_option maxRecDepth 100000 in
theorem c_X2_init (l : Launch) (G : va_G) (zE : Nat) (y : Nat → ClassId) (sz : Nat) (f0 : Nat)  : Met l yX2_init wsX2_init ({ frames := 4, cells := 3, slots := 70, locals := 72 }) (va_Pc [.ref f0] (HPreG zE G (tyL y) [(f0, .inr (3, [.null, .null, .null, zi 0, zi 0]))] sz)) (Q_X2_init G zE y f0 (va_A [(f0, .inr (3, [.null, .null, .null, zi 0, zi 0]))] sz)) 3 70 (va_A [(f0, .inr (3, [.null, .null, .null, zi 0, zi 0]))] sz) := by
  refine hz_ofWG (Qf := Q_X2_init G zE y f0) (cc := cX2_init) (maxL := 1) (ret := none) (by decide) rfl (Nat.le_of_ble_eq_true rfl) ?_
  intro p e s m below meth c A ls hx hb hr hts hown hin hlocks hml hP hK hA hD hS hGP hl
  have hown : s.vm.findClass RX2 = some m.cls := hown
  have hl : lv_has ls 1 [(0, .ref f0)] := hl
  have hinwsJx4a65c0 : ∀ w ∈ wsJx4a65c0, w ∈ wsX2_init := fun _ h => List.mem_cons_of_mem _ (List.mem_append_left _ (List.mem_append_right _ (h)))
  have hinwsX20 : ∀ w ∈ wsX20, w ∈ wsX2_init := fun _ h => List.mem_cons_of_mem _ (List.mem_append_right _ (h))
  refine lv_aload_n hx hb dX2_init_0 rfl (lv_at hl 0 rfl) ?_
  refine W.objInit hx hb hown (hts (.methodLink RX2 3 objectInit) (List.mem_of_getElem? (i := 1) rfl)) (hts (.instanceMethod objectInit) (List.mem_of_getElem? (i := 2) rfl)) (hts _ (List.mem_of_getElem? (i := 3) rfl)) rfl (hl.1.trans hml.symm) rfl dX2_init_1 (Nat.le_of_ble_eq_true rfl) (Nat.le_of_ble_eq_true rfl) ?_
  refine lv_aload_n hx hb dX2_init_4 rfl (lv_at hl 0 rfl) ?_
  refine va_new (ci := 0) (fs := [zi 0, .null, zi 0]) (C := RJx4a65c) (T := TJx4a65c) (N := 3) hx hb hts hinwsJx4a65c0 tyJx4a65c tyJx4a65c_ok hown (hts (.classLink RX2 9 RJx4a65c) (List.mem_of_getElem? (i := 4) rfl)) (hts (.instantiable RJx4a65c 3) (List.mem_of_getElem? (i := 5) rfl)) (hts (.initialized RJx4a65c) (List.mem_of_getElem? (i := 6) rfl)) hK hP hD hS hA rfl dvJx4a65c (Nat.le_of_ble_eq_true rfl) (Nat.le_of_ble_eq_true rfl) dX2_init_5 (fun q1 H hP hD hS => ?_)
  have hP : va_P G vwCl [(f0, .inr (3, [.null, .null, .null, zi 0, zi 0])), (q1, .inr (0, [zi 0, .null, zi 0]))] H := hP
  have hD : va_D A [(f0, .inr (3, [.null, .null, .null, zi 0, zi 0])), (q1, .inr (0, [zi 0, .null, zi 0]))] := hD
  refine lv_dup hx hb dX2_init_8 rfl ?_
  refine hz_aftA (wc := [(q1, .inr (0, [zi 0, .null, zi 0]))]) (wr := [(f0, .inr (3, [.null, .null, .null, zi 0, zi 0]))]) (va_runI (As := []) (rest := [.ref q1, .ref f0]) ⟨hx, hb, hml, hown, hts⟩ (c_Jx4a65c_init_da8c8 l G zE y _ q1) (cwI 0 hts gX2_init_Jx4a65c_init_da8c8 rfl rfl rfl (hts (.initialized RJx4a65c) (List.mem_of_getElem? (i := 6) rfl)) (hts (.methodLink RX2 11 yJx4a65c_init_da8c8) (List.mem_of_getElem? (i := 11) rfl)) (hts (.instanceMethod yJx4a65c_init_da8c8) (List.mem_of_getElem? (i := 12) rfl)) rfl (by decide +kernel) ⟨Nat.le_of_ble_eq_true rfl, Nat.le_of_ble_eq_true rfl⟩) ⟨hz_blindG, hz_preSG hP hK hD hS hA hGP [1] [0, 1, 2, 3] rfl rfl rfl⟩ rfl rfl hl.1 rfl (lv_room (Nat.le_of_ble_eq_true rfl)) dX2_init_9 ⟨Nat.le_of_ble_eq_true rfl, Nat.le_of_ble_eq_true rfl⟩) hP hD hS hA [1] [0] rfl rfl (by decide) (by decide) (fun u H locs hw hP hD hS => ?_)
  have hP : va_P G vwCl [(f0, .inr (3, [.null, .null, .null, zi 0, zi 0])), (q1, .inr (0, [zi 0, .ref zE, zi 0]))] H := hP
  have hD : va_D A [(f0, .inr (3, [.null, .null, .null, zi 0, zi 0])), (q1, .inr (0, [zi 0, .ref zE, zi 0]))] := hD
  refine va_putF (D := G) (ci := 3) (v := .ref q1) (ty := .object "java/util/ArrayList") (C := RX2) (T := TX2) (N := 5) hx hb hts hinwsX20 tyX2 tyX2_ok nmX2 hown hK hP hD hS 0 rfl rfl 0 (by decide) (hts (.fieldLink RX2 12 "Heliokeep$Field" "mirrors" "Ljava/util/ArrayList;") (List.mem_of_getElem? (i := 7) rfl)) (fun _ h9 => h9) rfl hin rfl (by decide +kernel) rfl rfl (Nat.le_of_ble_eq_true rfl) dX2_init_12 (fun H locs hP hD hS => ?_)
  have hP : va_P G vwCl [(f0, .inr (3, [.ref q1, .null, .null, zi 0, zi 0])), (q1, .inr (0, [zi 0, .ref zE, zi 0]))] H := hP
  have hD : va_D A [(f0, .inr (3, [.ref q1, .null, .null, zi 0, zi 0])), (q1, .inr (0, [zi 0, .ref zE, zi 0]))] := hD
  refine lv_aload_n hx hb dX2_init_15 rfl (lv_at hl 0 rfl) ?_
  refine va_new (ci := 0) (fs := [zi 0, .null, zi 0]) (C := RJx4a65c) (T := TJx4a65c) (N := 3) hx hb hts hinwsJx4a65c0 tyJx4a65c tyJx4a65c_ok hown (hts (.classLink RX2 9 RJx4a65c) (List.mem_of_getElem? (i := 4) rfl)) (hts (.instantiable RJx4a65c 3) (List.mem_of_getElem? (i := 5) rfl)) (hts (.initialized RJx4a65c) (List.mem_of_getElem? (i := 6) rfl)) hK hP hD hS hA rfl dvJx4a65c (Nat.le_of_ble_eq_true rfl) (Nat.le_of_ble_eq_true rfl) dX2_init_16 (fun q2 H hP hD hS => ?_)
  have hP : va_P G vwCl [(f0, .inr (3, [.ref q1, .null, .null, zi 0, zi 0])), (q1, .inr (0, [zi 0, .ref zE, zi 0])), (q2, .inr (0, [zi 0, .null, zi 0]))] H := hP
  have hD : va_D A [(f0, .inr (3, [.ref q1, .null, .null, zi 0, zi 0])), (q1, .inr (0, [zi 0, .ref zE, zi 0])), (q2, .inr (0, [zi 0, .null, zi 0]))] := hD
  refine lv_dup hx hb dX2_init_19 rfl ?_
  refine hz_aftA (wc := [(q2, .inr (0, [zi 0, .null, zi 0]))]) (wr := [(f0, .inr (3, [.ref q1, .null, .null, zi 0, zi 0])), (q1, .inr (0, [zi 0, .ref zE, zi 0]))]) (va_runI (As := []) (rest := [.ref q2, .ref f0]) ⟨hx, hb, hml, hown, hts⟩ (c_Jx4a65c_init_da8c8 l G zE y _ q2) (cwI 0 hts gX2_init_Jx4a65c_init_da8c8 rfl rfl rfl (hts (.initialized RJx4a65c) (List.mem_of_getElem? (i := 6) rfl)) (hts (.methodLink RX2 11 yJx4a65c_init_da8c8) (List.mem_of_getElem? (i := 11) rfl)) (hts (.instanceMethod yJx4a65c_init_da8c8) (List.mem_of_getElem? (i := 12) rfl)) rfl (by decide +kernel) ⟨Nat.le_of_ble_eq_true rfl, Nat.le_of_ble_eq_true rfl⟩) ⟨hz_blindG, hz_preSG hP hK hD hS hA hGP [2] [0, 1, 2, 3] rfl rfl rfl⟩ rfl rfl hl.1 rfl (lv_room (Nat.le_of_ble_eq_true rfl)) dX2_init_20 ⟨Nat.le_of_ble_eq_true rfl, Nat.le_of_ble_eq_true rfl⟩) hP hD hS hA [2] [0, 1] rfl rfl (by decide) (by decide) (fun u H locs hw hP hD hS => ?_)
  have hP : va_P G vwCl [(f0, .inr (3, [.ref q1, .null, .null, zi 0, zi 0])), (q1, .inr (0, [zi 0, .ref zE, zi 0])), (q2, .inr (0, [zi 0, .ref zE, zi 0]))] H := hP
  have hD : va_D A [(f0, .inr (3, [.ref q1, .null, .null, zi 0, zi 0])), (q1, .inr (0, [zi 0, .ref zE, zi 0])), (q2, .inr (0, [zi 0, .ref zE, zi 0]))] := hD
  refine va_putF (D := G) (ci := 3) (v := .ref q2) (ty := .object "java/util/ArrayList") (C := RX2) (T := TX2) (N := 5) hx hb hts hinwsX20 tyX2 tyX2_ok nmX2 hown hK hP hD hS 0 rfl rfl 1 (by decide) (hts (.fieldLink RX2 18 "Heliokeep$Field" "clouds" "Ljava/util/ArrayList;") (List.mem_of_getElem? (i := 8) rfl)) (fun _ h9 => h9) rfl hin rfl (by decide +kernel) rfl rfl (Nat.le_of_ble_eq_true rfl) dX2_init_23 (fun H locs hP hD hS => ?_)
  have hP : va_P G vwCl [(f0, .inr (3, [.ref q1, .ref q2, .null, zi 0, zi 0])), (q1, .inr (0, [zi 0, .ref zE, zi 0])), (q2, .inr (0, [zi 0, .ref zE, zi 0]))] H := hP
  have hD : va_D A [(f0, .inr (3, [.ref q1, .ref q2, .null, zi 0, zi 0])), (q1, .inr (0, [zi 0, .ref zE, zi 0])), (q2, .inr (0, [zi 0, .ref zE, zi 0]))] := hD
  refine lv_aload_n hx hb dX2_init_26 rfl (lv_at hl 0 rfl) ?_
  refine hz_bipush hx hb dX2_init_27 (by decide) ?_
  refine hz_newa (atype := .boolean) (ty := .boolean) (a0 := (64, .inl (IA (fun _ : Int => (0 : Int))))) hx hb (hts (.arrayClass .boolean) (List.mem_of_getElem? (i := 9) rfl)) rfl hK hP hD hS hA 2 rfl 64 (fun _ => rfl) (by omega) rfl (Nat.le_of_ble_eq_true rfl) (Nat.le_of_ble_eq_true rfl) (Nat.le_of_ble_eq_true rfl) dX2_init_29 (fun q3 H hP hD hS => ?_)
  have hP : va_P G vwCl [(f0, .inr (3, [.ref q1, .ref q2, .null, zi 0, zi 0])), (q1, .inr (0, [zi 0, .ref zE, zi 0])), (q2, .inr (0, [zi 0, .ref zE, zi 0])), (q3, .inl (y 2, 64, .inl (IA (fun _ : Int => (0 : Int)))))] H := hP
  have hD : va_D A [(f0, .inr (3, [.ref q1, .ref q2, .null, zi 0, zi 0])), (q1, .inr (0, [zi 0, .ref zE, zi 0])), (q2, .inr (0, [zi 0, .ref zE, zi 0])), (q3, .inl (y 2, 64, .inl (IA (fun _ : Int => (0 : Int)))))] := hD
  refine va_putF (D := G) (ci := 3) (v := .ref q3) (ty := .array .boolean) (C := RX2) (T := TX2) (N := 5) hx hb hts hinwsX20 tyX2 tyX2_ok nmX2 hown hK hP hD hS 0 rfl rfl 2 (by decide) (hts (.fieldLink RX2 21 "Heliokeep$Field" "taken" "[Z") (List.mem_of_getElem? (i := 10) rfl)) (fun _ h9 => h9) rfl hin rfl (by decide +kernel) rfl rfl (Nat.le_of_ble_eq_true rfl) dX2_init_31 (fun H locs hP hD hS => ?_)
  have hP : va_P G vwCl [(f0, .inr (3, [.ref q1, .ref q2, .ref q3, zi 0, zi 0])), (q1, .inr (0, [zi 0, .ref zE, zi 0])), (q2, .inr (0, [zi 0, .ref zE, zi 0])), (q3, .inl (y 2, 64, .inl (IA (fun _ : Int => (0 : Int)))))] H := hP
  have hD : va_D A [(f0, .inr (3, [.ref q1, .ref q2, .ref q3, zi 0, zi 0])), (q1, .inr (0, [zi 0, .ref zE, zi 0])), (q2, .inr (0, [zi 0, .ref zE, zi 0])), (q3, .inl (y 2, 64, .inl (IA (fun _ : Int => (0 : Int)))))] := hD
  have hP9 : va_P G vwCl [(f0, .inr (3, [.ref q1, .ref q2, .ref q3, zi 0, zi 0])), (q1, .inr (0, [zi 0, .ref zE, zi 0])), (q2, .inr (0, [zi 0, .ref zE, zi 0])), (q3, .inl (y 2, 64, .inl (IA (fun _ : Int => (0 : Int)))))] H := hP.sub [0, 1, 2, 3] rfl
  have hD9 : va_D A [(f0, .inr (3, [.ref q1, .ref q2, .ref q3, zi 0, zi 0])), (q1, .inr (0, [zi 0, .ref zE, zi 0])), (q2, .inr (0, [zi 0, .ref zE, zi 0])), (q3, .inl (y 2, 64, .inl (IA (fun _ : Int => (0 : Int)))))] := hD.sub [0, 1, 2, 3] (by decide) rfl
  exact hz_upM (Nat.le_of_ble_eq_true rfl) (Nat.le_of_ble_eq_true rfl) (W.vret hx hb hr (fun t ht hW => ⟨⟨(q1, q2, q3), rfl, trivial, hz_at2 hP9 hD9 ht⟩, hS.F ht⟩) hS.2.2 dX2_init_34)
