/-! what stays the same in all calls: STRENGTHS, Throwable's statics, ArrayList's empty array, texts, links among nest mates -/
def nwL : List Cond := [.methodLinkNest "Heliokeep" 9 yX2_init "Heliokeep", .methodLinkNest "Heliokeep" 18 yX3_init "Heliokeep", .methodLinkNest "Heliokeep" 25 yX0_init "Heliokeep", .methodLinkNest "Heliokeep$AimSearch" 11 yX3_init "Heliokeep", .methodLinkNest "Heliokeep" 43 yX5_init "Heliokeep", .methodLinkNest "Heliokeep" 50 yX6_init "Heliokeep", .methodLinkNest "Heliokeep$Field" 109 yX7_isIn "Heliokeep", .fieldLinkNest "Heliokeep$Field" 42 "Heliokeep" "STRENGTHS" "[I" "Heliokeep"]
def stL : List (Nat × String) := [(67, "no such cell"), (78, "a mirror is there"), (91, "no more mirrors"), (302, "no such mirror"), (308, "out of range"), (123, "no power"), (135, "the mirror is broken"), (143, "the sun shines"), (148, "too little water"), (168, "nothing to tell by that number"), (177, "no more clouds"), (304, "no such panel"), (310, "no such set"), (312, "too many in the set"), (318, "one is broken"), (238, "no row is lawful"), (253, "too much salt"), (258, "the pipe is plugged"), (260, "it is so already"), (281, "it is still"), (286, "too much water"), (306, "no such hour"), (294, "beyond the last tick")]
def xwL : List Cond := [.declares (Bundle.initS "java/lang/RuntimeException"), .declares (Bundle.initS "java/lang/Exception"), .declares (Bundle.initS Bundle.tN), .castable "java/lang/IndexOutOfBoundsException" "java/lang/IndexOutOfBoundsException", .castable "java/lang/IllegalArgumentException" "java/lang/IllegalArgumentException", .castable "java/lang/IllegalStateException" "java/lang/IllegalStateException"]
theorem xwL_f : ∀ w ∈ xwL, w.faceAtom = true := List.all_eq_true.mp (by decide +kernel)
theorem xwL_o : ∀ w ∈ xwL, w.onTables = true := List.all_eq_true.mp (by decide +kernel)
def GP (zE : Nat) (A : Nat → Prop) (U : State) (H : Heap) : Prop := (∀ w ∈ nwL, va_Nw w U) ∧ (∃ t : Nat, va_Z "Heliokeep" "STRENGTHS" "[I" (.ref t) A U H ∧ va_T .int t 24 (fun j => zi (strZ (j : Int))) A U H) ∧ vx_Zq Bundle.tN "UNASSIGNED_STACK" Bundle.steD A U H ∧ vx_Zq Bundle.tN "SUPPRESSED_SENTINEL" Bundle.listD A U H ∧ (va_Z "java/util/ArrayList" "DEFAULTCAPACITY_EMPTY_ELEMENTDATA" "[Ljava/lang/Object;" (.ref zE) A U H ∧ va_T (.object "java/lang/Object") zE 0 (fun _ => .null) A U H) ∧ (∀ q ∈ stL, ∃ a : Nat, vk_R "Heliokeep" q.1 q.2 a U) ∧ ∀ w ∈ xwL, w.before #[] U = true
theorem GP.kept {zE : Nat} {A : Nat → Prop} {U : State} {H H1 : Heap} (h : GP zE A U H) (hq : ∀ a : Nat, a < H.size → ¬ A a → H1[a]? = H[a]?) : GP zE A U H1 := by
  obtain ⟨h1, ⟨t, h2, h3⟩, h4, h5, ⟨h6, h7⟩, h8, hxw⟩ := h
  exact ⟨h1, ⟨t, h2.kept hq, h3.kept hq⟩, h4.kept hq, h5.kept hq, ⟨h6.kept hq, h7.kept hq⟩, h8, hxw⟩
theorem GP.narrow {zE : Nat} {A B : Nat → Prop} {U : State} {H : Heap} (h : GP zE A U H) (hAB : ∀ q, B q → A q) : GP zE B U H := by
  obtain ⟨h1, ⟨t, h2, h3⟩, h4, h5, ⟨h6, h7⟩, h8, hxw⟩ := h
  exact ⟨h1, ⟨t, h2.narrow hAB, h3.narrow hAB⟩, h4.narrow hAB, h5.narrow hAB, ⟨h6.narrow hAB, h7.narrow hAB⟩, h8, hxw⟩
theorem GP.warm {zE : Nat} {A : Nat → Prop} {s U : State} {H : Heap} (h : GP zE A s H) (hW : s.WarmedH U.vm) : GP zE A U H := by
  obtain ⟨h1, ⟨t, h2, h3⟩, h4, h5, ⟨h6, h7⟩, h8, hxw⟩ := h
  refine ⟨fun w hw => ?_, ⟨t, h2.moved hW.alike, h3.moved hW.alike⟩, h4.moved hW.alike, h5.moved hW.alike, ⟨h6.moved hW.alike, h7.moved hW.alike⟩, fun q hq => ?_, fun w hw => va_tabs (xwL_o w hw) (u := s.setVm U.vm) rfl (Cond.faceAtom_setVm hW.alike w (xwL_f w hw) (hxw w hw))⟩
  · have h9 := h1 w hw
    simp only [nwL, List.mem_cons, List.not_mem_nil, or_false] at hw
    rcases hw with rfl | rfl | rfl | rfl | rfl | rfl | rfl | rfl
    · exact va_Nw.warmM hW h9
    · exact va_Nw.warmM hW h9
    · exact va_Nw.warmM hW h9
    · exact va_Nw.warmM hW h9
    · exact va_Nw.warmM hW h9
    · exact va_Nw.warmM hW h9
    · exact va_Nw.warmM hW h9
    · exact va_Nw.warmF hW h9
  · obtain ⟨a, ha⟩ := h8 q hq
    exact ⟨a, ha.warm hW⟩
theorem GP.same {zE : Nat} {A : Nat → Prop} {s U : State} {H : Heap} (h : GP zE A s H) (hv : U.vm = s.vm) : GP zE A U H := by
  obtain ⟨h1, ⟨t, h2, h3⟩, h4, h5, ⟨h6, h7⟩, h8, hxw⟩ := h
  have hal : s.vm.Alike U.vm := by rw [hv]; exact Vm.Alike.refl _
  refine ⟨fun w hw => ?_, ⟨t, h2.moved hal, h3.moved hal⟩, h4.moved hal, h5.moved hal, ⟨h6.moved hal, h7.moved hal⟩, fun q hq => ?_, fun w hw => va_tabs (xwL_o w hw) hv.symm (hxw w hw)⟩
  · have h9 := h1 w hw
    simp only [nwL, List.mem_cons, List.not_mem_nil, or_false] at hw
    rcases hw with rfl | rfl | rfl | rfl | rfl | rfl | rfl | rfl <;> exact va_Nw.same rfl hv.symm h9
  · obtain ⟨a, ha⟩ := h8 q hq
    exact ⟨a, ha.same hv⟩
theorem GP.call {zE : Nat} {A B : Nat → Prop} {s U : State} {H : Heap} {locs : List Loc} (h : GP zE A s s.heap) (hS : va_S A s.heap H locs) (hAB : ∀ q, B q → A q) (hU : U.heap = H) (hW : s.WarmedH U.vm) : GP zE B U U.heap := by
  rw [hU]
  exact ((h.kept (fun a h1 h2 => hS.2.1 a h1 h2)).narrow hAB).warm hW
theorem strZ_mod (t : Int) : strZ (t % 24) = strZ t := by unfold strZ; rw [Int.emod_emod_of_dvd t (Int.dvd_refl 24)]
abbrev HPreG (zE : Nat) (D : va_G) (tys : List (ClassId × FieldType)) (ws : va_W) (sz : Nat) : State → Prop := fun U => (U.heap.size = sz ∧ va_P D vwCl ws U.heap ∧ va_K D vwCl tys U ∧ va_D (fun _ => True) ws) ∧ GP zE (va_A ws sz) U U.heap
abbrev HPrG (zE : Nat) (D : va_G) (tys : List (ClassId × FieldType)) (ws : va_W) : State → Prop := fun U => (va_P D vwCl ws U.heap ∧ va_K D vwCl tys U) ∧ GP zE (fun _ => False) U U.heap
theorem hz_blindG {av : List Value} {zE : Nat} {D : va_G} {tys : List (ClassId × FieldType)} {ws : va_W} {sz : Nat} : FrameBlind (va_Pc av (HPreG zE D tys ws sz)) := fun a U g mk q => by
  obtain ⟨q0, ⟨q1, qP, qK, qD⟩, qG⟩ := q
  exact ⟨q0, ⟨q1, qP, va_K.moved (u := U) (U := U.calling g mk a) (Vm.Alike.refl U.vm) qK, qD⟩, qG.same rfl⟩
theorem hz_blindRG {av : List Value} {zE : Nat} {D : va_G} {tys : List (ClassId × FieldType)} {ws : va_W} : FrameBlind (va_Pc av (HPrG zE D tys ws)) := fun a U g mk q => by
  obtain ⟨q0, ⟨qP, qK⟩, qG⟩ := q
  exact ⟨q0, ⟨qP, va_K.moved (u := U) (U := U.calling g mk a) (Vm.Alike.refl U.vm) qK⟩, qG.same rfl⟩
section HG
variable {p : Program} {l : Launch} {e : Env} {R : Room} {s : State} {m : MethodId} {args : Array Value} {below : List Frame} {meth : Method} {c : Code} {H : Heap} {locs : List Loc} {cells slots : Nat} {Q : State → Prop}
variable {cc bytes : ByteArray} {pc nL maxL index n : Nat} {ls : Array Slot} {rest st0 As : List Value} {D : va_G} {A : Nat → Prop} {b zE : Nat} {tys : List (ClassId × FieldType)} {ws : va_W} {Ts wz : List Cond} {own C : String} {y : MethodName} {ret : Option FieldType} {rm : Room} {cq : vw_C} {fs : List Value}
theorem hz_preWG {av : List Value} (hP : va_P D vwCl ws H) (hK : va_K D vwCl tys s) (hD : va_D A ws) (hS : va_S A s.heap H locs) (hA : ∀ q, s.heap.size ≤ q → A q) (hG : GP zE A s s.heap) : ∀ U : State, U.heap = H → s.WarmedH U.vm → va_Pc av (HPreG zE D tys ws H.size) av.toArray U := fun U hU hW => ⟨rfl, ⟨by rw [hU], by rw [hU]; exact hP, va_K.moved hW.alike hK, hD.weaken (fun _ _ _ _ => trivial)⟩, hG.call hS (hz_freeW hD hS hA) hU hW⟩
theorem hz_callWiG {S : Type} {g : S → Int} {φ : S → Prop} {w1 : S → va_W} (fx : CallFix p m c cc nL s args Ts own) (hM : Met l y wz rm (va_Pc (.ref b :: As) (HPreG zE D tys ws H.size)) (va_Qi (fun (r : Int32) (u : S) => r = zI (g u) ∧ φ u) (fun u t => va_P D vwCl (w1 u) t.heap) (va_A ws H.size)) 0 0 (va_A ws H.size)) (cw : CallW R s args own C index y bytes maxL ret wz rm 0 0 n)
    (hP : va_P D vwCl ws H) (hK : va_K D vwCl tys s) (hD : va_D A ws) (hS : va_S A s.heap H locs) (hA : ∀ q, s.heap.size ≤ q → A q) (hG : GP zE A s s.heap) (q0 ci : Nat) (hcl : vwCl[ci]? = some cq) (hCe : cq.1 = C) (hb0 : ws[q0]? = some (b, .inr (ci, fs)))
    (hAs : As.length = n) (hsize : ls.size = nL) (hst : st0 = As.reverse ++ .ref b :: rest) (hW : (rest.map fun v => v.category).sum ≤ 8) (hdg : decode cc pc = .ok (.invokevirtual index, 3)) (hroom : cells + 0 ≤ R.cells ∧ slots + 0 ≤ R.slots) (he : ∀ u, (w1 u).map Prod.fst = ws.map Prod.fst)
    (kk : ∀ (u : S) (H1 : Heap) (locs1 : List Loc), φ u → va_P D vwCl (w1 u) H1 → va_D A (w1 u) → va_S A s.heap H1 locs1 → W p l e R s m args below meth c H1 locs1 cells slots Q (F0 m (pc + 3) ls (zi (g u) :: rest))) : W p l e R s m args below meth c H locs cells slots Q (F0 m pc ls st0) := by
  have hF := hz_freeW hD hS hA
  refine va_calli (va_runV (As := As) (rest := rest) fx hM cw ⟨hz_blindG, by rw [← hCe]; exact va_recv hK hP hcl hb0, hz_preWG hP hK hD hS hA hG⟩ rfl hAs hsize hst (lv_room hW) hdg hroom) hS (fun q _ h => hF q h) hF (fun r u t H1 locs1 ht hvm hw hB hz1 hk1 hS1 => ?_)
  obtain ⟨rfl, hφ⟩ := hw
  rw [ht] at hB
  exact kk u H1 locs1 hφ hB (hz_Dc hD (he u)) hS1
theorem hz_callWvG {S : Type} {φ : S → Prop} {w1 : S → va_W} (fx : CallFix p m c cc nL s args Ts own) (hM : Met l y wz rm (va_Pc (.ref b :: As) (HPreG zE D tys ws H.size)) (va_Qv φ (fun u t => va_P D vwCl (w1 u) t.heap) (va_A ws H.size)) 0 0 (va_A ws H.size)) (cw : CallW R s args own C index y bytes maxL ret wz rm 0 0 n)
    (hP : va_P D vwCl ws H) (hK : va_K D vwCl tys s) (hD : va_D A ws) (hS : va_S A s.heap H locs) (hA : ∀ q, s.heap.size ≤ q → A q) (hG : GP zE A s s.heap) (q0 ci : Nat) (hcl : vwCl[ci]? = some cq) (hCe : cq.1 = C) (hb0 : ws[q0]? = some (b, .inr (ci, fs)))
    (hAs : As.length = n) (hsize : ls.size = nL) (hst : st0 = As.reverse ++ .ref b :: rest) (hW : (rest.map fun v => v.category).sum ≤ 8) (hdg : decode cc pc = .ok (.invokevirtual index, 3)) (hroom : cells + 0 ≤ R.cells ∧ slots + 0 ≤ R.slots) (he : ∀ u, (w1 u).map Prod.fst = ws.map Prod.fst)
    (kk : ∀ (u : S) (H1 : Heap) (locs1 : List Loc), φ u → va_P D vwCl (w1 u) H1 → va_D A (w1 u) → va_S A s.heap H1 locs1 → W p l e R s m args below meth c H1 locs1 cells slots Q (F0 m (pc + 3) ls rest)) : W p l e R s m args below meth c H locs cells slots Q (F0 m pc ls st0) := by
  have hF := hz_freeW hD hS hA
  refine va_callv (va_runV (As := As) (rest := rest) fx hM cw ⟨hz_blindG, by rw [← hCe]; exact va_recv hK hP hcl hb0, hz_preWG hP hK hD hS hA hG⟩ rfl hAs hsize hst (lv_room hW) hdg hroom) hS (fun q _ h => hF q h) hF (fun u t H1 locs1 ht hvm hw hB hz1 hk1 hS1 => ?_)
  rw [ht] at hB
  exact kk u H1 locs1 hw hB (hz_Dc hD (he u)) hS1
theorem hz_callRiG {z : Int} (fx : CallFix p m c cc nL s args Ts own) (hM : Met l y wz rm (va_Pc (.ref b :: As) (HPrG zE D tys ws)) (vp_Si (fun r => r = zI z)) 0 0 (fun _ => False)) (cw : CallW R s args own C index y bytes maxL ret wz rm 0 0 n)
    (hP : va_P D vwCl ws H) (hK : va_K D vwCl tys s) (hS : va_S A s.heap H locs) (hG : GP zE A s s.heap) (q0 ci : Nat) (hcl : vwCl[ci]? = some cq) (hCe : cq.1 = C) (hb0 : ws[q0]? = some (b, .inr (ci, fs)))
    (hAs : As.length = n) (hsize : ls.size = nL) (hst : st0 = As.reverse ++ .ref b :: rest) (hW : (rest.map fun v => v.category).sum ≤ 8) (hdg : decode cc pc = .ok (.invokevirtual index, 3)) (hroom : cells + 0 ≤ R.cells ∧ slots + 0 ≤ R.slots)
    (kk : W p l e R s m args below meth c H locs cells slots Q (F0 m (pc + 3) ls (zi z :: rest))) : W p l e R s m args below meth c H locs cells slots Q (F0 m pc ls st0) :=
  vp_callSi (va_runV (As := As) (rest := rest) fx hM cw ⟨hz_blindRG, by rw [← hCe]; exact va_recv hK hP hcl hb0, fun U hU hW => ⟨rfl, ⟨by rw [hU]; exact hP, va_K.moved hW.alike hK⟩, hG.call hS (fun q h => h.elim) hU hW⟩⟩ rfl hAs hsize hst (lv_room hW) hdg hroom).run (fun r hr => by rw [hr]; exact kk)
theorem hz_callSNi {z : Int} {host : String} (fx : CallFix p m c cc nL s args Ts own) (hM : Met l y wz rm (va_Pc As (fun _ => True)) (vp_Si (fun r => r = zI z)) 0 0 (fun _ => False)) (cw : va_CN R s args own index y host bytes maxL ret wz rm 0 0 n ∧ (Cond.static y).before args s = true ∧ True)
    (hAs : As.length = n) (hsize : ls.size = nL) (hst : st0 = As.reverse ++ rest) (hW : (rest.map fun v => v.category).sum ≤ 8) (hdg : decode cc pc = .ok (.invokestatic index, 3)) (hroom : cells + 0 ≤ R.cells ∧ slots + 0 ≤ R.slots)
    (kk : W p l e R s m args below meth c H locs cells slots Q (F0 m (pc + 3) ls (zi z :: rest))) : W p l e R s m args below meth c H locs cells slots Q (F0 m pc ls st0) :=
  vp_callSi (va_runSN (As := As) (rest := rest) fx hM cw ⟨fun a U g mk q => q, fun U hU hW => ⟨rfl, trivial⟩⟩ rfl hAs hsize hst (lv_room hW) hdg hroom).run (fun r hr => by rw [hr]; exact kk)
theorem hz_str {t : Nat} (hx : p.tables.exec = Jvm.exec) (hb : c.code = cc) (hT : va_T .int t 24 (fun j => zi (strZ (j : Int))) A s s.heap) (hS : va_S A s.heap H locs) {i : Int} (hi : 0 ≤ i ∧ i < 24) (hdg : decode cc pc = .ok (.iaload, 1))
    (kk : W p l e R s m args below meth c H locs cells slots Q (F0 m (pc + 1) ls (zi (strZ i) :: rest))) : W p l e R s m args below meth c H locs cells slots Q (F0 m pc ls (zi i :: .ref t :: rest)) :=
  va_ti hx hb hT hS (zI_in (n := 24) (by omega) (by omega)) (v := zi (strZ i)) (by show zi (strZ ((zI i).toNatClampNeg : Int)) = _; rw [zI_cl (by omega)]) hdg kk
theorem hz_aald (hx : p.tables.exec = Jvm.exec) (hb : c.code = cc) (hK : va_K D vwCl tys s) (hP : va_P D vwCl ws H) (q0 t0 : Nat) {a : Nat} {cA : ClassId} {N x : Nat} {f : Nat → Option Nat} (ha : ws[q0]? = some (a, .inl (cA, N, .inr (.inr (.inr (.inr f)))))) (ht : tys[t0]? = some (cA, .object "java/lang/Object")) {i : Int} (hn : N ≤ 2147483648) (hi : 0 ≤ i ∧ i < N) (hf : f i.toNat = some x) (hdg : decode cc pc = .ok (.aaload, 1))
    (kk : W p l e R s m args below meth c H locs cells slots Q (F0 m (pc + 1) ls (.ref x :: rest))) : W p l e R s m args below meth c H locs cells slots Q (F0 m pc ls (zi i :: .ref a :: rest)) := by
  refine va_aldq hx hb hK hP q0 t0 ha ht (zI_in hi hn) hdg ?_
  have e1 : (zI i).toNatClampNeg = i.toNat := by
    have := zI_cl (i := i) (by omega)
    omega
  rw [e1, hf]
  exact kk
end HG
theorem hz_ofWG {l : Launch} {y : MethodName} {wz ws' : List Cond} {rm : Room} {av : List Value} {zE : Nat} {D : va_G} {tys : List (ClassId × FieldType)} {w : va_W} {sz mc ms : Nat} {Qf : (Nat → Prop) → Array Value → State → Outcome → State → Prop} {cc : ByteArray} {maxL : Nat} {ret : Option FieldType} (hy : plainName y.cls = true) (hw : wz = Cond.code y cc maxL ret :: ws') (hle : (lg_sl av).length ≤ maxL)
    (body : ∀ (p : Program) (e : Env) (s : State) (m : MethodId) (below : List Frame) (meth : Method) (c : Code) (A : Nat → Prop) (ls : Array Slot), p.tables.exec = Jvm.exec → c.code = cc → meth.sig.returnType = ret → (∀ w ∈ wz, w.before av.toArray s = true) → s.vm.findClass y.cls = some m.cls → meth.name = y.name → meth.locks = false → c.maxLocals = maxL → va_P D vwCl w s.heap → va_K D vwCl tys s → (∀ q, s.heap.size ≤ q → A q) → va_D A w → va_S A s.heap s.heap [] → GP zE A s s.heap → lv_has ls maxL (lv_args 0 av) →
      W p l e (headSpec wz rm).room s m av.toArray below meth c s.heap [] 0 0 (MQ below (Qf A) av.toArray s mc ms A) (F0 m 0 ls [])) : Met l y wz rm (va_Pc av (HPreG zE D tys w sz)) (Qf (va_A w sz)) mc ms (va_A w sz) := by
  refine Met.ofW (cc := cc) (maxL := maxL) (ret := ret) hy hw ?_
  intro p e s m args below meth c s₁ B hml hv
  obtain ⟨rfl, ⟨hsz, hP, hK, hD0⟩, hG⟩ := hv
  have hts := atoms_spec (ws := wz) B.pre
  have hown : s.vm.findClass y.cls = some m.cls := findClass_of_methodNamed B.named
  have hin : meth.name = y.name := (name_of_methodNamed B.named B.method).1
  subst hsz
  have hl := lv_entry av (n := maxL) hle
  rw [lg_entry_eq]
  exact body p e s m below meth c _ _ B.exec B.bytes B.returns hts hown hin B.notSynchronized hml hP hK (fun q h => Or.inr h) hD0.self va_S.rf hG hl
theorem hz_ofRG {l : Launch} {y : MethodName} {wz ws' : List Cond} {rm : Room} {av : List Value} {zE : Nat} {D : va_G} {tys : List (ClassId × FieldType)} {w : va_W} {Qf : Array Value → State → Outcome → State → Prop} {cc : ByteArray} {maxL : Nat} {ret : Option FieldType} (hy : plainName y.cls = true) (hw : wz = Cond.code y cc maxL ret :: ws') (hle : (lg_sl av).length ≤ maxL)
    (body : ∀ (p : Program) (e : Env) (s : State) (m : MethodId) (below : List Frame) (meth : Method) (c : Code) (A : Nat → Prop) (ls : Array Slot), A = (fun _ => False) → p.tables.exec = Jvm.exec → c.code = cc → meth.sig.returnType = ret → (∀ w ∈ wz, w.before av.toArray s = true) → s.vm.findClass y.cls = some m.cls → meth.locks = false → c.maxLocals = maxL → va_P D vwCl w s.heap → va_K D vwCl tys s → va_S A s.heap s.heap [] → GP zE A s s.heap → lv_has ls maxL (lv_args 0 av) →
      W p l e (headSpec wz rm).room s m av.toArray below meth c s.heap [] 0 0 (MQ below Qf av.toArray s 0 0 (fun _ => False)) (F0 m 0 ls [])) : Met l y wz rm (va_Pc av (HPrG zE D tys w)) Qf 0 0 (fun _ => False) := by
  refine Met.ofW (cc := cc) (maxL := maxL) (ret := ret) hy hw ?_
  intro p e s m args below meth c s₁ B hml hv
  obtain ⟨rfl, ⟨hP, hK⟩, hG⟩ := hv
  have hts := atoms_spec (ws := wz) B.pre
  have hown : s.vm.findClass y.cls = some m.cls := findClass_of_methodNamed B.named
  have hl := lv_entry av (n := maxL) hle
  rw [lg_entry_eq]
  exact body p e s m below meth c _ _ rfl B.exec B.bytes B.returns hts hown B.notSynchronized hml hP hK va_S.rf hG hl
