/-! p34's rows: calls out of the law, over the class's world and the law's row d -/
def GN (U : State) : Prop := va_Nc XA XS U
theorem GN.moved {s U : State} (h : GN s) (hal : s.vm.Alike U.vm) : GN U := va_Nc.moved hal h
abbrev HPreL (mi zE : Nat) (D : va_G) (tys : List (ClassId × FieldType)) (ws : va_W) (sz : Nat) : State → Prop := fun U => HPreX mi zE D tys ws sz (fun _ => False) U ∧ GN U
abbrev XN0 : String → State → State → Prop := vx_X (fun (_ : Unit) => False) (fun _ _ _ => False) (fun _ => False)
theorem hz_blindL {av : List Value} {mi zE : Nat} {D : va_G} {tys : List (ClassId × FieldType)} {ws : va_W} {sz : Nat} : FrameBlind (va_Pc av (HPreL mi zE D tys ws sz)) := fun a U g mk q => by
  obtain ⟨q0, q1, q2⟩ := q
  have h := hz_blindY (av := av) (mi := mi) (zE := zE) (D := D) (tys := tys) (ws := ws) (sz := sz) (L := fun _ => False) a U g mk ⟨q0, q1⟩
  exact ⟨h.1, h.2, q2.moved (s := U) (U := U.calling g mk a) (Vm.Alike.refl U.vm)⟩
theorem dW_at {w : va_W} {o0 : Nat} {y : Nat → ClassId} {d : Int → Int} : (w ++ dW o0 y d)[w.length]? = some (o0, .inl (y 0, 29, .inl (IA d))) := by
  rw [List.getElem?_append_right (Nat.le_refl _), Nat.sub_self]
  rfl
theorem dW_set {w : va_W} {o0 : Nat} {y : Nat → ClassId} {d : Int → Int} {x : Nat × va_E} : (w ++ dW o0 y d).set w.length x = w ++ [x] := by
  rw [List.set_append_right _ _ (Nat.le_refl _), Nat.sub_self]
  rfl
theorem hz_ca {zE : Nat} {A : Nat → Prop} {s : State} {args : Array Value} {w : Cond} (hG : GP zE A s s.heap) (h : w ∈ xwL) : w.before args s = true := va_tabs (xwL_o w h) rfl (hG.2.2.2.2.2.2 w h)
theorem zL_lt {a b : Int} (h : (-9223372036854775808 ≤ a ∧ a < 9223372036854775808) ∧ -9223372036854775808 ≤ b ∧ b < 9223372036854775808) : zL a < zL b ↔ a < b := by
  rw [Int64.lt_iff_toInt_lt, zL_toInt h.1, zL_toInt h.2]
theorem lg_z {a b : Int} (h : (-9223372036854775808 ≤ a ∧ a < 9223372036854775808) ∧ -9223372036854775808 ≤ b ∧ b < 9223372036854775808) : lg_cmp (zL a) (zL b) = zI (if b < a then 1 else if a = b then 0 else -1) := by
  unfold lg_cmp
  by_cases h1 : b < a
  · rw [if_pos h1, if_pos ((zL_lt ⟨h.2, h.1⟩).mpr h1)]; rfl
  · rw [if_neg h1, if_neg (fun q => h1 ((zL_lt ⟨h.2, h.1⟩).mp q))]
    by_cases h2 : a = b
    · rw [if_pos h2, if_pos (by rw [h2])]; rfl
    · rw [if_neg h2, if_neg (fun q => h2 ((zL_eq h).mp q))]; rfl
theorem iand_m (x : Int) : ∃ z : Int, (0 ≤ z ∧ z < 2147483648) ∧ zI x &&& zI 2147483647 = zI z := by
  obtain ⟨z, hz, e⟩ := zI_of (zI x &&& zI 2147483647)
  refine ⟨z, ⟨?_, hz.2⟩, e⟩
  have e2 : (zI x &&& zI 2147483647).toInt = z := by rw [e]; exact zI_toInt hz
  rw [← e2]
  have e3 : (zI x &&& zI 2147483647).toBitVec.msb = false := by
    rw [Int32.toBitVec_and, BitVec.msb_and]
    have : (zI 2147483647).toBitVec.msb = false := by decide
    rw [this, Bool.and_false]
  show 0 ≤ (zI x &&& zI 2147483647).toBitVec.toInt
  rw [BitVec.toInt_eq_msb_cond, e3]
  show (0 : Int) ≤ (((zI x &&& zI 2147483647).toBitVec.toNat : Nat) : Int)
  omega
section MO
variable {l : Launch} {y : MethodName} {ws : List Cond} {rm : Room} {Pc Pc' : Array Value → State → Prop} {Qc Qc' : Array Value → State → Outcome → State → Prop} {XC : String → State → State → Prop} {mc ms : Nat} {free : Addr → Prop}
/-- a callee that can't throw here -/
theorem met_of (h : vx_Met l y ws rm Pc Qc XC mc ms free) (hX : ∀ E st t, ¬ XC E st t) (hQ : ∀ a st o t, Pc a st → Qc a st o t → Qc' a st o t) : Met l y ws rm Pc Qc' mc ms free :=
  MetFree.mono h (fun _ _ q => q) (fun _ _ _ _ _ q => q) (fun a st o t hp q => by
    rcases q with ⟨q1, q2⟩ | ⟨q, -, E, ce, L, hx, -⟩
    · exact ⟨hQ a st o t hp q1, q2⟩
    · exact absurd hx (hX E st t))
theorem met_mo (h : Met l y ws rm Pc Qc mc ms free) (hQ : ∀ a st o t, Pc a st → Qc a st o t → Qc' a st o t) : Met l y ws rm Pc Qc' mc ms free :=
  MetFree.mono h (fun _ _ q => q) (fun _ _ _ _ _ q => q) (fun a st o t hp q => ⟨hQ a st o t hp q.1, q.2⟩)
theorem met_pre (h : Met l y ws rm Pc Qc mc ms free) (hP : ∀ a st, Pc' a st → Pc a st) : Met l y ws rm Pc' Qc mc ms free :=
  MetFree.mono h hP (fun _ _ _ _ _ q => q) (fun _ _ _ _ _ q => q)
end MO
section HL34
variable {p : Program} {l : Launch} {e : Env} {R : Room} {s : State} {m : MethodId} {args : Array Value} {below : List Frame} {meth : Method} {c : Code} {H : Heap} {locs : List Loc} {cells slots : Nat} {Q : State → Prop}
variable {cc bytes : ByteArray} {pc nL maxL index n : Nat} {ls : Array Slot} {rest st0 As : List Value} {D : va_G} {A : Nat → Prop} {b zE mi : Nat} {tys : List (ClassId × FieldType)} {wc wr ws : va_W} {Ts wz : List Cond} {own C : String} {y : MethodName} {ret : Option FieldType} {rm : Room} {cq : vw_C} {fs : List Value} {mc ms : Nat}
theorem hz_dld (hx : p.tables.exec = Jvm.exec) (hb : c.code = cc) {y : Nat → ClassId} (hK : va_K D vwCl (tyL y) s) {o0 : Nat} {d : Int → Int} (hP : va_P D vwCl (wc ++ dW o0 y d) H) {i : Int} (hi : 0 ≤ i ∧ i < 29) (hdg : decode cc pc = .ok (.iaload, 1))
    (kk : W p l e R s m args below meth c H locs cells slots Q (F0 m (pc + 1) ls (zi (d i) :: rest))) : W p l e R s m args below meth c H locs cells slots Q (F0 m pc ls (zi i :: .ref o0 :: rest)) := hz_iald (f := d) hx hb hK hP wc.length 0 dW_at rfl (by omega) hi hdg kk
theorem hz_dst (hx : p.tables.exec = Jvm.exec) (hb : c.code = cc) {y : Nat → ClassId} (hK : va_K D vwCl (tyL y) s) {o0 : Nat} {d : Int → Int} {H0 : Heap} (hP : va_P D vwCl (wc ++ dW o0 y d) H) (hD : va_D A (wc ++ dW o0 y d)) (hS : va_S A H0 H locs) {i v : Int} (hi : 0 ≤ i ∧ i < 29) (hdg : decode cc pc = .ok (.iastore, 1))
    (kk : ∀ (H1 : Heap) (locs1 : List Loc), va_P D vwCl (wc ++ dW o0 y (upZ d i v)) H1 → va_D A (wc ++ dW o0 y (upZ d i v)) → va_S A H0 H1 locs1 → W p l e R s m args below meth c H1 locs1 cells slots Q (F0 m (pc + 1) ls rest)) : W p l e R s m args below meth c H locs cells slots Q (F0 m pc ls (zi v :: zi i :: .ref o0 :: rest)) := by
  refine hz_iast (f := d) hx hb hK hP hD hS wc.length 0 dW_at rfl (by omega) hi hdg (fun H1 locs1 hP1 hD1 hS1 => ?_)
  rw [dW_set] at hP1 hD1
  exact kk H1 locs1 hP1 hD1 hS1
theorem hz_lcmp3 (hx : p.tables.exec = Jvm.exec) (hb : c.code = cc) {a b : Int} (h : (-9223372036854775808 ≤ a ∧ a < 9223372036854775808) ∧ -9223372036854775808 ≤ b ∧ b < 9223372036854775808) (hdg : decode cc pc = .ok (.lcmp, 1)) (kk : W p l e R s m args below meth c H locs cells slots Q (F0 m (pc + 1) ls (zi (if b < a then 1 else if a = b then 0 else -1) :: rest))) : W p l e R s m args below meth c H locs cells slots Q (F0 m pc ls (zl b :: zl a :: rest)) := by
  refine W.lcmp hx hb hdg ?_
  rw [lg_z h]
  exact kk
/-- the class is called, and can't throw: what it makes is not of its world -/
theorem hz_cI {S : Type} {g : S → Int} {φ : S → Prop} {w1 : S → va_W} (fx : CallFix p m c cc nL s args Ts own) (hM : Met l y wz rm (va_Pc (.ref b :: As) (HPreG zE D tys wc H.size)) (QXi D g φ w1 (va_A wc H.size)) mc ms (va_A wc H.size)) (cw : CallW R s args own C index y bytes maxL ret wz rm mc ms n)
    (hP : va_P D vwCl (wc ++ wr) H) (hK : va_K D vwCl tys s) (hD : va_D A (wc ++ wr)) (hS : va_S A s.heap H locs) (hA : ∀ q, s.heap.size ≤ q → A q) (hG : GP zE A s s.heap) (q0 ci : Nat) (hcl : vwCl[ci]? = some cq) (hCe : cq.1 = C) (hb0 : wc[q0]? = some (b, .inr (ci, fs)))
    (hAs : As.length = n) (hsize : ls.size = nL) (hst : st0 = As.reverse ++ .ref b :: rest) (hW : (rest.map fun v => v.category).sum ≤ 8) (hdg : decode cc pc = .ok (.invokevirtual index, 3)) (hroom : cells + mc ≤ R.cells ∧ slots + ms ≤ R.slots) (he : ∀ u, (w1 u).map Prod.fst = wc.map Prod.fst)
    (kk : ∀ (u : S) (H : Heap) (locs : List Loc), φ u → va_P D vwCl (w1 u ++ wr) H → va_D A (w1 u ++ wr) → va_S A s.heap H locs → W p l e R s m args below meth c H locs (cells + mc) (slots + ms) Q (F0 m (pc + 3) ls (zi (g u) :: rest))) : W p l e R s m args below meth c H locs cells slots Q (F0 m pc ls st0) := by
  have hF := hz_freeP hD hS hA
  refine va_calli (va_runV (As := As) (rest := rest) fx hM cw ⟨hz_blindG, by rw [← hCe]; exact va_recv hK (hz_Pl hP) hcl hb0, hz_preWG (hz_Pl hP) hK (hz_Dl1 hD) hS hA hG⟩ rfl hAs hsize hst (lv_room hW) hdg hroom) hS (fun q _ h => hF q h) hF (fun r u t H1 locs1 ht hvm hw hB hz1 hk1 hS1 => ?_)
  obtain ⟨rfl, hφ⟩ := hw
  rw [ht] at hB
  have h9 := hz_joinV hP hD hk1 hF hB (he u)
  exact kk u H1 locs1 hφ h9.1 h9.2 hS1
theorem hz_cL {S : Type} {g : S → Int} {φ : S → Prop} {w1 : S → va_W} (fx : CallFix p m c cc nL s args Ts own) (hM : Met l y wz rm (va_Pc (.ref b :: As) (HPreG zE D tys wc H.size)) (QXl D g φ w1 (va_A wc H.size)) mc ms (va_A wc H.size)) (cw : CallW R s args own C index y bytes maxL ret wz rm mc ms n)
    (hP : va_P D vwCl (wc ++ wr) H) (hK : va_K D vwCl tys s) (hD : va_D A (wc ++ wr)) (hS : va_S A s.heap H locs) (hA : ∀ q, s.heap.size ≤ q → A q) (hG : GP zE A s s.heap) (q0 ci : Nat) (hcl : vwCl[ci]? = some cq) (hCe : cq.1 = C) (hb0 : wc[q0]? = some (b, .inr (ci, fs)))
    (hAs : As.length = n) (hsize : ls.size = nL) (hst : st0 = As.reverse ++ .ref b :: rest) (hW : (rest.map fun v => v.category).sum ≤ 8) (hdg : decode cc pc = .ok (.invokevirtual index, 3)) (hroom : cells + mc ≤ R.cells ∧ slots + ms ≤ R.slots) (he : ∀ u, (w1 u).map Prod.fst = wc.map Prod.fst)
    (kk : ∀ (u : S) (H : Heap) (locs : List Loc), φ u → va_P D vwCl (w1 u ++ wr) H → va_D A (w1 u ++ wr) → va_S A s.heap H locs → W p l e R s m args below meth c H locs (cells + mc) (slots + ms) Q (F0 m (pc + 3) ls (zl (g u) :: rest))) : W p l e R s m args below meth c H locs cells slots Q (F0 m pc ls st0) := by
  have hF := hz_freeP hD hS hA
  refine va_calll (va_runV (As := As) (rest := rest) fx hM cw ⟨hz_blindG, by rw [← hCe]; exact va_recv hK (hz_Pl hP) hcl hb0, hz_preWG (hz_Pl hP) hK (hz_Dl1 hD) hS hA hG⟩ rfl hAs hsize hst (lv_room hW) hdg hroom) hS (fun q _ h => hF q h) hF (fun r u t H1 locs1 ht hvm hw hB hz1 hk1 hS1 => ?_)
  obtain ⟨rfl, hφ⟩ := hw
  rw [ht] at hB
  have h9 := hz_joinV hP hD hk1 hF hB (he u)
  exact kk u H1 locs1 hφ h9.1 h9.2 hS1
theorem hz_cF {S : Type} {g : UInt32} {φ : S → Prop} {w1 : S → va_W} (fx : CallFix p m c cc nL s args Ts own) (hM : Met l y wz rm (va_Pc (.ref b :: As) (HPreG zE D tys wc H.size)) (va_Qf (fun (r : UInt32) (u : S) => r = g ∧ φ u) (fun u t => va_P D vwCl (w1 u) t.heap) (va_A wc H.size)) mc ms (va_A wc H.size)) (cw : CallW R s args own C index y bytes maxL ret wz rm mc ms n)
    (hP : va_P D vwCl (wc ++ wr) H) (hK : va_K D vwCl tys s) (hD : va_D A (wc ++ wr)) (hS : va_S A s.heap H locs) (hA : ∀ q, s.heap.size ≤ q → A q) (hG : GP zE A s s.heap) (q0 ci : Nat) (hcl : vwCl[ci]? = some cq) (hCe : cq.1 = C) (hb0 : wc[q0]? = some (b, .inr (ci, fs)))
    (hAs : As.length = n) (hsize : ls.size = nL) (hst : st0 = As.reverse ++ .ref b :: rest) (hW : (rest.map fun v => v.category).sum ≤ 8) (hdg : decode cc pc = .ok (.invokevirtual index, 3)) (hroom : cells + mc ≤ R.cells ∧ slots + ms ≤ R.slots) (he : ∀ u, (w1 u).map Prod.fst = wc.map Prod.fst)
    (kk : ∀ (u : S) (H : Heap) (locs : List Loc), φ u → va_P D vwCl (w1 u ++ wr) H → va_D A (w1 u ++ wr) → va_S A s.heap H locs → W p l e R s m args below meth c H locs (cells + mc) (slots + ms) Q (F0 m (pc + 3) ls (.float g :: rest))) : W p l e R s m args below meth c H locs cells slots Q (F0 m pc ls st0) := by
  have hF := hz_freeP hD hS hA
  refine va_callf (va_runV (As := As) (rest := rest) fx hM cw ⟨hz_blindG, by rw [← hCe]; exact va_recv hK (hz_Pl hP) hcl hb0, hz_preWG (hz_Pl hP) hK (hz_Dl1 hD) hS hA hG⟩ rfl hAs hsize hst (lv_room hW) hdg hroom) hS (fun q _ h => hF q h) hF (fun r u t H1 locs1 ht hvm hw hB hz1 hk1 hS1 => ?_)
  obtain ⟨rfl, hφ⟩ := hw
  rw [ht] at hB
  have h9 := hz_joinV hP hD hk1 hF hB (he u)
  exact kk u H1 locs1 hφ h9.1 h9.2 hS1
theorem hz_cV {S : Type} {φ : S → Prop} {w1 : S → va_W} (fx : CallFix p m c cc nL s args Ts own) (hM : Met l y wz rm (va_Pc (.ref b :: As) (HPreG zE D tys wc H.size)) (QXv D φ w1 (va_A wc H.size)) mc ms (va_A wc H.size)) (cw : CallW R s args own C index y bytes maxL ret wz rm mc ms n)
    (hP : va_P D vwCl (wc ++ wr) H) (hK : va_K D vwCl tys s) (hD : va_D A (wc ++ wr)) (hS : va_S A s.heap H locs) (hA : ∀ q, s.heap.size ≤ q → A q) (hG : GP zE A s s.heap) (q0 ci : Nat) (hcl : vwCl[ci]? = some cq) (hCe : cq.1 = C) (hb0 : wc[q0]? = some (b, .inr (ci, fs)))
    (hAs : As.length = n) (hsize : ls.size = nL) (hst : st0 = As.reverse ++ .ref b :: rest) (hW : (rest.map fun v => v.category).sum ≤ 8) (hdg : decode cc pc = .ok (.invokevirtual index, 3)) (hroom : cells + mc ≤ R.cells ∧ slots + ms ≤ R.slots) (he : ∀ u, (w1 u).map Prod.fst = wc.map Prod.fst)
    (kk : ∀ (u : S) (H : Heap) (locs : List Loc), φ u → va_P D vwCl (w1 u ++ wr) H → va_D A (w1 u ++ wr) → va_S A s.heap H locs → W p l e R s m args below meth c H locs (cells + mc) (slots + ms) Q (F0 m (pc + 3) ls rest)) : W p l e R s m args below meth c H locs cells slots Q (F0 m pc ls st0) := by
  have hF := hz_freeP hD hS hA
  refine va_callv (va_runV (As := As) (rest := rest) fx hM cw ⟨hz_blindG, by rw [← hCe]; exact va_recv hK (hz_Pl hP) hcl hb0, hz_preWG (hz_Pl hP) hK (hz_Dl1 hD) hS hA hG⟩ rfl hAs hsize hst (lv_room hW) hdg hroom) hS (fun q _ h => hF q h) hF (fun u t H1 locs1 ht hvm hw hB hz1 hk1 hS1 => ?_)
  rw [ht] at hB
  have h9 := hz_joinV hP hD hk1 hF hB (he u)
  exact kk u H1 locs1 hw h9.1 h9.2 hS1
/-- the same, where the world behind is told whole -/
theorem hz_cN {S : Type} {post : Int32 → S → Prop} {w1 : S → va_W} (fx : CallFix p m c cc nL s args Ts own) (hM : Met l y wz rm (va_Pc (.ref b :: As) (HPreG zE D tys wc H.size)) (va_Qi post (fun u t => va_P D vwCl (w1 u) t.heap ∧ va_D (va_A wc H.size) (w1 u)) (va_A wc H.size)) mc ms (va_A wc H.size)) (cw : CallW R s args own C index y bytes maxL ret wz rm mc ms n)
    (hP : va_P D vwCl (wc ++ wr) H) (hK : va_K D vwCl tys s) (hD : va_D A (wc ++ wr)) (hS : va_S A s.heap H locs) (hA : ∀ q, s.heap.size ≤ q → A q) (hG : GP zE A s s.heap) (q0 ci : Nat) (hcl : vwCl[ci]? = some cq) (hCe : cq.1 = C) (hb0 : wc[q0]? = some (b, .inr (ci, fs)))
    (hAs : As.length = n) (hsize : ls.size = nL) (hst : st0 = As.reverse ++ .ref b :: rest) (hW : (rest.map fun v => v.category).sum ≤ 8) (hdg : decode cc pc = .ok (.invokevirtual index, 3)) (hroom : cells + mc ≤ R.cells ∧ slots + ms ≤ R.slots)
    (kk : ∀ (r : Int32) (u : S) (H : Heap) (locs : List Loc), post r u → va_P D vwCl (w1 u ++ wr) H → va_D A (w1 u ++ wr) → va_S A s.heap H locs → W p l e R s m args below meth c H locs (cells + mc) (slots + ms) Q (F0 m (pc + 3) ls (.int r :: rest))) : W p l e R s m args below meth c H locs cells slots Q (F0 m pc ls st0) := by
  have hF := hz_freeP hD hS hA
  refine va_calli (va_runV (As := As) (rest := rest) fx hM cw ⟨hz_blindG, by rw [← hCe]; exact va_recv hK (hz_Pl hP) hcl hb0, hz_preWG (hz_Pl hP) hK (hz_Dl1 hD) hS hA hG⟩ rfl hAs hsize hst (lv_room hW) hdg hroom) hS (fun q _ h => hF q h) hF (fun r u t H1 locs1 ht hvm hw hB hz1 hk1 hS1 => ?_)
  rw [ht] at hB
  obtain ⟨hP1, hD1⟩ := hz_joinP hP hD hk1 hF hB.1 hB.2
  exact kk r u H1 locs1 hw hP1 hD1 hS1
/-- the class makes a thing of its world; it may throw -/
theorem hz_callXn {S SX : Type} {post : Int32 → S → Prop} {w1 : S → va_W} {ψ : String → SX → Prop} {wX : SX → va_W} (fx : CallFix p m c cc nL s args Ts own) (hM : vx_Met l y wz rm (va_Pc (.ref b :: As) (HPreX mi zE D tys ws H.size (fun _ => False))) (va_Qi post (fun u t => va_P D vwCl (w1 u) t.heap ∧ va_D (va_A ws H.size) (w1 u)) (va_A ws H.size)) (XXw D ψ wX (va_A ws H.size)) mc ms (va_A ws H.size)) (cw : CallW R s args own C index y bytes maxL ret wz rm mc ms n)
    (hP : va_P D vwCl ws H) (hK : va_K D vwCl tys s) (hD : va_D A ws) (hS : va_S A s.heap H locs) (hA : ∀ q, s.heap.size ≤ q → A q) (hG : GP zE A s s.heap) (hX : GX mi s) (q0 ci : Nat) (hcl : vwCl[ci]? = some cq) (hCe : cq.1 = C) (hb0 : ws[q0]? = some (b, .inr (ci, fs)))
    (hAs : As.length = n) (hsize : ls.size = nL) (hst : st0 = As.reverse ++ .ref b :: rest) (hW : (rest.map fun v => v.category).sum ≤ 8) (hdg : decode cc pc = .ok (.invokevirtual index, 3)) (hroom : cells + mc ≤ R.cells ∧ slots + ms ≤ R.slots)
    (kx : ∀ (E : String) (u : SX), ψ E u → ∀ (ce : Cell) (q9 : Addr) (H1 : Heap) (locs1 : List Loc), va_P D vwCl (wX u) H1 → va_S A s.heap H1 locs1 → H1[q9]? = some ce → ce.vm = .none → s.vm.findClass E = some ce.cls → vx_W p l e R s m args below meth c H1 locs1 (cells + mc) (slots + ms) Q (F0 m pc ls rest) q9)
    (kk : ∀ (r : Int32) (u : S) (H : Heap) (locs : List Loc), post r u → va_P D vwCl (w1 u) H → va_D A (w1 u) → va_S A s.heap H locs → W p l e R s m args below meth c H locs (cells + mc) (slots + ms) Q (F0 m (pc + 3) ls (.int r :: rest))) : W p l e R s m args below meth c H locs cells slots Q (F0 m pc ls st0) := by
  have hP0 : va_P D vwCl (ws ++ []) H := by rw [List.append_nil]; exact hP
  have hD0 : va_D A (ws ++ []) := by rw [List.append_nil]; exact hD
  have hF := hz_freeP hD0 hS hA
  refine vx_calli (vx_runV (As := As) (rest := rest) fx hM cw ⟨hz_blindY, by rw [← hCe]; exact va_recv hK hP hcl hb0, hz_preXP hP0 hK hD0 hS hA hG hX (fun x h => h.elim)⟩ rfl hAs hsize hst (lv_room hW) hdg hroom) hS (fun q _ h => hF q h) hF (fun q _ h => hF q h) (fun E1 ce q9 u t H1 locs1 ht hvm _ hB hz1 hk1 hS1 hce hcv hcl => ?_) (fun r u t H1 locs1 ht hvm hw hB hz1 hk1 hS1 => ?_)
  · obtain ⟨h1, h2⟩ := hB
    rw [ht] at h2
    exact kx E1 u h1 ce q9 H1 locs1 h2 hS1 hce hcv hcl
  · rw [ht] at hB
    obtain ⟨hP1, hD1⟩ := hz_joinP hP0 hD0 hk1 hF hB.1 hB.2
    rw [List.append_nil] at hP1 hD1
    exact kk r u H1 locs1 hw hP1 hD1 hS1
theorem hz_preLP {av : List Value} (hP : va_P D vwCl (wc ++ wr) H) (hK : va_K D vwCl tys s) (hD : va_D A (wc ++ wr)) (hS : va_S A s.heap H locs) (hA : ∀ q, s.heap.size ≤ q → A q) (hG : GP zE A s s.heap) (hX : GX mi s) (hN : GN s) : ∀ U : State, U.heap = H → s.WarmedH U.vm → va_Pc av (HPreL mi zE D tys wc H.size) av.toArray U := fun U hU hW => by
  have h := hz_preXP (av := av) (L := fun _ => False) hP hK hD hS hA hG hX (fun x h => h.elim) U hU hW
  exact ⟨rfl, h.2, hN.moved hW.alike⟩
/-- a helper of the law with handlers is called over the class's world -/
theorem hz_lawL {S : Type} {post : Int32 → S → Prop} {w1 : S → va_W} {hh : List (Nat × Nat × Nat × Nat)} (fx : CallFix p m c cc nL s args Ts own) (hM : vx_Met l y wz rm (va_Pc As (HPreL mi zE D tys wc H.size)) (va_Qi post (fun u t => va_P D vwCl (w1 u) t.heap ∧ va_D (va_A wc H.size) (w1 u)) (va_A wc H.size)) XN0 mc ms (va_A wc H.size)) (cw : vx_CSW R s args own index y bytes maxL ret hh wz rm mc ms n)
    (hP : va_P D vwCl (wc ++ wr) H) (hK : va_K D vwCl tys s) (hD : va_D A (wc ++ wr)) (hS : va_S A s.heap H locs) (hA : ∀ q, s.heap.size ≤ q → A q) (hG : GP zE A s s.heap) (hX : GX mi s) (hN : GN s)
    (hAs : As.length = n) (hsize : ls.size = nL) (hst : st0 = As.reverse ++ rest) (hW : (rest.map fun v => v.category).sum ≤ 8) (hdg : decode cc pc = .ok (.invokestatic index, 3)) (hroom : cells + mc ≤ R.cells ∧ slots + ms ≤ R.slots)
    (kk : ∀ (r : Int32) (u : S) (H : Heap) (locs : List Loc), post r u → va_P D vwCl (w1 u ++ wr) H → va_D A (w1 u ++ wr) → va_S A s.heap H locs → W p l e R s m args below meth c H locs (cells + mc) (slots + ms) Q (F0 m (pc + 3) ls (.int r :: rest))) : W p l e R s m args below meth c H locs cells slots Q (F0 m pc ls st0) := by
  have hF := hz_freeP hD hS hA
  refine vx_calli (vx_runSX (As := As) (rest := rest) fx hM cw ⟨hz_blindL, hz_preLP hP hK hD hS hA hG hX hN⟩ rfl hAs hsize hst (lv_room hW) hdg hroom) hS (fun q _ h => hF q h) hF (fun q _ h => h.elim) (fun E1 ce q9 u t H1 locs1 ht hvm hu => hu.elim) (fun r u t H1 locs1 ht hvm hw hB hz1 hk1 hS1 => ?_)
  rw [ht] at hB
  obtain ⟨hP1, hD1⟩ := hz_joinP hP hD hk1 hF hB.1 hB.2
  exact kk r u H1 locs1 hw hP1 hD1 hS1
/-- a method of the law without handlers is called, over the whole world -/
theorem hz_sN {S : Type} {post : Int32 → S → Prop} {w1 : S → va_W} (fx : CallFix p m c cc nL s args Ts own) (hM : Met l y wz rm (va_Pc As (HPreL mi zE D tys ws H.size)) (va_Qi post (fun u t => va_P D vwCl (w1 u) t.heap ∧ va_D (va_A ws H.size) (w1 u)) (va_A ws H.size)) mc ms (va_A ws H.size)) (cw : CallB R s args own index y bytes maxL ret wz rm mc ms n ∧ (Cond.static y).before args s = true)
    (hP : va_P D vwCl ws H) (hK : va_K D vwCl tys s) (hD : va_D A ws) (hS : va_S A s.heap H locs) (hA : ∀ q, s.heap.size ≤ q → A q) (hG : GP zE A s s.heap) (hX : GX mi s) (hN : GN s)
    (hAs : As.length = n) (hsize : ls.size = nL) (hst : st0 = As.reverse ++ rest) (hW : (rest.map fun v => v.category).sum ≤ 8) (hdg : decode cc pc = .ok (.invokestatic index, 3)) (hroom : cells + mc ≤ R.cells ∧ slots + ms ≤ R.slots)
    (kk : ∀ (r : Int32) (u : S) (H : Heap) (locs : List Loc), post r u → va_P D vwCl (w1 u) H → va_D A (w1 u) → va_S A s.heap H locs → W p l e R s m args below meth c H locs (cells + mc) (slots + ms) Q (F0 m (pc + 3) ls (.int r :: rest))) : W p l e R s m args below meth c H locs cells slots Q (F0 m pc ls st0) := by
  have hP0 : va_P D vwCl (ws ++ []) H := by rw [List.append_nil]; exact hP
  have hD0 : va_D A (ws ++ []) := by rw [List.append_nil]; exact hD
  have hF := hz_freeP hD0 hS hA
  refine va_calli (va_runS (As := As) (rest := rest) fx hM cw ⟨hz_blindL, hz_preLP hP0 hK hD0 hS hA hG hX hN⟩ rfl hAs hsize hst (lv_room hW) hdg hroom) hS (fun q _ h => hF q h) hF (fun r u t H1 locs1 ht hvm hw hB hz1 hk1 hS1 => ?_)
  rw [ht] at hB
  obtain ⟨hP1, hD1⟩ := hz_joinP hP0 hD0 hk1 hF hB.1 hB.2
  rw [List.append_nil] at hP1 hD1
  exact kk r u H1 locs1 hw hP1 hD1 hS1
end HL34
/-- a helper of the law with handlers: its body -/
theorem hz_ofWL {l : Launch} {y : MethodName} {wz ws' : List Cond} {rm : Room} {av : List Value} {mi zE : Nat} {D : va_G} {tys : List (ClassId × FieldType)} {w : va_W} {sz mc ms : Nat} {Qf : (Nat → Prop) → Array Value → State → Outcome → State → Prop} {cc : ByteArray} {maxL : Nat} {ret : Option FieldType} {hh : List (Nat × Nat × Nat × Nat)} (hy : plainName y.cls = true) (hw : wz = Cond.codeWith y cc maxL ret hh :: ws') (hle : (lg_sl av).length ≤ maxL)
    (body : ∀ (p : Program) (e : Env) (s : State) (m : MethodId) (below : List Frame) (meth : Method) (c : Code) (A : Nat → Prop) (ls : Array Slot), p.tables.exec = Jvm.exec → c.code = cc → meth.sig.returnType = ret → (∀ w ∈ wz, w.before av.toArray s = true) → s.vm.findClass y.cls = some m.cls → meth.locks = false → c.maxLocals = maxL → c.exceptionTable.toList = tableOf hh → va_P D vwCl w s.heap → va_K D vwCl tys s → (∀ q, s.heap.size ≤ q → A q) → va_D A w → va_S A s.heap s.heap [] → GP zE A s s.heap → GX mi s → GN s → lv_has ls maxL (lv_args 0 av) →
      W p l e (headSpec wz rm).room s m av.toArray below meth c s.heap [] 0 0 (vx_MQ below (Qf A) XN0 av.toArray s mc ms A) (F0 m 0 ls [])) : vx_Met l y wz rm (va_Pc av (HPreL mi zE D tys w sz)) (Qf (va_A w sz)) XN0 mc ms (va_A w sz) := by
  refine vx_ofWH (cc := cc) (maxL := maxL) (ret := ret) (hh := hh) hy hw ?_
  intro p e s m args below meth c s₁ B hml hv
  obtain ⟨rfl, ⟨⟨⟨hsz, hP, hK, hD0⟩, hG⟩, hX, -⟩, hN⟩ := hv
  have hts := atoms_spec (ws := wz) B.pre
  have hown : s.vm.findClass y.cls = some m.cls := findClass_of_methodNamed B.named
  have htab := vx_table (x := y) B (hts _ (by rw [hw]; exact List.mem_cons_self))
  subst hsz
  have hl := lv_entry av (n := maxL) hle
  rw [lg_entry_eq]
  exact body p e s m below meth c _ _ B.exec B.bytes B.returns hts hown B.notSynchronized hml htab hP hK (fun q h => Or.inr h) hD0.self va_S.rf hG hX hN hl
/-- a method of the law without handlers: its body -/
theorem hz_ofWM {l : Launch} {y : MethodName} {wz ws' : List Cond} {rm : Room} {av : List Value} {mi zE : Nat} {D : va_G} {tys : List (ClassId × FieldType)} {w : va_W} {sz mc ms : Nat} {Qf : (Nat → Prop) → Array Value → State → Outcome → State → Prop} {cc : ByteArray} {maxL : Nat} {ret : Option FieldType} (hy : plainName y.cls = true) (hw : wz = Cond.code y cc maxL ret :: ws') (hle : (lg_sl av).length ≤ maxL)
    (body : ∀ (p : Program) (e : Env) (s : State) (m : MethodId) (below : List Frame) (meth : Method) (c : Code) (A : Nat → Prop) (ls : Array Slot), p.tables.exec = Jvm.exec → c.code = cc → meth.sig.returnType = ret → (∀ w ∈ wz, w.before av.toArray s = true) → s.vm.findClass y.cls = some m.cls → meth.locks = false → c.maxLocals = maxL → va_P D vwCl w s.heap → va_K D vwCl tys s → (∀ q, s.heap.size ≤ q → A q) → va_D A w → va_S A s.heap s.heap [] → GP zE A s s.heap → GX mi s → GN s → lv_has ls maxL (lv_args 0 av) →
      W p l e (headSpec wz rm).room s m av.toArray below meth c s.heap [] 0 0 (MQ below (Qf A) av.toArray s mc ms A) (F0 m 0 ls [])) : Met l y wz rm (va_Pc av (HPreL mi zE D tys w sz)) (Qf (va_A w sz)) mc ms (va_A w sz) := by
  refine Met.ofW (cc := cc) (maxL := maxL) (ret := ret) hy hw ?_
  intro p e s m args below meth c s₁ B hml hv
  obtain ⟨rfl, ⟨⟨⟨hsz, hP, hK, hD0⟩, hG⟩, hX, -⟩, hN⟩ := hv
  have hts := atoms_spec (ws := wz) B.pre
  have hown : s.vm.findClass y.cls = some m.cls := findClass_of_methodNamed B.named
  subst hsz
  have hl := lv_entry av (n := maxL) hle
  rw [lg_entry_eq]
  exact body p e s m below meth c _ _ B.exec B.bytes B.returns hts hown B.notSynchronized hml hP hK (fun q h => Or.inr h) hD0.self va_S.rf hG hX hN hl
