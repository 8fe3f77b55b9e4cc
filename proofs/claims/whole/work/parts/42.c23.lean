/-! the law: its script, its calls -/
def sc (xs : Nat → Int32) (k : Int) : Int := (xs k.toNat).toInt
theorem sc_rng (xs : Nat → Int32) (k : Int) : -2147483648 ≤ sc xs k ∧ sc xs k < 2147483648 := ⟨by have := (xs k.toNat).le_toInt; unfold sc; omega, by have := (xs k.toNat).toInt_lt; unfold sc; omega⟩
theorem and31 (x : Int) : ∃ k : Int, (0 ≤ k ∧ k ≤ 31) ∧ zI x &&& zI 31 = zI k := by
  refine ⟨(zI x &&& zI 31).toInt, ?_, (zI_ti _).symm⟩
  have h1 : (zI x &&& zI 31).toBitVec.toNat ≤ 31 := by
    rw [Int32.toBitVec_and, BitVec.toNat_and]
    exact Nat.and_le_right
  have h2 : (zI x &&& zI 31).toInt = ((zI x &&& zI 31).toBitVec.toNat : Int) := by
    show (zI x &&& zI 31).toBitVec.toInt = _
    exact BitVec.toInt_eq_toNat_of_lt (by omega)
  omega
theorem tk_put {n c : Int} {cell tk : Int → Int} (h : ∀ k : Int, 0 ≤ k → k < 64 → tk k = ocZ n cell k) (h0 : 0 ≤ n) : ∀ k : Int, 0 ≤ k → k < 64 → upZ tk c 1 k = ocZ (n + 1) (upZ cell n c) k := by
  intro k a b
  by_cases e : k = c
  · rw [upZ_s e]
    exact (isZ_1 ⟨n, h0, by omega, by rw [upZ_s rfl, e]⟩).symm
  · rw [upZ_n e, h k a b]
    unfold ocZ
    refine congrArg isZ (propext ⟨?_, ?_⟩)
    · rintro ⟨j, h1, h2, h3⟩
      exact ⟨j, h1, by omega, by rw [upZ_n (by omega)]; exact h3⟩
    · rintro ⟨j, h1, h2, h3⟩
      by_cases e2 : j = n
      · rw [upZ_s e2] at h3
        exact absurd h3.symm e
      · rw [upZ_n e2] at h3
        exact ⟨j, h1, by omega, h3⟩
theorem tk_d (c : TC) (t : TS) (k : Int) (h : c.1 ≤ k) : (tkF c t).2.1 k = t.2.1 k := by
  obtain ⟨xn, xc, xh, xt, xl, xce, xer, xco, xbr, xro, xcl, xdo, xri, xbo, xpr, xfi⟩ := c
  obtain ⟨ya, yd, yt, yl, ys, yu, yn, yc, yh, yp, yg, yw, yb, yf, yr⟩ := t
  show (if (yn + 1) % 24 = 0 then diZ yd xn else yd) k = yd k
  split
  · unfold diZ
    exact if_neg (by have : xn ≤ k := h; omega)
  · rfl
theorem it_d (c : TC) (k : Int) (h : c.1 ≤ k) : ∀ (n : Nat) (t : TS), (itF c n t).2.1 k = t.2.1 k
  | 0, t => rfl
  | n + 1, t => (tk_d c (itF c n t) k h).trans (it_d c k h n t)
theorem oW_at2 {w wm : va_W} {o0 : Nat} {y : Nat → ClassId} {vO : Int → Int} : ((w ++ oW o0 y vO) ++ wm)[w.length]? = some (o0, .inl (y 1, 1, .inr (.inl (LA vO)))) := by
  rw [List.getElem?_append_left (by rw [List.length_append]; show w.length < w.length + 1; omega)]
  exact oW_at
section HLAW
variable {p : Program} {l : Launch} {e : Env} {R : Room} {s : State} {m : MethodId} {args : Array Value} {below : List Frame} {meth : Method} {c : Code} {H : Heap} {locs : List Loc} {cells slots : Nat} {Q : State → Prop}
variable {cc bytes : ByteArray} {pc nL maxL index n : Nat} {ls : Array Slot} {rest st0 As : List Value} {D : va_G} {A : Nat → Prop} {b zE mi : Nat} {tys : List (ClassId × FieldType)} {wc wr wm : va_W} {Ts wz : List Cond} {own C : String} {y : MethodName} {ret : Option FieldType} {rm : Room} {cq : vw_C} {fs : List Value} {mc ms : Nat}
theorem hz_sld (hx : p.tables.exec = Jvm.exec) (hb : c.code = cc) {b L : Nat} {xs : Nat → Int32} (hX : va_X b L xs s s.heap) (hbl : b < s.heap.size) (hbA : ¬ A b) (hS : va_S A s.heap H locs) {i : Int} (hi : 0 ≤ i ∧ i < L) (hL : L ≤ 2147483648) (hdg : decode cc pc = .ok (.iaload, 1))
    (kk : W p l e R s m args below meth c H locs cells slots Q (F0 m (pc + 1) ls (zi (sc xs i) :: rest))) : W p l e R s m args below meth c H locs cells slots Q (F0 m pc ls (zi i :: .ref b :: rest)) := by
  refine va_sld hx hb hX hbl hbA hS (zI_in hi hL) hdg ?_
  have e1 : (zI i).toNatClampNeg = i.toNat := by
    have := zI_cl (i := i) (by omega)
    omega
  rw [e1]
  have e2 : xs i.toNat = zI (sc xs i) := (zI_ti _).symm
  rw [e2]
  exact kk
theorem hz_iand31 (hx : p.tables.exec = Jvm.exec) (hb : c.code = cc) {x : Int} (hdg : decode cc pc = .ok (.iand, 1)) (kk : ∀ k : Int, (0 ≤ k ∧ k ≤ 31) → W p l e R s m args below meth c H locs cells slots Q (F0 m (pc + 1) ls (zi k :: rest))) : W p l e R s m args below meth c H locs cells slots Q (F0 m pc ls (zi 31 :: zi x :: rest)) := by
  obtain ⟨k, h1, h2⟩ := and31 x
  refine lv_iand hx hb hdg ?_
  rw [h2]
  exact kk k h1
theorem hz_laldo (hx : p.tables.exec = Jvm.exec) (hb : c.code = cc) {y : Nat → ClassId} (hK : va_K D vwCl (tyL y) s) {o0 : Nat} {vO : Int → Int} (hP : va_P D vwCl ((wc ++ oW o0 y vO) ++ wm) H) (hdg : decode cc pc = .ok (.laload, 1))
    (kk : W p l e R s m args below meth c H locs cells slots Q (F0 m (pc + 1) ls (zl (vO 0) :: rest))) : W p l e R s m args below meth c H locs cells slots Q (F0 m pc ls (zi 0 :: .ref o0 :: rest)) := hz_lald (f := vO) hx hb hK hP wc.length 1 oW_at2 rfl (by omega) (by omega) hdg kk
theorem hz_preLP {av : List Value} (hP : va_P D vwCl (wc ++ wr) H) (hK : va_K D vwCl tys s) (hD : va_D A (wc ++ wr)) (hS : va_S A s.heap H locs) (hA : ∀ q, s.heap.size ≤ q → A q) (hG : GP zE A s s.heap) (hX : GX mi s) (hN : GN s) : ∀ U : State, U.heap = H → s.WarmedH U.vm → va_Pc av (HPreL mi zE D tys wc H.size) av.toArray U := fun U hU hW => by
  have h := hz_preXP (av := av) (L := fun _ => False) hP hK hD hS hA hG hX (fun x h => h.elim) U hU hW
  exact ⟨rfl, h.2, hN.moved hW.alike⟩
/-- the law's helper is called: the class's world and the row of answers -/
theorem hz_lawL {S : Type} {post : Int32 → S → Prop} {w1 : S → va_W} {hh : List (Nat × Nat × Nat × Nat)} (fx : CallFix p m c cc nL s args Ts own) (hM : vx_Met l y wz rm (va_Pc As (HPreL mi zE D tys wc H.size)) (va_Qi post (fun u t => va_P D vwCl (w1 u) t.heap ∧ va_D (va_A wc H.size) (w1 u)) (va_A wc H.size)) XN0 mc ms (va_A wc H.size)) (cw : vx_CSW R s args own index y bytes maxL ret hh wz rm mc ms n)
    (hP : va_P D vwCl (wc ++ wr) H) (hK : va_K D vwCl tys s) (hD : va_D A (wc ++ wr)) (hS : va_S A s.heap H locs) (hA : ∀ q, s.heap.size ≤ q → A q) (hG : GP zE A s s.heap) (hX : GX mi s) (hN : GN s)
    (hAs : As.length = n) (hsize : ls.size = nL) (hst : st0 = As.reverse ++ rest) (hW : (rest.map fun v => v.category).sum ≤ 8) (hdg : decode cc pc = .ok (.invokestatic index, 3)) (hroom : cells + mc ≤ R.cells ∧ slots + ms ≤ R.slots)
    (kk : ∀ (r : Int32) (u : S) (H : Heap) (locs : List Loc), post r u → va_P D vwCl (w1 u ++ wr) H → va_D A (w1 u ++ wr) → va_S A s.heap H locs → W p l e R s m args below meth c H locs (cells + mc) (slots + ms) Q (F0 m (pc + 3) ls (.int r :: rest))) : W p l e R s m args below meth c H locs cells slots Q (F0 m pc ls st0) := by
  have hF := hz_freeP hD hS hA
  refine vx_calli (vx_runSX (As := As) (rest := rest) fx hM cw ⟨hz_blindL, hz_preLP hP hK hD hS hA hG hX hN⟩ rfl hAs hsize hst (lv_room hW) hdg hroom) hS (fun q _ h => hF q h) hF (fun q _ h => h.elim) (fun E1 ce q9 u t H1 locs1 ht hvm hu => hu.elim) (fun r u t H1 locs1 ht hvm hw hB hz1 hk1 hS1 => ?_)
  rw [ht] at hB
  obtain ⟨hP1, hD1⟩ := hz_joinP hP hD hk1 hF hB.1 hB.2
  exact kk r u H1 locs1 hw hP1 hD1 hS1
theorem hz_joinR {D : va_G} {cl : List vw_C} {A : Nat → Prop} {wx wm w1 : va_W} {H H1 : Heap} (hP : va_P D cl (wx ++ wm) H) (hD : va_D A (wx ++ wm)) (hk : ∀ q : Nat, q < H.size → ¬ va_A wm H.size q → H1[q]? = H[q]?) (hF : ∀ q, va_A wm H.size q → A q) (hP1 : va_P D cl w1 H1) (he : w1.map Prod.fst = wm.map Prod.fst) : va_P D cl (wx ++ w1) H1 ∧ va_D A (wx ++ w1) := by
  have h := hz_joinV (hz_Pp List.perm_append_comm hP) (hz_Dp List.perm_append_comm hD) hk hF hP1 he
  exact ⟨hz_Pp List.perm_append_comm h.1, hz_Dp List.perm_append_comm h.2⟩
theorem hz_lawMi {S : Type} {g : S → Int} {φ : S → Prop} {w1 : S → va_W} (fx : CallFix p m c cc nL s args Ts own) (hM : Met l y wz rm (va_Pc (.ref b :: As) (HPre D tys wm H.size)) (va_Qi (fun (r : Int32) (u : S) => r = zI (g u) ∧ φ u) (fun u t => va_P D vwCl (w1 u) t.heap) (va_A wm H.size)) 0 0 (va_A wm H.size)) (cw : CallW R s args own C index y bytes maxL ret wz rm 0 0 n)
    (hP : va_P D vwCl (wc ++ wm) H) (hK : va_K D vwCl tys s) (hD : va_D A (wc ++ wm)) (hS : va_S A s.heap H locs) (hA : ∀ q, s.heap.size ≤ q → A q) (q0 ci : Nat) (hcl : vwCl[ci]? = some cq) (hCe : cq.1 = C) (hb0 : wm[q0]? = some (b, .inr (ci, fs)))
    (hAs : As.length = n) (hsize : ls.size = nL) (hst : st0 = As.reverse ++ .ref b :: rest) (hW : (rest.map fun v => v.category).sum ≤ 8) (hdg : decode cc pc = .ok (.invokevirtual index, 3)) (hroom : cells + 0 ≤ R.cells ∧ slots + 0 ≤ R.slots) (he : ∀ u, (w1 u).map Prod.fst = wm.map Prod.fst)
    (kk : ∀ (u : S) (H : Heap) (locs : List Loc), φ u → va_P D vwCl (wc ++ w1 u) H → va_D A (wc ++ w1 u) → va_S A s.heap H locs → W p l e R s m args below meth c H locs cells slots Q (F0 m (pc + 3) ls (zi (g u) :: rest))) : W p l e R s m args below meth c H locs cells slots Q (F0 m pc ls st0) := by
  have hP2 := hz_Pp (D := D) (cl := vwCl) (H := H) (ws := wc ++ wm) (ws' := wm ++ wc) List.perm_append_comm hP
  have hD2 := hz_Dp (A := A) (ws := wc ++ wm) (ws' := wm ++ wc) List.perm_append_comm hD
  have hF := hz_freeP hD2 hS hA
  refine va_calli (va_runV (As := As) (rest := rest) fx hM cw ⟨hz_blind, by rw [← hCe]; exact va_recv hK (hz_Pr hP) hcl hb0, hz_preP hP2 hK hD2⟩ rfl hAs hsize hst (lv_room hW) hdg hroom) hS (fun q _ h => hF q h) hF (fun r u t H1 locs1 ht hvm hw hB hz1 hk1 hS1 => ?_)
  obtain ⟨rfl, hφ⟩ := hw
  rw [ht] at hB
  have h9 := hz_joinR hP hD hk1 hF hB (he u)
  exact kk u H1 locs1 hφ h9.1 h9.2 hS1
theorem hz_lawMl {S : Type} {g : S → Int} {φ : S → Prop} {w1 : S → va_W} (fx : CallFix p m c cc nL s args Ts own) (hM : Met l y wz rm (va_Pc (.ref b :: As) (HPre D tys wm H.size)) (va_Ql (fun (r : Int64) (u : S) => r = zL (g u) ∧ φ u) (fun u t => va_P D vwCl (w1 u) t.heap) (va_A wm H.size)) 0 0 (va_A wm H.size)) (cw : CallW R s args own C index y bytes maxL ret wz rm 0 0 n)
    (hP : va_P D vwCl (wc ++ wm) H) (hK : va_K D vwCl tys s) (hD : va_D A (wc ++ wm)) (hS : va_S A s.heap H locs) (hA : ∀ q, s.heap.size ≤ q → A q) (q0 ci : Nat) (hcl : vwCl[ci]? = some cq) (hCe : cq.1 = C) (hb0 : wm[q0]? = some (b, .inr (ci, fs)))
    (hAs : As.length = n) (hsize : ls.size = nL) (hst : st0 = As.reverse ++ .ref b :: rest) (hW : (rest.map fun v => v.category).sum ≤ 8) (hdg : decode cc pc = .ok (.invokevirtual index, 3)) (hroom : cells + 0 ≤ R.cells ∧ slots + 0 ≤ R.slots) (he : ∀ u, (w1 u).map Prod.fst = wm.map Prod.fst)
    (kk : ∀ (u : S) (H : Heap) (locs : List Loc), φ u → va_P D vwCl (wc ++ w1 u) H → va_D A (wc ++ w1 u) → va_S A s.heap H locs → W p l e R s m args below meth c H locs cells slots Q (F0 m (pc + 3) ls (zl (g u) :: rest))) : W p l e R s m args below meth c H locs cells slots Q (F0 m pc ls st0) := by
  have hP2 := hz_Pp (D := D) (cl := vwCl) (H := H) (ws := wc ++ wm) (ws' := wm ++ wc) List.perm_append_comm hP
  have hD2 := hz_Dp (A := A) (ws := wc ++ wm) (ws' := wm ++ wc) List.perm_append_comm hD
  have hF := hz_freeP hD2 hS hA
  refine va_calll (va_runV (As := As) (rest := rest) fx hM cw ⟨hz_blind, by rw [← hCe]; exact va_recv hK (hz_Pr hP) hcl hb0, hz_preP hP2 hK hD2⟩ rfl hAs hsize hst (lv_room hW) hdg hroom) hS (fun q _ h => hF q h) hF (fun r u t H1 locs1 ht hvm hw hB hz1 hk1 hS1 => ?_)
  obtain ⟨rfl, hφ⟩ := hw
  rw [ht] at hB
  have h9 := hz_joinR hP hD hk1 hF hB (he u)
  exact kk u H1 locs1 hφ h9.1 h9.2 hS1
theorem hz_lawMf {S : Type} {g : UInt32} {φ : S → Prop} {w1 : S → va_W} (fx : CallFix p m c cc nL s args Ts own) (hM : Met l y wz rm (va_Pc (.ref b :: As) (HPre D tys wm H.size)) (va_Qf (fun (r : UInt32) (u : S) => r = g ∧ φ u) (fun u t => va_P D vwCl (w1 u) t.heap) (va_A wm H.size)) 0 0 (va_A wm H.size)) (cw : CallW R s args own C index y bytes maxL ret wz rm 0 0 n)
    (hP : va_P D vwCl (wc ++ wm) H) (hK : va_K D vwCl tys s) (hD : va_D A (wc ++ wm)) (hS : va_S A s.heap H locs) (hA : ∀ q, s.heap.size ≤ q → A q) (q0 ci : Nat) (hcl : vwCl[ci]? = some cq) (hCe : cq.1 = C) (hb0 : wm[q0]? = some (b, .inr (ci, fs)))
    (hAs : As.length = n) (hsize : ls.size = nL) (hst : st0 = As.reverse ++ .ref b :: rest) (hW : (rest.map fun v => v.category).sum ≤ 8) (hdg : decode cc pc = .ok (.invokevirtual index, 3)) (hroom : cells + 0 ≤ R.cells ∧ slots + 0 ≤ R.slots) (he : ∀ u, (w1 u).map Prod.fst = wm.map Prod.fst)
    (kk : ∀ (u : S) (H : Heap) (locs : List Loc), φ u → va_P D vwCl (wc ++ w1 u) H → va_D A (wc ++ w1 u) → va_S A s.heap H locs → W p l e R s m args below meth c H locs cells slots Q (F0 m (pc + 3) ls (.float g :: rest))) : W p l e R s m args below meth c H locs cells slots Q (F0 m pc ls st0) := by
  have hP2 := hz_Pp (D := D) (cl := vwCl) (H := H) (ws := wc ++ wm) (ws' := wm ++ wc) List.perm_append_comm hP
  have hD2 := hz_Dp (A := A) (ws := wc ++ wm) (ws' := wm ++ wc) List.perm_append_comm hD
  have hF := hz_freeP hD2 hS hA
  refine va_callf (va_runV (As := As) (rest := rest) fx hM cw ⟨hz_blind, by rw [← hCe]; exact va_recv hK (hz_Pr hP) hcl hb0, hz_preP hP2 hK hD2⟩ rfl hAs hsize hst (lv_room hW) hdg hroom) hS (fun q _ h => hF q h) hF (fun r u t H1 locs1 ht hvm hw hB hz1 hk1 hS1 => ?_)
  obtain ⟨rfl, hφ⟩ := hw
  rw [ht] at hB
  have h9 := hz_joinR hP hD hk1 hF hB (he u)
  exact kk u H1 locs1 hφ h9.1 h9.2 hS1
theorem hz_lawMv {S : Type} {φ : S → Prop} {w1 : S → va_W} (fx : CallFix p m c cc nL s args Ts own) (hM : Met l y wz rm (va_Pc (.ref b :: As) (HPre D tys wm H.size)) (va_Qv φ (fun u t => va_P D vwCl (w1 u) t.heap) (va_A wm H.size)) 0 0 (va_A wm H.size)) (cw : CallW R s args own C index y bytes maxL ret wz rm 0 0 n)
    (hP : va_P D vwCl (wc ++ wm) H) (hK : va_K D vwCl tys s) (hD : va_D A (wc ++ wm)) (hS : va_S A s.heap H locs) (hA : ∀ q, s.heap.size ≤ q → A q) (q0 ci : Nat) (hcl : vwCl[ci]? = some cq) (hCe : cq.1 = C) (hb0 : wm[q0]? = some (b, .inr (ci, fs)))
    (hAs : As.length = n) (hsize : ls.size = nL) (hst : st0 = As.reverse ++ .ref b :: rest) (hW : (rest.map fun v => v.category).sum ≤ 8) (hdg : decode cc pc = .ok (.invokevirtual index, 3)) (hroom : cells + 0 ≤ R.cells ∧ slots + 0 ≤ R.slots) (he : ∀ u, (w1 u).map Prod.fst = wm.map Prod.fst)
    (kk : ∀ (u : S) (H : Heap) (locs : List Loc), φ u → va_P D vwCl (wc ++ w1 u) H → va_D A (wc ++ w1 u) → va_S A s.heap H locs → W p l e R s m args below meth c H locs cells slots Q (F0 m (pc + 3) ls rest)) : W p l e R s m args below meth c H locs cells slots Q (F0 m pc ls st0) := by
  have hP2 := hz_Pp (D := D) (cl := vwCl) (H := H) (ws := wc ++ wm) (ws' := wm ++ wc) List.perm_append_comm hP
  have hD2 := hz_Dp (A := A) (ws := wc ++ wm) (ws' := wm ++ wc) List.perm_append_comm hD
  have hF := hz_freeP hD2 hS hA
  refine va_callv (va_runV (As := As) (rest := rest) fx hM cw ⟨hz_blind, by rw [← hCe]; exact va_recv hK (hz_Pr hP) hcl hb0, hz_preP hP2 hK hD2⟩ rfl hAs hsize hst (lv_room hW) hdg hroom) hS (fun q _ h => hF q h) hF (fun u t H1 locs1 ht hvm hw hB hz1 hk1 hS1 => ?_)
  rw [ht] at hB
  have h9 := hz_joinR hP hD hk1 hF hB (he u)
  exact kk u H1 locs1 hw h9.1 h9.2 hS1
/-- the class is called by the law itself -/
theorem hz_lawFi {S : Type} {g : S → Int} {φ : S → Prop} {w1 : S → va_W} (fx : CallFix p m c cc nL s args Ts own) (hM : Met l y wz rm (va_Pc (.ref b :: As) (HPreG zE D tys wc H.size)) (va_Qi (fun (r : Int32) (u : S) => r = zI (g u) ∧ φ u) (fun u t => va_P D vwCl (w1 u) t.heap) (va_A wc H.size)) 0 0 (va_A wc H.size)) (cw : CallW R s args own C index y bytes maxL ret wz rm 0 0 n)
    (hP : va_P D vwCl ((wc ++ wr) ++ wm) H) (hK : va_K D vwCl tys s) (hD : va_D A ((wc ++ wr) ++ wm)) (hS : va_S A s.heap H locs) (hA : ∀ q, s.heap.size ≤ q → A q) (hG : GP zE A s s.heap) (q0 ci : Nat) (hcl : vwCl[ci]? = some cq) (hCe : cq.1 = C) (hb0 : wc[q0]? = some (b, .inr (ci, fs)))
    (hAs : As.length = n) (hsize : ls.size = nL) (hst : st0 = As.reverse ++ .ref b :: rest) (hW : (rest.map fun v => v.category).sum ≤ 8) (hdg : decode cc pc = .ok (.invokevirtual index, 3)) (hroom : cells + 0 ≤ R.cells ∧ slots + 0 ≤ R.slots) (he : ∀ u, (w1 u).map Prod.fst = wc.map Prod.fst)
    (kk : ∀ (u : S) (H : Heap) (locs : List Loc), φ u → va_P D vwCl ((w1 u ++ wr) ++ wm) H → va_D A ((w1 u ++ wr) ++ wm) → va_S A s.heap H locs → W p l e R s m args below meth c H locs cells slots Q (F0 m (pc + 3) ls (zi (g u) :: rest))) : W p l e R s m args below meth c H locs cells slots Q (F0 m pc ls st0) := by
  rw [List.append_assoc] at hP hD
  have hF := hz_freeP hD hS hA
  refine va_calli (va_runV (As := As) (rest := rest) fx hM cw ⟨hz_blindG, by rw [← hCe]; exact va_recv hK (hz_Pl hP) hcl hb0, hz_preWG (hz_Pl hP) hK (hz_Dl1 hD) hS hA hG⟩ rfl hAs hsize hst (lv_room hW) hdg hroom) hS (fun q _ h => hF q h) hF (fun r u t H1 locs1 ht hvm hw hB hz1 hk1 hS1 => ?_)
  obtain ⟨rfl, hφ⟩ := hw
  rw [ht] at hB
  have h9 := hz_joinV hP hD hk1 hF hB (he u)
  rw [← List.append_assoc] at h9
  exact kk u H1 locs1 hφ h9.1 h9.2 hS1
theorem hz_lawFf {S : Type} {g : UInt32} {φ : S → Prop} {w1 : S → va_W} (fx : CallFix p m c cc nL s args Ts own) (hM : Met l y wz rm (va_Pc (.ref b :: As) (HPreG zE D tys wc H.size)) (va_Qf (fun (r : UInt32) (u : S) => r = g ∧ φ u) (fun u t => va_P D vwCl (w1 u) t.heap) (va_A wc H.size)) 0 0 (va_A wc H.size)) (cw : CallW R s args own C index y bytes maxL ret wz rm 0 0 n)
    (hP : va_P D vwCl ((wc ++ wr) ++ wm) H) (hK : va_K D vwCl tys s) (hD : va_D A ((wc ++ wr) ++ wm)) (hS : va_S A s.heap H locs) (hA : ∀ q, s.heap.size ≤ q → A q) (hG : GP zE A s s.heap) (q0 ci : Nat) (hcl : vwCl[ci]? = some cq) (hCe : cq.1 = C) (hb0 : wc[q0]? = some (b, .inr (ci, fs)))
    (hAs : As.length = n) (hsize : ls.size = nL) (hst : st0 = As.reverse ++ .ref b :: rest) (hW : (rest.map fun v => v.category).sum ≤ 8) (hdg : decode cc pc = .ok (.invokevirtual index, 3)) (hroom : cells + 0 ≤ R.cells ∧ slots + 0 ≤ R.slots) (he : ∀ u, (w1 u).map Prod.fst = wc.map Prod.fst)
    (kk : ∀ (u : S) (H : Heap) (locs : List Loc), φ u → va_P D vwCl ((w1 u ++ wr) ++ wm) H → va_D A ((w1 u ++ wr) ++ wm) → va_S A s.heap H locs → W p l e R s m args below meth c H locs cells slots Q (F0 m (pc + 3) ls (.float g :: rest))) : W p l e R s m args below meth c H locs cells slots Q (F0 m pc ls st0) := by
  rw [List.append_assoc] at hP hD
  have hF := hz_freeP hD hS hA
  refine va_callf (va_runV (As := As) (rest := rest) fx hM cw ⟨hz_blindG, by rw [← hCe]; exact va_recv hK (hz_Pl hP) hcl hb0, hz_preWG (hz_Pl hP) hK (hz_Dl1 hD) hS hA hG⟩ rfl hAs hsize hst (lv_room hW) hdg hroom) hS (fun q _ h => hF q h) hF (fun r u t H1 locs1 ht hvm hw hB hz1 hk1 hS1 => ?_)
  obtain ⟨rfl, hφ⟩ := hw
  rw [ht] at hB
  have h9 := hz_joinV hP hD hk1 hF hB (he u)
  rw [← List.append_assoc] at h9
  exact kk u H1 locs1 hφ h9.1 h9.2 hS1
theorem hz_lawFc {S : Type} {post : Int32 → S → Prop} {w1 : S → va_W} (fx : CallFix p m c cc nL s args Ts own) (hM : Met l y wz rm (va_Pc (.ref b :: As) (HPreG zE D tys wc H.size)) (va_Qi post (fun u t => va_P D vwCl (w1 u) t.heap ∧ va_D (va_A wc H.size) (w1 u)) (va_A wc H.size)) 0 0 (va_A wc H.size)) (cw : CallW R s args own C index y bytes maxL ret wz rm 0 0 n)
    (hP : va_P D vwCl ((wc ++ wr) ++ wm) H) (hK : va_K D vwCl tys s) (hD : va_D A ((wc ++ wr) ++ wm)) (hS : va_S A s.heap H locs) (hA : ∀ q, s.heap.size ≤ q → A q) (hG : GP zE A s s.heap) (q0 ci : Nat) (hcl : vwCl[ci]? = some cq) (hCe : cq.1 = C) (hb0 : wc[q0]? = some (b, .inr (ci, fs)))
    (hAs : As.length = n) (hsize : ls.size = nL) (hst : st0 = As.reverse ++ .ref b :: rest) (hW : (rest.map fun v => v.category).sum ≤ 8) (hdg : decode cc pc = .ok (.invokevirtual index, 3)) (hroom : cells + 0 ≤ R.cells ∧ slots + 0 ≤ R.slots)
    (kk : ∀ (r : Int32) (u : S) (H : Heap) (locs : List Loc), post r u → va_P D vwCl ((w1 u ++ wr) ++ wm) H → va_D A ((w1 u ++ wr) ++ wm) → va_S A s.heap H locs → W p l e R s m args below meth c H locs cells slots Q (F0 m (pc + 3) ls (.int r :: rest))) : W p l e R s m args below meth c H locs cells slots Q (F0 m pc ls st0) := by
  rw [List.append_assoc] at hP hD
  have hF := hz_freeP hD hS hA
  refine va_calli (va_runV (As := As) (rest := rest) fx hM cw ⟨hz_blindG, by rw [← hCe]; exact va_recv hK (hz_Pl hP) hcl hb0, hz_preWG (hz_Pl hP) hK (hz_Dl1 hD) hS hA hG⟩ rfl hAs hsize hst (lv_room hW) hdg hroom) hS (fun q _ h => hF q h) hF (fun r u t H1 locs1 ht hvm hw hB hz1 hk1 hS1 => ?_)
  rw [ht] at hB
  obtain ⟨hP1, hD1⟩ := hz_joinP hP hD hk1 hF hB.1 hB.2
  rw [← List.append_assoc] at hP1 hD1
  exact kk r u H1 locs1 hw hP1 hD1 hS1
end HLAW
def FA (z : LZ) (zE : Nat) (vN vC vNow vHaze vCold vHot vPipe vDeg cThaw vThaw vTrc vTurb vLeft vLoad vWater vTrips : Int) (vCell vDirt vAim vErr vCor vBrk vTop vLm vRows vCols vDown vRight vBound vStrain vPrice vFirm vTk : Int → Int) : Prop := (LZok z vN vC) ∧ (LZe z zE) ∧ (∀ k : Int, 0 ≤ k → k < 64 → vTk k = ocZ vN vCell k) ∧ (0 ≤ vN ∧ vN ≤ 12) ∧ (0 ≤ vC ∧ vC ≤ 4) ∧ (0 ≤ vNow ∧ vNow ≤ 9999) ∧ (0 ≤ vHaze ∧ vHaze ≤ 9) ∧ (0 ≤ vCold ∧ 0 ≤ vHot ∧ vCold + vHot ≤ 1000) ∧ (0 ≤ vPipe ∧ vPipe ≤ 2) ∧ (0 ≤ vDeg ∧ vDeg ≤ 40 ∧ (vPipe = 1 → 20 ≤ vDeg)) ∧ (vPipe = 2 → 0 ≤ cThaw ∧ cThaw ≤ 2) ∧ (0 ≤ vThaw ∧ vThaw ≤ 3 ∧ (vPipe = 2 → vThaw ≤ 2)) ∧ (vPipe = 2 → cThaw = vThaw) ∧ (0 ≤ vTrc ∧ vTrc ≤ 1) ∧ (0 ≤ vTurb ∧ vTurb ≤ 2) ∧ (0 ≤ vLeft ∧ vLeft ≤ 2 ∧ (vTurb = 1 → 1 ≤ vLeft)) ∧ (0 ≤ vLoad ∧ vLoad ≤ 20) ∧ (0 ≤ vWater ∧ vWater ≤ 1000) ∧ (0 ≤ vTrips ∧ vTrips ≤ vNow) ∧ (∀ k : Int, 0 ≤ vCell k ∧ vCell k ≤ 63) ∧ (∀ k : Int, 0 ≤ vDirt k ∧ vDirt k ≤ 9) ∧ (∀ k : Int, -1 ≤ vAim k ∧ vAim k ≤ 5) ∧ (∀ k : Int, -3 ≤ vErr k ∧ vErr k ≤ 3) ∧ (∀ k : Int, -3 ≤ vCor k ∧ vCor k ≤ 3) ∧ (∀ k : Int, 0 ≤ vBrk k ∧ vBrk k ≤ 1) ∧ (∀ k : Int, -(16 + vNow) ≤ vTop k ∧ vTop k ≤ 16 + vNow) ∧ (∀ k : Int, -(16 + vNow) ≤ vLm k ∧ vLm k ≤ 16 + vNow) ∧ (∀ k : Int, 0 ≤ vRows k ∧ vRows k ≤ 8) ∧ (∀ k : Int, 0 ≤ vCols k ∧ vCols k ≤ 8) ∧ (∀ k : Int, -1 ≤ vDown k ∧ vDown k ≤ 1) ∧ (∀ k : Int, -1 ≤ vRight k ∧ vRight k ≤ 1) ∧ (∀ k : Int, 0 ≤ vBound k ∧ vBound k ≤ 9999) ∧ (∀ k : Int, 0 ≤ vStrain k ∧ vStrain k ≤ vNow) ∧ (∀ k : Int, 0 ≤ vPrice k ∧ vPrice k ≤ 99) ∧ (∀ k : Int, 0 ≤ vFirm k ∧ vFirm k ≤ 200) ∧ (∀ k9 : Int, vN ≤ k9 → vDirt k9 = 0 ∧ vErr k9 = 0 ∧ vCor k9 = 0 ∧ vBrk k9 = 0)
def LC (p : Program) (l : Launch) (s : State) (m : MethodId) (meth : Method) (c : Code) (b L : Nat) (xs : Nat → Int32) (G : va_G) (mi zE : Nat) (y : Nat → ClassId) : Prop := p.tables.exec = Jvm.exec ∧ c.code = cL_law ∧ meth.sig.returnType = some .boolean ∧ (∀ w ∈ wsL_law, w.before #[Value.ref b] s = true) ∧ s.vm.findClass RL = some m.cls ∧ c.maxLocals = 9 ∧ va_X b L xs s s.heap ∧ b < s.heap.size ∧ L ≤ 3584 ∧ meth.locks = false ∧ va_K G vwCl (tyL y) s ∧ GP zE (fun q : Nat => s.heap.size ≤ q) s s.heap ∧ GX mi s ∧ GN s ∧ l.stackTraces = false
abbrev LK (p : Program) (l : Launch) (e : Env) (s : State) (m : MethodId) (below : List Frame) (meth : Method) (c : Code) (b L : Nat) (xs : Nat → Int32) (G : va_G) (mi zE : Nat) (y : Nat → ClassId) (ah ad : Nat → Nat) (o0 : Nat) (cells slots : Nat) (i : Int) (pc : Nat) : Prop := ∀ (z : LZ) (vN vC vNow vHaze vCold vHot vPipe vDeg cThaw vThaw vTrc vTurb vLeft vLoad vWater vTrips vMi1 vMi2 vSz vBs vThrown vMissed vBRow vBSum : Int) (vCell vDirt vAim vErr vCor vBrk vTop vLm vRows vCols vDown vRight vBound vStrain vPrice vFirm vSums vTk vFl1 vFl2 vTe vAw vRo vBe vRays vFalls vSom vHad vO : Int → Int) (H : Heap) (locs : List Loc), FA z zE vN vC vNow vHaze vCold vHot vPipe vDeg cThaw vThaw vTrc vTurb vLeft vLoad vWater vTrips vCell vDirt vAim vErr vCor vBrk vTop vLm vRows vCols vDown vRight vBound vStrain vPrice vFirm vTk → va_P G vwCl (((hW ah z y vN vC vNow vHaze vCold vHot vPipe vDeg cThaw vTrc vTurb vLeft vLoad vWater vTrips vMi1 vMi2 vSz vBs vCell vDirt vAim vErr vCor vBrk vTop vLm vRows vCols vDown vRight vBound vStrain vPrice vFirm vSums vTk vFl1 vFl2 vTe vAw vRo vBe) ++ oW o0 y vO) ++ (mW ad y vThrown vN vC vNow vHaze vCold vHot vPipe vDeg vThaw vTrc vTurb vLeft vLoad vWater vTrips vMissed vBRow vBSum vCell vDirt vAim vErr vCor vBrk vTop vLm vRows vCols vDown vRight vBound vStrain vPrice vFirm vSums vRays vFalls vSom vHad)) H → va_D (fun q : Nat => s.heap.size ≤ q) (((hW ah z y vN vC vNow vHaze vCold vHot vPipe vDeg cThaw vTrc vTurb vLeft vLoad vWater vTrips vMi1 vMi2 vSz vBs vCell vDirt vAim vErr vCor vBrk vTop vLm vRows vCols vDown vRight vBound vStrain vPrice vFirm vSums vTk vFl1 vFl2 vTe vAw vRo vBe) ++ oW o0 y vO) ++ (mW ad y vThrown vN vC vNow vHaze vCold vHot vPipe vDeg vThaw vTrc vTurb vLeft vLoad vWater vTrips vMissed vBRow vBSum vCell vDirt vAim vErr vCor vBrk vTop vLm vRows vCols vDown vRight vBound vStrain vPrice vFirm vSums vRays vFalls vSom vHad)) → va_S (fun q : Nat => s.heap.size ≤ q) s.heap H locs → ∀ ls : Array Slot, lv_has ls 9 [(0, .ref b), (1, .ref (ah 0)), (2, .ref (ad 0)), (3, .ref o0), (4, zi i)] → W p l e room_1 s m #[Value.ref b] below meth c H locs cells slots (lw_Z below #[Value.ref b] s) (F0 m pc ls [])
set_option maxHeartbeats 16000000 in
set_option maxRecDepth 100000 in
theorem lw_c0 (p : Program) (l : Launch) (e : Env) (s : State) (m : MethodId) (below : List Frame) (meth : Method) (c : Code) (b L : Nat) (xs : Nat → Int32) (G : va_G) (mi zE : Nat) (y : Nat → ClassId) (ah ad : Nat → Nat) (o0 : Nat) (cells slots : Nat) (i : Int) (hQ : LC p l s m meth c b L xs G mi zE y) (hi : 0 ≤ i ∧ i + 7 ≤ L) (hroom : cells + 40 ≤ 601024 ∧ slots + 400 ≤ 7293034) (K : LK p l e s m below meth c b L xs G mi zE y ah ad o0 (cells + 40) (slots + 400) i 1990) : LK p l e s m below meth c b L xs G mi zE y ah ad o0 cells slots i 180 := by
  intro z vN vC vNow vHaze vCold vHot vPipe vDeg cThaw vThaw vTrc vTurb vLeft vLoad vWater vTrips vMi1 vMi2 vSz vBs vThrown vMissed vBRow vBSum vCell vDirt vAim vErr vCor vBrk vTop vLm vRows vCols vDown vRight vBound vStrain vPrice vFirm vSums vTk vFl1 vFl2 vTe vAw vRo vBe vRays vFalls vSom vHad vO H locs hFA hP hD hS ls hl
  obtain ⟨hx, hb, hr, hts, hown, hml, hX0, hbl, hL, hlocks, hK, hGP, hX, hGN, hlt⟩ := hQ
  have hA : ∀ q : Nat, s.heap.size ≤ q → (fun q : Nat => s.heap.size ≤ q) q := fun _ h => h
  have hbA : ¬ (fun q : Nat => s.heap.size ≤ q) b := Nat.not_le.mpr hbl
  have hFA0 := hFA
  obtain ⟨hZ, hZe, hTk, hN, hC, hNow, hHaze, hSalt, hPipe, hDeg, hThC, hThM, hThE, hTrc, hTurb, hLeft, hLoad, hWater, hTrips, hCell, hDirt, hAim, hErr, hCor, hBrk, hTop, hLm, hRows, hCols, hDown, hRight, hBound, hStrain, hPrice, hFirm, hE0⟩ := hFA
  refine lv_aload_n hx hb dL_law_180 rfl (lv_at hl 1 rfl) ?_
  refine lv_aload_n hx hb dL_law_181 rfl (lv_at hl 0 rfl) ?_
  refine lv_iload hx hb dL_law_182 (lv_at hl 4 rfl) ?_
  refine hz_iconst hx hb dL_law_184 ?_
  refine hz_iadd hx hb dL_law_185 ?_
  refine hz_sld hx hb hX0 hbl hbA hS (by omega) (by omega) dL_law_186 ?_
  refine lv_aload_n hx hb dL_law_187 rfl (lv_at hl 3 rfl) ?_
  refine hz_lawL (As := [.ref (ah 0), zi (sc xs (i + 1)), .ref o0]) (rest := []) ⟨hx, hb, hml, hown, hts⟩ (c_L_mirror l hlt G ah z mi zE y _ vN vC vNow vHaze vCold vHot vPipe vDeg cThaw vTrc vTurb vLeft vLoad vWater vTrips vMi1 vMi2 vSz vBs vCell vDirt vAim vErr vCor vBrk vTop vLm vRows vCols vDown vRight vBound vStrain vPrice vFirm vSums vTk vFl1 vFl2 vTe vAw vRo vBe o0 vO (sc xs (i + 1)) hZ hN hC hTk (sc_rng _ _) hZe (hE0 vN (Int.le_refl _))) (vx_cwSW 3 hts gL_law_L_mirror rfl rfl rfl (by decide +kernel) ⟨Nat.le_of_ble_eq_true rfl, Nat.le_of_ble_eq_true rfl⟩) hP hK hD hS hA hGP hX hGN rfl hl.1 rfl (Nat.le_of_ble_eq_true rfl) dL_law_188 ⟨by show cells + 8 ≤ 601024; omega, by show slots + 48 ≤ 7293034; omega⟩ (fun r u H locs hu hP hD hS => ?_)
  obtain ⟨a_nN, a_nCell, a_nAim, a_nTk, a_nz, a_nO⟩ := u
  obtain ⟨rfl, hu⟩ := hu
  have hU := PLift.up hu
  clear hu
  refine hz_topi (fun kc hkc => ?_)
  have hP : va_P G vwCl (((hW ah a_nz y a_nN vC vNow vHaze vCold vHot vPipe vDeg cThaw vTrc vTurb vLeft vLoad vWater vTrips vMi1 vMi2 vSz vBs a_nCell vDirt a_nAim vErr vCor vBrk vTop vLm vRows vCols vDown vRight vBound vStrain vPrice vFirm vSums a_nTk vFl1 vFl2 vTe vAw vRo vBe) ++ oW o0 y a_nO) ++ (mW ad y vThrown vN vC vNow vHaze vCold vHot vPipe vDeg vThaw vTrc vTurb vLeft vLoad vWater vTrips vMissed vBRow vBSum vCell vDirt vAim vErr vCor vBrk vTop vLm vRows vCols vDown vRight vBound vStrain vPrice vFirm vSums vRays vFalls vSom vHad)) H := hP
  have hD : va_D (fun q : Nat => s.heap.size ≤ q) (((hW ah a_nz y a_nN vC vNow vHaze vCold vHot vPipe vDeg cThaw vTrc vTurb vLeft vLoad vWater vTrips vMi1 vMi2 vSz vBs a_nCell vDirt a_nAim vErr vCor vBrk vTop vLm vRows vCols vDown vRight vBound vStrain vPrice vFirm vSums a_nTk vFl1 vFl2 vTe vAw vRo vBe) ++ oW o0 y a_nO) ++ (mW ad y vThrown vN vC vNow vHaze vCold vHot vPipe vDeg vThaw vTrc vTurb vLeft vLoad vWater vTrips vMissed vBRow vBSum vCell vDirt vAim vErr vCor vBrk vTop vLm vRows vCols vDown vRight vBound vStrain vPrice vFirm vSums vRays vFalls vSom vHad)) := hD
  have hkr : 0 ≤ kc ∧ kc ≤ 3 := by rw [hkc]; first | omega | (split <;> (try split) <;> (try split) <;> omega)
  refine lv_istore (lv' := [(5, zi kc), (0, .ref b), (1, .ref (ah 0)), (2, .ref (ad 0)), (3, .ref o0), (4, zi i)]) hx hb dL_law_191 hl (by decide) rfl (fun ls hl => ?_)
  refine lv_aload_n hx hb dL_law_193 rfl (lv_at hl 3 rfl) ?_
  refine lv_aload_n hx hb dL_law_194 rfl (lv_at hl 1 rfl) ?_
  refine lv_iload hx hb dL_law_195 (lv_at hl 5 rfl) ?_
  refine hz_iconst hx hb dL_law_197 ?_
  refine hz_iadd hx hb dL_law_198 ?_
  refine hz_sld hx hb hX0 hbl hbA hS (by omega) (by omega) dL_law_199 ?_
  refine hz_lawMi (As := [zi (sc xs (i + 1))]) (rest := []) ⟨hx, hb, hml, hown, hts⟩ (c_X8_mirror l G y ad _ vThrown vN vC vNow vHaze vCold vHot vPipe vDeg vThaw vTrc vTurb vLeft vLoad vWater vTrips vMissed vBRow vBSum vCell vDirt vAim vErr vCor vBrk vTop vLm vRows vCols vDown vRight vBound vStrain vPrice vFirm vSums vRays vFalls vSom vHad (sc xs (i + 1)) hN hCell (sc_rng _ _)) (cwV 1 hts gL_law_X8_mirror rfl rfl rfl (by decide +kernel) ⟨Nat.le_of_ble_eq_true rfl, Nat.le_of_ble_eq_true rfl⟩) hP hK hD hS hA 0 9 rfl rfl rfl rfl hl.1 rfl (Nat.le_of_ble_eq_true rfl) dL_law_200 ⟨by show (cells + 8) + 0 ≤ 601024; omega, by show (slots + 48) + 0 ≤ 7293034; omega⟩ (fun _ => rfl) (fun u H locs hu hP hD hS => ?_)
  obtain ⟨b_th, b_r, b_nCell, b_nAim, b_nN⟩ := u
  have hM := PLift.up hu
  clear hu
  have hP : va_P G vwCl (((hW ah a_nz y a_nN vC vNow vHaze vCold vHot vPipe vDeg cThaw vTrc vTurb vLeft vLoad vWater vTrips vMi1 vMi2 vSz vBs a_nCell vDirt a_nAim vErr vCor vBrk vTop vLm vRows vCols vDown vRight vBound vStrain vPrice vFirm vSums a_nTk vFl1 vFl2 vTe vAw vRo vBe) ++ oW o0 y a_nO) ++ (mW ad y b_th b_nN vC vNow vHaze vCold vHot vPipe vDeg vThaw vTrc vTurb vLeft vLoad vWater vTrips vMissed vBRow vBSum b_nCell vDirt b_nAim vErr vCor vBrk vTop vLm vRows vCols vDown vRight vBound vStrain vPrice vFirm vSums vRays vFalls vSom vHad)) H := hP
  have hD : va_D (fun q : Nat => s.heap.size ≤ q) (((hW ah a_nz y a_nN vC vNow vHaze vCold vHot vPipe vDeg cThaw vTrc vTurb vLeft vLoad vWater vTrips vMi1 vMi2 vSz vBs a_nCell vDirt a_nAim vErr vCor vBrk vTop vLm vRows vCols vDown vRight vBound vStrain vPrice vFirm vSums a_nTk vFl1 vFl2 vTe vAw vRo vBe) ++ oW o0 y a_nO) ++ (mW ad y b_th b_nN vC vNow vHaze vCold vHot vPipe vDeg vThaw vTrc vTurb vLeft vLoad vWater vTrips vMissed vBRow vBSum b_nCell vDirt b_nAim vErr vCor vBrk vTop vLm vRows vCols vDown vRight vBound vStrain vPrice vFirm vSums vRays vFalls vSom vHad)) := hD
  have hmk : b_th = kc := (hM.down.1).trans hkc.symm
  refine lv_istore (lv' := [(6, zi b_r), (5, zi kc), (0, .ref b), (1, .ref (ah 0)), (2, .ref (ad 0)), (3, .ref o0), (4, zi i)]) hx hb dL_law_203 hl (by decide) rfl (fun ls hl => ?_)
  refine lv_aload_n hx hb dL_law_205 rfl (lv_at hl 4 rfl) ?_
  refine hz_lawMi (As := []) (rest := []) ⟨hx, hb, hml, hown, hts⟩ (c_X8_thrown l G y ad _ b_th b_nN vC vNow vHaze vCold vHot vPipe vDeg vThaw vTrc vTurb vLeft vLoad vWater vTrips vMissed vBRow vBSum b_nCell vDirt b_nAim vErr vCor vBrk vTop vLm vRows vCols vDown vRight vBound vStrain vPrice vFirm vSums vRays vFalls vSom vHad) (cwV 0 hts gL_law_X8_thrown rfl rfl rfl (by decide +kernel) ⟨Nat.le_of_ble_eq_true rfl, Nat.le_of_ble_eq_true rfl⟩) hP hK hD hS hA 0 9 rfl rfl rfl rfl hl.1 rfl (Nat.le_of_ble_eq_true rfl) dL_law_206 ⟨by show (cells + 8) + 0 ≤ 601024; omega, by show (slots + 48) + 0 ≤ 7293034; omega⟩ (fun _ => rfl) (fun u H locs hu hP hD hS => ?_)
  have hP : va_P G vwCl (((hW ah a_nz y a_nN vC vNow vHaze vCold vHot vPipe vDeg cThaw vTrc vTurb vLeft vLoad vWater vTrips vMi1 vMi2 vSz vBs a_nCell vDirt a_nAim vErr vCor vBrk vTop vLm vRows vCols vDown vRight vBound vStrain vPrice vFirm vSums a_nTk vFl1 vFl2 vTe vAw vRo vBe) ++ oW o0 y a_nO) ++ (mW ad y b_th b_nN vC vNow vHaze vCold vHot vPipe vDeg vThaw vTrc vTurb vLeft vLoad vWater vTrips vMissed vBRow vBSum b_nCell vDirt b_nAim vErr vCor vBrk vTop vLm vRows vCols vDown vRight vBound vStrain vPrice vFirm vSums vRays vFalls vSom vHad)) H := hP
  have hD : va_D (fun q : Nat => s.heap.size ≤ q) (((hW ah a_nz y a_nN vC vNow vHaze vCold vHot vPipe vDeg cThaw vTrc vTurb vLeft vLoad vWater vTrips vMi1 vMi2 vSz vBs a_nCell vDirt a_nAim vErr vCor vBrk vTop vLm vRows vCols vDown vRight vBound vStrain vPrice vFirm vSums a_nTk vFl1 vFl2 vTe vAw vRo vBe) ++ oW o0 y a_nO) ++ (mW ad y b_th b_nN vC vNow vHaze vCold vHot vPipe vDeg vThaw vTrc vTurb vLeft vLoad vWater vTrips vMissed vBRow vBSum b_nCell vDirt b_nAim vErr vCor vBrk vTop vLm vRows vCols vDown vRight vBound vStrain vPrice vFirm vSums vRays vFalls vSom vHad)) := hD
  refine lv_iload hx hb dL_law_209 (lv_at hl 1 rfl) ?_
  refine hz_icmp_eq (tgt := 216) hx hb dL_law_211 (by decide) (by omega) (fun _ => ?_) (fun q => absurd (by omega) q)
  refine lv_iload hx hb dL_law_216 (lv_at hl 1 rfl) ?_
  refine hz_if_ne (tgt := 233) hx hb dL_law_218 (by decide) (by omega) (fun c1 => ?_) (fun c1 => ?_)
  · have h0 : ¬ (if ¬ (0 ≤ (sc xs (i + 1)) ∧ (sc xs (i + 1)) ≤ 63) then (1 : Int) else if vN = 12 ∨ ocZ vN vCell (sc xs (i + 1)) = 1 then 2 else 0) = 0 := fun q => c1 (hkc.trans q)
    have hPz := hP
    have hDz := hD
    have hs_z := (hU.down.2.2.2.2.2.1 h0).symm
    subst hs_z
    have hs_nN := (hU.down.2.2.2.2.2.2.1 h0).symm
    subst hs_nN
    have hs_nCell := (hU.down.2.2.2.2.2.2.2.1 h0).symm
    subst hs_nCell
    have hs_nAim := (hU.down.2.2.2.2.2.2.2.2.1 h0).symm
    subst hs_nAim
    have hs_nTk := (hU.down.2.2.2.2.2.2.2.2.2.1 h0).symm
    subst hs_nTk
    have ht_nCell := (hM.down.2.2.2.1 h0).symm
    subst ht_nCell
    have ht_nAim := (hM.down.2.2.2.2.2.1 h0).symm
    subst ht_nAim
    have ht_nN := (hM.down.2.2.2.2.2.2.2 h0).symm
    subst ht_nN
    have hP : va_P G vwCl (((hW ah z y vN vC vNow vHaze vCold vHot vPipe vDeg cThaw vTrc vTurb vLeft vLoad vWater vTrips vMi1 vMi2 vSz vBs vCell vDirt vAim vErr vCor vBrk vTop vLm vRows vCols vDown vRight vBound vStrain vPrice vFirm vSums vTk vFl1 vFl2 vTe vAw vRo vBe) ++ oW o0 y a_nO) ++ (mW ad y b_th vN vC vNow vHaze vCold vHot vPipe vDeg vThaw vTrc vTurb vLeft vLoad vWater vTrips vMissed vBRow vBSum vCell vDirt vAim vErr vCor vBrk vTop vLm vRows vCols vDown vRight vBound vStrain vPrice vFirm vSums vRays vFalls vSom vHad)) H := hPz
    have hD : va_D (fun q : Nat => s.heap.size ≤ q) (((hW ah z y vN vC vNow vHaze vCold vHot vPipe vDeg cThaw vTrc vTurb vLeft vLoad vWater vTrips vMi1 vMi2 vSz vBs vCell vDirt vAim vErr vCor vBrk vTop vLm vRows vCols vDown vRight vBound vStrain vPrice vFirm vSums vTk vFl1 vFl2 vTe vAw vRo vBe) ++ oW o0 y a_nO) ++ (mW ad y b_th vN vC vNow vHaze vCold vHot vPipe vDeg vThaw vTrc vTurb vLeft vLoad vWater vTrips vMissed vBRow vBSum vCell vDirt vAim vErr vCor vBrk vTop vLm vRows vCols vDown vRight vBound vStrain vPrice vFirm vSums vRays vFalls vSom vHad)) := hDz
    refine lv_goto (tgt := 1990) hx hb dL_law_233 (by decide) ?_
    refine W.widen (k := cells + 40) (n := slots + 400) (by omega) (by omega) ?_
    exact K z vN vC vNow vHaze vCold vHot vPipe vDeg cThaw vThaw vTrc vTurb vLeft vLoad vWater vTrips vMi1 vMi2 vSz vBs b_th vMissed vBRow vBSum vCell vDirt vAim vErr vCor vBrk vTop vLm vRows vCols vDown vRight vBound vStrain vPrice vFirm vSums vTk vFl1 vFl2 vTe vAw vRo vBe vRays vFalls vSom vHad a_nO H locs hFA0 hP hD hS ls (lv_sub hl [2, 3, 4, 5, 6] rfl)
  · have h0 : (if ¬ (0 ≤ (sc xs (i + 1)) ∧ (sc xs (i + 1)) ≤ 63) then (1 : Int) else if vN = 12 ∨ ocZ vN vCell (sc xs (i + 1)) = 1 then 2 else 0) = 0 := hkc.symm.trans c1
    have hPz := hP
    have hDz := hD
    have hs_nN := (hU.down.1 h0).symm
    subst hs_nN
    have hs_nCell := (hU.down.2.1 h0).symm
    subst hs_nCell
    have hs_nAim := (hU.down.2.2.1 h0).symm
    subst hs_nAim
    have hs_nTk := (hU.down.2.2.2.1 h0).symm
    subst hs_nTk
    have hzz0 := hU.down.2.2.2.2.1 h0
    have hout : a_nO 0 = wI (vN) := hU.down.2.2.2.2.2.2.2.2.2.2 h0
    have ht_nCell := (hM.down.2.2.1 h0).symm
    subst ht_nCell
    have ht_nAim := (hM.down.2.2.2.2.1 h0).symm
    subst ht_nAim
    have ht_nN := (hM.down.2.2.2.2.2.2.1 h0).symm
    subst ht_nN
    have hans : b_r = vN := hM.down.2.1 h0
    have hP : va_P G vwCl (((hW ah a_nz y (vN + 1) vC vNow vHaze vCold vHot vPipe vDeg cThaw vTrc vTurb vLeft vLoad vWater vTrips vMi1 vMi2 vSz vBs (upZ vCell vN (sc xs (i + 1))) vDirt (upZ vAim vN (-1)) vErr vCor vBrk vTop vLm vRows vCols vDown vRight vBound vStrain vPrice vFirm vSums (upZ vTk (sc xs (i + 1)) 1) vFl1 vFl2 vTe vAw vRo vBe) ++ oW o0 y a_nO) ++ (mW ad y b_th (vN + 1) vC vNow vHaze vCold vHot vPipe vDeg vThaw vTrc vTurb vLeft vLoad vWater vTrips vMissed vBRow vBSum (upZ vCell vN (sc xs (i + 1))) vDirt (upZ vAim vN (-1)) vErr vCor vBrk vTop vLm vRows vCols vDown vRight vBound vStrain vPrice vFirm vSums vRays vFalls vSom vHad)) H := hPz
    have hD : va_D (fun q : Nat => s.heap.size ≤ q) (((hW ah a_nz y (vN + 1) vC vNow vHaze vCold vHot vPipe vDeg cThaw vTrc vTurb vLeft vLoad vWater vTrips vMi1 vMi2 vSz vBs (upZ vCell vN (sc xs (i + 1))) vDirt (upZ vAim vN (-1)) vErr vCor vBrk vTop vLm vRows vCols vDown vRight vBound vStrain vPrice vFirm vSums (upZ vTk (sc xs (i + 1)) 1) vFl1 vFl2 vTe vAw vRo vBe) ++ oW o0 y a_nO) ++ (mW ad y b_th (vN + 1) vC vNow vHaze vCold vHot vPipe vDeg vThaw vTrc vTurb vLeft vLoad vWater vTrips vMissed vBRow vBSum (upZ vCell vN (sc xs (i + 1))) vDirt (upZ vAim vN (-1)) vErr vCor vBrk vTop vLm vRows vCols vDown vRight vBound vStrain vPrice vFirm vSums vRays vFalls vSom vHad)) := hDz
    refine lv_aload_n hx hb dL_law_221 rfl (lv_at hl 5 rfl) ?_
    refine hz_iconst hx hb dL_law_222 ?_
    refine hz_laldo hx hb hK hP dL_law_223 ?_
    refine lv_iload hx hb dL_law_224 (lv_at hl 0 rfl) ?_
    refine hz_i2lw hx hb dL_law_226 ?_
    refine hz_lcmp hx hb dL_law_227 (fun v hv => ?_)
    refine lv_if_eq (tgt := 233) hx hb dL_law_228 (by decide) (fun _ => ?_) (fun q => absurd (hv.mpr (congrArg zL (hout.trans (congrArg wI hans.symm)))) q)
    refine lv_goto (tgt := 1990) hx hb dL_law_233 (by decide) ?_
    refine W.widen (k := cells + 40) (n := slots + 400) (by omega) (by omega) ?_
    exact K a_nz (vN + 1) vC vNow vHaze vCold vHot vPipe vDeg cThaw vThaw vTrc vTurb vLeft vLoad vWater vTrips vMi1 vMi2 vSz vBs b_th vMissed vBRow vBSum (upZ vCell vN (sc xs (i + 1))) vDirt (upZ vAim vN (-1)) vErr vCor vBrk vTop vLm vRows vCols vDown vRight vBound vStrain vPrice vFirm vSums (upZ vTk (sc xs (i + 1)) 1) vFl1 vFl2 vTe vAw vRo vBe vRays vFalls vSom vHad a_nO H locs ⟨(show LZok a_nz (vN + 1) vC from hzz0.1), (show LZe a_nz zE from hzz0.2), (show ∀ k : Int, 0 ≤ k → k < 64 → (upZ vTk (sc xs (i + 1)) 1) k = ocZ (vN + 1) (upZ vCell vN (sc xs (i + 1))) k from tk_put hTk (by omega)), (show 0 ≤ (vN + 1) ∧ (vN + 1) ≤ 12 from by omega), hC, hNow, hHaze, hSalt, hPipe, hDeg, hThC, hThM, hThE, hTrc, hTurb, hLeft, hLoad, hWater, hTrips, (show ∀ k : Int, 0 ≤ (upZ vCell vN (sc xs (i + 1))) k ∧ (upZ vCell vN (sc xs (i + 1))) k ≤ 63 from upZ_rng hCell (by omega)), hDirt, (show ∀ k : Int, -1 ≤ (upZ vAim vN (-1)) k ∧ (upZ vAim vN (-1)) k ≤ 5 from upZ_rng hAim (by omega)), hErr, hCor, hBrk, hTop, hLm, hRows, hCols, hDown, hRight, hBound, hStrain, hPrice, hFirm, (show ∀ k9 : Int, (vN + 1) ≤ k9 → vDirt k9 = 0 ∧ vErr k9 = 0 ∧ vCor k9 = 0 ∧ vBrk k9 = 0 from fun k9 q9 => hE0 k9 (by omega))⟩ hP hD hS ls (lv_sub hl [2, 3, 4, 5, 6] rfl)
set_option maxHeartbeats 16000000 in
set_option maxRecDepth 100000 in
theorem lw_c1 (p : Program) (l : Launch) (e : Env) (s : State) (m : MethodId) (below : List Frame) (meth : Method) (c : Code) (b L : Nat) (xs : Nat → Int32) (G : va_G) (mi zE : Nat) (y : Nat → ClassId) (ah ad : Nat → Nat) (o0 : Nat) (cells slots : Nat) (i : Int) (hQ : LC p l s m meth c b L xs G mi zE y) (hi : 0 ≤ i ∧ i + 7 ≤ L) (hroom : cells + 40 ≤ 601024 ∧ slots + 400 ≤ 7293034) (K : LK p l e s m below meth c b L xs G mi zE y ah ad o0 (cells + 40) (slots + 400) i 1990) : LK p l e s m below meth c b L xs G mi zE y ah ad o0 cells slots i 236 := by
  intro z vN vC vNow vHaze vCold vHot vPipe vDeg cThaw vThaw vTrc vTurb vLeft vLoad vWater vTrips vMi1 vMi2 vSz vBs vThrown vMissed vBRow vBSum vCell vDirt vAim vErr vCor vBrk vTop vLm vRows vCols vDown vRight vBound vStrain vPrice vFirm vSums vTk vFl1 vFl2 vTe vAw vRo vBe vRays vFalls vSom vHad vO H locs hFA hP hD hS ls hl
  obtain ⟨hx, hb, hr, hts, hown, hml, hX0, hbl, hL, hlocks, hK, hGP, hX, hGN, hlt⟩ := hQ
  have hA : ∀ q : Nat, s.heap.size ≤ q → (fun q : Nat => s.heap.size ≤ q) q := fun _ h => h
  have hbA : ¬ (fun q : Nat => s.heap.size ≤ q) b := Nat.not_le.mpr hbl
  have hFA0 := hFA
  obtain ⟨hZ, hZe, hTk, hN, hC, hNow, hHaze, hSalt, hPipe, hDeg, hThC, hThM, hThE, hTrc, hTurb, hLeft, hLoad, hWater, hTrips, hCell, hDirt, hAim, hErr, hCor, hBrk, hTop, hLm, hRows, hCols, hDown, hRight, hBound, hStrain, hPrice, hFirm, hE0⟩ := hFA
  refine lv_aload_n hx hb dL_law_236 rfl (lv_at hl 1 rfl) ?_
  refine lv_aload_n hx hb dL_law_237 rfl (lv_at hl 0 rfl) ?_
  refine lv_iload hx hb dL_law_238 (lv_at hl 4 rfl) ?_
  refine hz_iconst hx hb dL_law_240 ?_
  refine hz_iadd hx hb dL_law_241 ?_
  refine hz_sld hx hb hX0 hbl hbA hS (by omega) (by omega) dL_law_242 ?_
  refine lv_aload_n hx hb dL_law_243 rfl (lv_at hl 0 rfl) ?_
  refine lv_iload hx hb dL_law_244 (lv_at hl 4 rfl) ?_
  refine hz_iconst hx hb dL_law_246 ?_
  refine hz_iadd hx hb dL_law_247 ?_
  refine hz_sld hx hb hX0 hbl hbA hS (by omega) (by omega) dL_law_248 ?_
  refine hz_lawL (As := [.ref (ah 0), zi (sc xs (i + 1)), zi (sc xs (i + 2))]) (rest := []) ⟨hx, hb, hml, hown, hts⟩ (c_L_drift l hlt G ah z mi zE y _ vN vC vNow vHaze vCold vHot vPipe vDeg cThaw vTrc vTurb vLeft vLoad vWater vTrips vMi1 vMi2 vSz vBs vCell vDirt vAim vErr vCor vBrk vTop vLm vRows vCols vDown vRight vBound vStrain vPrice vFirm vSums vTk vFl1 vFl2 vTe vAw vRo vBe o0 vO (sc xs (i + 1)) (sc xs (i + 2)) hZ hN hErr (sc_rng _ _) (sc_rng _ _)) (vx_cwSW 3 hts gL_law_L_drift rfl rfl rfl (by decide +kernel) ⟨Nat.le_of_ble_eq_true rfl, Nat.le_of_ble_eq_true rfl⟩) hP hK hD hS hA hGP hX hGN rfl hl.1 rfl (Nat.le_of_ble_eq_true rfl) dL_law_249 ⟨by show cells + 2 ≤ 601024; omega, by show slots + 12 ≤ 7293034; omega⟩ (fun r u H locs hu hP hD hS => ?_)
  obtain ⟨a_nErr, heq9⟩ : ∃ z9, z9 = u := ⟨_, rfl⟩
  subst heq9
  obtain ⟨rfl, hu⟩ := hu
  have hU := PLift.up hu
  clear hu
  refine hz_topi (fun kc hkc => ?_)
  have hP : va_P G vwCl (((hW ah z y vN vC vNow vHaze vCold vHot vPipe vDeg cThaw vTrc vTurb vLeft vLoad vWater vTrips vMi1 vMi2 vSz vBs vCell vDirt vAim a_nErr vCor vBrk vTop vLm vRows vCols vDown vRight vBound vStrain vPrice vFirm vSums vTk vFl1 vFl2 vTe vAw vRo vBe) ++ oW o0 y vO) ++ (mW ad y vThrown vN vC vNow vHaze vCold vHot vPipe vDeg vThaw vTrc vTurb vLeft vLoad vWater vTrips vMissed vBRow vBSum vCell vDirt vAim vErr vCor vBrk vTop vLm vRows vCols vDown vRight vBound vStrain vPrice vFirm vSums vRays vFalls vSom vHad)) H := hP
  have hD : va_D (fun q : Nat => s.heap.size ≤ q) (((hW ah z y vN vC vNow vHaze vCold vHot vPipe vDeg cThaw vTrc vTurb vLeft vLoad vWater vTrips vMi1 vMi2 vSz vBs vCell vDirt vAim a_nErr vCor vBrk vTop vLm vRows vCols vDown vRight vBound vStrain vPrice vFirm vSums vTk vFl1 vFl2 vTe vAw vRo vBe) ++ oW o0 y vO) ++ (mW ad y vThrown vN vC vNow vHaze vCold vHot vPipe vDeg vThaw vTrc vTurb vLeft vLoad vWater vTrips vMissed vBRow vBSum vCell vDirt vAim vErr vCor vBrk vTop vLm vRows vCols vDown vRight vBound vStrain vPrice vFirm vSums vRays vFalls vSom vHad)) := hD
  have hkr : 0 ≤ kc ∧ kc ≤ 3 := by rw [hkc]; first | omega | (split <;> (try split) <;> (try split) <;> omega)
  refine lv_istore (lv' := [(5, zi kc), (0, .ref b), (1, .ref (ah 0)), (2, .ref (ad 0)), (3, .ref o0), (4, zi i)]) hx hb dL_law_252 hl (by decide) rfl (fun ls hl => ?_)
  refine lv_aload_n hx hb dL_law_254 rfl (lv_at hl 3 rfl) ?_
  refine lv_aload_n hx hb dL_law_255 rfl (lv_at hl 1 rfl) ?_
  refine lv_iload hx hb dL_law_256 (lv_at hl 5 rfl) ?_
  refine hz_iconst hx hb dL_law_258 ?_
  refine hz_iadd hx hb dL_law_259 ?_
  refine hz_sld hx hb hX0 hbl hbA hS (by omega) (by omega) dL_law_260 ?_
  refine lv_aload_n hx hb dL_law_261 rfl (lv_at hl 1 rfl) ?_
  refine lv_iload hx hb dL_law_262 (lv_at hl 5 rfl) ?_
  refine hz_iconst hx hb dL_law_264 ?_
  refine hz_iadd hx hb dL_law_265 ?_
  refine hz_sld hx hb hX0 hbl hbA hS (by omega) (by omega) dL_law_266 ?_
  refine hz_lawMv (As := [zi (sc xs (i + 1)), zi (sc xs (i + 2))]) (rest := []) ⟨hx, hb, hml, hown, hts⟩ (c_X8_drift l G y ad _ vThrown vN vC vNow vHaze vCold vHot vPipe vDeg vThaw vTrc vTurb vLeft vLoad vWater vTrips vMissed vBRow vBSum vCell vDirt vAim vErr vCor vBrk vTop vLm vRows vCols vDown vRight vBound vStrain vPrice vFirm vSums vRays vFalls vSom vHad (sc xs (i + 1)) (sc xs (i + 2)) hN hErr (sc_rng _ _) (sc_rng _ _)) (cwV 2 hts gL_law_X8_drift rfl rfl rfl (by decide +kernel) ⟨Nat.le_of_ble_eq_true rfl, Nat.le_of_ble_eq_true rfl⟩) hP hK hD hS hA 0 9 rfl rfl rfl rfl hl.1 rfl (Nat.le_of_ble_eq_true rfl) dL_law_267 ⟨by show (cells + 2) + 0 ≤ 601024; omega, by show (slots + 12) + 0 ≤ 7293034; omega⟩ (fun _ => rfl) (fun u H locs hu hP hD hS => ?_)
  obtain ⟨b_th, b_nErr⟩ := u
  have hM := PLift.up hu
  clear hu
  have hP : va_P G vwCl (((hW ah z y vN vC vNow vHaze vCold vHot vPipe vDeg cThaw vTrc vTurb vLeft vLoad vWater vTrips vMi1 vMi2 vSz vBs vCell vDirt vAim a_nErr vCor vBrk vTop vLm vRows vCols vDown vRight vBound vStrain vPrice vFirm vSums vTk vFl1 vFl2 vTe vAw vRo vBe) ++ oW o0 y vO) ++ (mW ad y b_th vN vC vNow vHaze vCold vHot vPipe vDeg vThaw vTrc vTurb vLeft vLoad vWater vTrips vMissed vBRow vBSum vCell vDirt vAim b_nErr vCor vBrk vTop vLm vRows vCols vDown vRight vBound vStrain vPrice vFirm vSums vRays vFalls vSom vHad)) H := hP
  have hD : va_D (fun q : Nat => s.heap.size ≤ q) (((hW ah z y vN vC vNow vHaze vCold vHot vPipe vDeg cThaw vTrc vTurb vLeft vLoad vWater vTrips vMi1 vMi2 vSz vBs vCell vDirt vAim a_nErr vCor vBrk vTop vLm vRows vCols vDown vRight vBound vStrain vPrice vFirm vSums vTk vFl1 vFl2 vTe vAw vRo vBe) ++ oW o0 y vO) ++ (mW ad y b_th vN vC vNow vHaze vCold vHot vPipe vDeg vThaw vTrc vTurb vLeft vLoad vWater vTrips vMissed vBRow vBSum vCell vDirt vAim b_nErr vCor vBrk vTop vLm vRows vCols vDown vRight vBound vStrain vPrice vFirm vSums vRays vFalls vSom vHad)) := hD
  have hmk : b_th = kc := (hM.down.1).trans hkc.symm
  refine lv_aload_n hx hb dL_law_270 rfl (lv_at hl 3 rfl) ?_
  refine hz_lawMi (As := []) (rest := []) ⟨hx, hb, hml, hown, hts⟩ (c_X8_thrown l G y ad _ b_th vN vC vNow vHaze vCold vHot vPipe vDeg vThaw vTrc vTurb vLeft vLoad vWater vTrips vMissed vBRow vBSum vCell vDirt vAim b_nErr vCor vBrk vTop vLm vRows vCols vDown vRight vBound vStrain vPrice vFirm vSums vRays vFalls vSom vHad) (cwV 0 hts gL_law_X8_thrown rfl rfl rfl (by decide +kernel) ⟨Nat.le_of_ble_eq_true rfl, Nat.le_of_ble_eq_true rfl⟩) hP hK hD hS hA 0 9 rfl rfl rfl rfl hl.1 rfl (Nat.le_of_ble_eq_true rfl) dL_law_271 ⟨by show (cells + 2) + 0 ≤ 601024; omega, by show (slots + 12) + 0 ≤ 7293034; omega⟩ (fun _ => rfl) (fun u H locs hu hP hD hS => ?_)
  have hP : va_P G vwCl (((hW ah z y vN vC vNow vHaze vCold vHot vPipe vDeg cThaw vTrc vTurb vLeft vLoad vWater vTrips vMi1 vMi2 vSz vBs vCell vDirt vAim a_nErr vCor vBrk vTop vLm vRows vCols vDown vRight vBound vStrain vPrice vFirm vSums vTk vFl1 vFl2 vTe vAw vRo vBe) ++ oW o0 y vO) ++ (mW ad y b_th vN vC vNow vHaze vCold vHot vPipe vDeg vThaw vTrc vTurb vLeft vLoad vWater vTrips vMissed vBRow vBSum vCell vDirt vAim b_nErr vCor vBrk vTop vLm vRows vCols vDown vRight vBound vStrain vPrice vFirm vSums vRays vFalls vSom vHad)) H := hP
  have hD : va_D (fun q : Nat => s.heap.size ≤ q) (((hW ah z y vN vC vNow vHaze vCold vHot vPipe vDeg cThaw vTrc vTurb vLeft vLoad vWater vTrips vMi1 vMi2 vSz vBs vCell vDirt vAim a_nErr vCor vBrk vTop vLm vRows vCols vDown vRight vBound vStrain vPrice vFirm vSums vTk vFl1 vFl2 vTe vAw vRo vBe) ++ oW o0 y vO) ++ (mW ad y b_th vN vC vNow vHaze vCold vHot vPipe vDeg vThaw vTrc vTurb vLeft vLoad vWater vTrips vMissed vBRow vBSum vCell vDirt vAim b_nErr vCor vBrk vTop vLm vRows vCols vDown vRight vBound vStrain vPrice vFirm vSums vRays vFalls vSom vHad)) := hD
  refine lv_iload hx hb dL_law_274 (lv_at hl 0 rfl) ?_
  refine hz_icmp_eq (tgt := 281) hx hb dL_law_276 (by decide) (by omega) (fun _ => ?_) (fun q => absurd (by omega) q)
  by_cases c1 : kc = 0
  · have h0 : (if ¬ (0 ≤ (sc xs (i + 1)) ∧ (sc xs (i + 1)) < vN) then (1 : Int) else if ¬ (-6 ≤ (sc xs (i + 2)) ∧ (sc xs (i + 2)) ≤ 6) then 2 else 0) = 0 := hkc.symm.trans c1
    have hPz := hP
    have hDz := hD
    have hs_nErr := (hU.down.1 h0).symm
    subst hs_nErr
    have ht_nErr := (hM.down.2.1 h0).symm
    subst ht_nErr
    have hP : va_P G vwCl (((hW ah z y vN vC vNow vHaze vCold vHot vPipe vDeg cThaw vTrc vTurb vLeft vLoad vWater vTrips vMi1 vMi2 vSz vBs vCell vDirt vAim (upZ vErr (sc xs (i + 1)) (hdZ ((vErr (sc xs (i + 1))) + (sc xs (i + 2))) (-3) 3)) vCor vBrk vTop vLm vRows vCols vDown vRight vBound vStrain vPrice vFirm vSums vTk vFl1 vFl2 vTe vAw vRo vBe) ++ oW o0 y vO) ++ (mW ad y b_th vN vC vNow vHaze vCold vHot vPipe vDeg vThaw vTrc vTurb vLeft vLoad vWater vTrips vMissed vBRow vBSum vCell vDirt vAim (upZ vErr (sc xs (i + 1)) (hdZ ((vErr (sc xs (i + 1))) + (sc xs (i + 2))) (-3) 3)) vCor vBrk vTop vLm vRows vCols vDown vRight vBound vStrain vPrice vFirm vSums vRays vFalls vSom vHad)) H := hPz
    have hD : va_D (fun q : Nat => s.heap.size ≤ q) (((hW ah z y vN vC vNow vHaze vCold vHot vPipe vDeg cThaw vTrc vTurb vLeft vLoad vWater vTrips vMi1 vMi2 vSz vBs vCell vDirt vAim (upZ vErr (sc xs (i + 1)) (hdZ ((vErr (sc xs (i + 1))) + (sc xs (i + 2))) (-3) 3)) vCor vBrk vTop vLm vRows vCols vDown vRight vBound vStrain vPrice vFirm vSums vTk vFl1 vFl2 vTe vAw vRo vBe) ++ oW o0 y vO) ++ (mW ad y b_th vN vC vNow vHaze vCold vHot vPipe vDeg vThaw vTrc vTurb vLeft vLoad vWater vTrips vMissed vBRow vBSum vCell vDirt vAim (upZ vErr (sc xs (i + 1)) (hdZ ((vErr (sc xs (i + 1))) + (sc xs (i + 2))) (-3) 3)) vCor vBrk vTop vLm vRows vCols vDown vRight vBound vStrain vPrice vFirm vSums vRays vFalls vSom vHad)) := hDz
    refine lv_goto (tgt := 1990) hx hb dL_law_281 (by decide) ?_
    refine W.widen (k := cells + 40) (n := slots + 400) (by omega) (by omega) ?_
    exact K z vN vC vNow vHaze vCold vHot vPipe vDeg cThaw vThaw vTrc vTurb vLeft vLoad vWater vTrips vMi1 vMi2 vSz vBs b_th vMissed vBRow vBSum vCell vDirt vAim (upZ vErr (sc xs (i + 1)) (hdZ ((vErr (sc xs (i + 1))) + (sc xs (i + 2))) (-3) 3)) vCor vBrk vTop vLm vRows vCols vDown vRight vBound vStrain vPrice vFirm vSums vTk vFl1 vFl2 vTe vAw vRo vBe vRays vFalls vSom vHad vO H locs ⟨hZ, hZe, hTk, hN, hC, hNow, hHaze, hSalt, hPipe, hDeg, hThC, hThM, hThE, hTrc, hTurb, hLeft, hLoad, hWater, hTrips, hCell, hDirt, hAim, (show ∀ k : Int, -3 ≤ (upZ vErr (sc xs (i + 1)) (hdZ ((vErr (sc xs (i + 1))) + (sc xs (i + 2))) (-3) 3)) k ∧ (upZ vErr (sc xs (i + 1)) (hdZ ((vErr (sc xs (i + 1))) + (sc xs (i + 2))) (-3) 3)) k ≤ 3 from upZ_rng hErr (by have q := hdZ_rng (v := vErr (sc xs (i + 1)) + (sc xs (i + 2))) (a := -3) (b := 3) (by omega); omega)), hCor, hBrk, hTop, hLm, hRows, hCols, hDown, hRight, hBound, hStrain, hPrice, hFirm, (show ∀ k9 : Int, vN ≤ k9 → vDirt k9 = 0 ∧ (upZ vErr (sc xs (i + 1)) (hdZ ((vErr (sc xs (i + 1))) + (sc xs (i + 2))) (-3) 3)) k9 = 0 ∧ vCor k9 = 0 ∧ vBrk k9 = 0 from fun k9 q9 => by
          have q := hE0 k9 q9
          rw [upZ_n (show ¬ k9 = (sc xs (i + 1)) by omega)]
          exact q)⟩ hP hD hS ls (lv_sub hl [1, 2, 3, 4, 5] rfl)
  · have h0 : ¬ (if ¬ (0 ≤ (sc xs (i + 1)) ∧ (sc xs (i + 1)) < vN) then (1 : Int) else if ¬ (-6 ≤ (sc xs (i + 2)) ∧ (sc xs (i + 2)) ≤ 6) then 2 else 0) = 0 := fun q => c1 (hkc.trans q)
    have hPz := hP
    have hDz := hD
    have hs_nErr := (hU.down.2 h0).symm
    subst hs_nErr
    have ht_nErr := (hM.down.2.2 h0).symm
    subst ht_nErr
    have hP : va_P G vwCl (((hW ah z y vN vC vNow vHaze vCold vHot vPipe vDeg cThaw vTrc vTurb vLeft vLoad vWater vTrips vMi1 vMi2 vSz vBs vCell vDirt vAim vErr vCor vBrk vTop vLm vRows vCols vDown vRight vBound vStrain vPrice vFirm vSums vTk vFl1 vFl2 vTe vAw vRo vBe) ++ oW o0 y vO) ++ (mW ad y b_th vN vC vNow vHaze vCold vHot vPipe vDeg vThaw vTrc vTurb vLeft vLoad vWater vTrips vMissed vBRow vBSum vCell vDirt vAim vErr vCor vBrk vTop vLm vRows vCols vDown vRight vBound vStrain vPrice vFirm vSums vRays vFalls vSom vHad)) H := hPz
    have hD : va_D (fun q : Nat => s.heap.size ≤ q) (((hW ah z y vN vC vNow vHaze vCold vHot vPipe vDeg cThaw vTrc vTurb vLeft vLoad vWater vTrips vMi1 vMi2 vSz vBs vCell vDirt vAim vErr vCor vBrk vTop vLm vRows vCols vDown vRight vBound vStrain vPrice vFirm vSums vTk vFl1 vFl2 vTe vAw vRo vBe) ++ oW o0 y vO) ++ (mW ad y b_th vN vC vNow vHaze vCold vHot vPipe vDeg vThaw vTrc vTurb vLeft vLoad vWater vTrips vMissed vBRow vBSum vCell vDirt vAim vErr vCor vBrk vTop vLm vRows vCols vDown vRight vBound vStrain vPrice vFirm vSums vRays vFalls vSom vHad)) := hDz
    refine lv_goto (tgt := 1990) hx hb dL_law_281 (by decide) ?_
    refine W.widen (k := cells + 40) (n := slots + 400) (by omega) (by omega) ?_
    exact K z vN vC vNow vHaze vCold vHot vPipe vDeg cThaw vThaw vTrc vTurb vLeft vLoad vWater vTrips vMi1 vMi2 vSz vBs b_th vMissed vBRow vBSum vCell vDirt vAim vErr vCor vBrk vTop vLm vRows vCols vDown vRight vBound vStrain vPrice vFirm vSums vTk vFl1 vFl2 vTe vAw vRo vBe vRays vFalls vSom vHad vO H locs hFA0 hP hD hS ls (lv_sub hl [1, 2, 3, 4, 5] rfl)
set_option maxHeartbeats 16000000 in
set_option maxRecDepth 100000 in
theorem lw_c2 (p : Program) (l : Launch) (e : Env) (s : State) (m : MethodId) (below : List Frame) (meth : Method) (c : Code) (b L : Nat) (xs : Nat → Int32) (G : va_G) (mi zE : Nat) (y : Nat → ClassId) (ah ad : Nat → Nat) (o0 : Nat) (cells slots : Nat) (i : Int) (hQ : LC p l s m meth c b L xs G mi zE y) (hi : 0 ≤ i ∧ i + 7 ≤ L) (hroom : cells + 40 ≤ 601024 ∧ slots + 400 ≤ 7293034) (K : LK p l e s m below meth c b L xs G mi zE y ah ad o0 (cells + 40) (slots + 400) i 1990) : LK p l e s m below meth c b L xs G mi zE y ah ad o0 cells slots i 284 := by
  intro z vN vC vNow vHaze vCold vHot vPipe vDeg cThaw vThaw vTrc vTurb vLeft vLoad vWater vTrips vMi1 vMi2 vSz vBs vThrown vMissed vBRow vBSum vCell vDirt vAim vErr vCor vBrk vTop vLm vRows vCols vDown vRight vBound vStrain vPrice vFirm vSums vTk vFl1 vFl2 vTe vAw vRo vBe vRays vFalls vSom vHad vO H locs hFA hP hD hS ls hl
  obtain ⟨hx, hb, hr, hts, hown, hml, hX0, hbl, hL, hlocks, hK, hGP, hX, hGN, hlt⟩ := hQ
  have hA : ∀ q : Nat, s.heap.size ≤ q → (fun q : Nat => s.heap.size ≤ q) q := fun _ h => h
  have hbA : ¬ (fun q : Nat => s.heap.size ≤ q) b := Nat.not_le.mpr hbl
  have hFA0 := hFA
  obtain ⟨hZ, hZe, hTk, hN, hC, hNow, hHaze, hSalt, hPipe, hDeg, hThC, hThM, hThE, hTrc, hTurb, hLeft, hLoad, hWater, hTrips, hCell, hDirt, hAim, hErr, hCor, hBrk, hTop, hLm, hRows, hCols, hDown, hRight, hBound, hStrain, hPrice, hFirm, hE0⟩ := hFA
  refine lv_aload_n hx hb dL_law_284 rfl (lv_at hl 1 rfl) ?_
  refine lv_aload_n hx hb dL_law_285 rfl (lv_at hl 0 rfl) ?_
  refine lv_iload hx hb dL_law_286 (lv_at hl 4 rfl) ?_
  refine hz_iconst hx hb dL_law_288 ?_
  refine hz_iadd hx hb dL_law_289 ?_
  refine hz_sld hx hb hX0 hbl hbA hS (by omega) (by omega) dL_law_290 ?_
  refine lv_aload_n hx hb dL_law_291 rfl (lv_at hl 3 rfl) ?_
  refine hz_lawL (As := [.ref (ah 0), zi (sc xs (i + 1)), .ref o0]) (rest := []) ⟨hx, hb, hml, hown, hts⟩ (c_L_measure l hlt G ah z mi zE y _ vN vC vNow vHaze vCold vHot vPipe vDeg cThaw vTrc vTurb vLeft vLoad vWater vTrips vMi1 vMi2 vSz vBs vCell vDirt vAim vErr vCor vBrk vTop vLm vRows vCols vDown vRight vBound vStrain vPrice vFirm vSums vTk vFl1 vFl2 vTe vAw vRo vBe o0 vO (sc xs (i + 1)) hZ hTk hN hC hNow hHaze hCell hDirt hTop hLm hRows hCols hDown hRight (sc_rng _ _)) (vx_cwSW 3 hts gL_law_L_measure rfl rfl rfl (by decide +kernel) ⟨Nat.le_of_ble_eq_true rfl, Nat.le_of_ble_eq_true rfl⟩) hP hK hD hS hA hGP hX hGN rfl hl.1 rfl (Nat.le_of_ble_eq_true rfl) dL_law_292 ⟨by show cells + 2 ≤ 601024; omega, by show slots + 12 ≤ 7293034; omega⟩ (fun r u H locs hu hP hD hS => ?_)
  obtain ⟨a_nO, heq9⟩ : ∃ z9, z9 = u := ⟨_, rfl⟩
  subst heq9
  obtain ⟨rfl, hu⟩ := hu
  have hU := PLift.up hu
  clear hu
  refine hz_topi (fun kc hkc => ?_)
  have hP : va_P G vwCl (((hW ah z y vN vC vNow vHaze vCold vHot vPipe vDeg cThaw vTrc vTurb vLeft vLoad vWater vTrips vMi1 vMi2 vSz vBs vCell vDirt vAim vErr vCor vBrk vTop vLm vRows vCols vDown vRight vBound vStrain vPrice vFirm vSums vTk vFl1 vFl2 vTe vAw vRo vBe) ++ oW o0 y a_nO) ++ (mW ad y vThrown vN vC vNow vHaze vCold vHot vPipe vDeg vThaw vTrc vTurb vLeft vLoad vWater vTrips vMissed vBRow vBSum vCell vDirt vAim vErr vCor vBrk vTop vLm vRows vCols vDown vRight vBound vStrain vPrice vFirm vSums vRays vFalls vSom vHad)) H := hP
  have hD : va_D (fun q : Nat => s.heap.size ≤ q) (((hW ah z y vN vC vNow vHaze vCold vHot vPipe vDeg cThaw vTrc vTurb vLeft vLoad vWater vTrips vMi1 vMi2 vSz vBs vCell vDirt vAim vErr vCor vBrk vTop vLm vRows vCols vDown vRight vBound vStrain vPrice vFirm vSums vTk vFl1 vFl2 vTe vAw vRo vBe) ++ oW o0 y a_nO) ++ (mW ad y vThrown vN vC vNow vHaze vCold vHot vPipe vDeg vThaw vTrc vTurb vLeft vLoad vWater vTrips vMissed vBRow vBSum vCell vDirt vAim vErr vCor vBrk vTop vLm vRows vCols vDown vRight vBound vStrain vPrice vFirm vSums vRays vFalls vSom vHad)) := hD
  have hkr : 0 ≤ kc ∧ kc ≤ 3 := by rw [hkc]; first | omega | (split <;> (try split) <;> (try split) <;> omega)
  refine lv_istore (lv' := [(5, zi kc), (0, .ref b), (1, .ref (ah 0)), (2, .ref (ad 0)), (3, .ref o0), (4, zi i)]) hx hb dL_law_295 hl (by decide) rfl (fun ls hl => ?_)
  refine lv_aload_n hx hb dL_law_297 rfl (lv_at hl 3 rfl) ?_
  refine lv_aload_n hx hb dL_law_298 rfl (lv_at hl 1 rfl) ?_
  refine lv_iload hx hb dL_law_299 (lv_at hl 5 rfl) ?_
  refine hz_iconst hx hb dL_law_301 ?_
  refine hz_iadd hx hb dL_law_302 ?_
  refine hz_sld hx hb hX0 hbl hbA hS (by omega) (by omega) dL_law_303 ?_
  refine hz_lawMi (As := [zi (sc xs (i + 1))]) (rest := []) ⟨hx, hb, hml, hown, hts⟩ (c_X8_measure l G y ad _ vThrown vN vC vNow vHaze vCold vHot vPipe vDeg vThaw vTrc vTurb vLeft vLoad vWater vTrips vMissed vBRow vBSum vCell vDirt vAim vErr vCor vBrk vTop vLm vRows vCols vDown vRight vBound vStrain vPrice vFirm vSums vRays vFalls vSom vHad (sc xs (i + 1)) hN hC hNow hHaze hCell hDirt hTop hLm hRows hCols hDown hRight (sc_rng _ _)) (cwV 1 hts gL_law_X8_measure rfl rfl rfl (by decide +kernel) ⟨Nat.le_of_ble_eq_true rfl, Nat.le_of_ble_eq_true rfl⟩) hP hK hD hS hA 0 9 rfl rfl rfl rfl hl.1 rfl (Nat.le_of_ble_eq_true rfl) dL_law_304 ⟨by show (cells + 2) + 0 ≤ 601024; omega, by show (slots + 12) + 0 ≤ 7293034; omega⟩ (fun _ => rfl) (fun u H locs hu hP hD hS => ?_)
  obtain ⟨b_th, b_r⟩ := u
  have hM := PLift.up hu
  clear hu
  have hP : va_P G vwCl (((hW ah z y vN vC vNow vHaze vCold vHot vPipe vDeg cThaw vTrc vTurb vLeft vLoad vWater vTrips vMi1 vMi2 vSz vBs vCell vDirt vAim vErr vCor vBrk vTop vLm vRows vCols vDown vRight vBound vStrain vPrice vFirm vSums vTk vFl1 vFl2 vTe vAw vRo vBe) ++ oW o0 y a_nO) ++ (mW ad y b_th vN vC vNow vHaze vCold vHot vPipe vDeg vThaw vTrc vTurb vLeft vLoad vWater vTrips vMissed vBRow vBSum vCell vDirt vAim vErr vCor vBrk vTop vLm vRows vCols vDown vRight vBound vStrain vPrice vFirm vSums vRays vFalls vSom vHad)) H := hP
  have hD : va_D (fun q : Nat => s.heap.size ≤ q) (((hW ah z y vN vC vNow vHaze vCold vHot vPipe vDeg cThaw vTrc vTurb vLeft vLoad vWater vTrips vMi1 vMi2 vSz vBs vCell vDirt vAim vErr vCor vBrk vTop vLm vRows vCols vDown vRight vBound vStrain vPrice vFirm vSums vTk vFl1 vFl2 vTe vAw vRo vBe) ++ oW o0 y a_nO) ++ (mW ad y b_th vN vC vNow vHaze vCold vHot vPipe vDeg vThaw vTrc vTurb vLeft vLoad vWater vTrips vMissed vBRow vBSum vCell vDirt vAim vErr vCor vBrk vTop vLm vRows vCols vDown vRight vBound vStrain vPrice vFirm vSums vRays vFalls vSom vHad)) := hD
  have hmk : b_th = kc := (hM.down.1).trans hkc.symm
  refine lv_istore (lv' := [(6, zi b_r), (5, zi kc), (0, .ref b), (1, .ref (ah 0)), (2, .ref (ad 0)), (3, .ref o0), (4, zi i)]) hx hb dL_law_307 hl (by decide) rfl (fun ls hl => ?_)
  refine lv_aload_n hx hb dL_law_309 rfl (lv_at hl 4 rfl) ?_
  refine hz_lawMi (As := []) (rest := []) ⟨hx, hb, hml, hown, hts⟩ (c_X8_thrown l G y ad _ b_th vN vC vNow vHaze vCold vHot vPipe vDeg vThaw vTrc vTurb vLeft vLoad vWater vTrips vMissed vBRow vBSum vCell vDirt vAim vErr vCor vBrk vTop vLm vRows vCols vDown vRight vBound vStrain vPrice vFirm vSums vRays vFalls vSom vHad) (cwV 0 hts gL_law_X8_thrown rfl rfl rfl (by decide +kernel) ⟨Nat.le_of_ble_eq_true rfl, Nat.le_of_ble_eq_true rfl⟩) hP hK hD hS hA 0 9 rfl rfl rfl rfl hl.1 rfl (Nat.le_of_ble_eq_true rfl) dL_law_310 ⟨by show (cells + 2) + 0 ≤ 601024; omega, by show (slots + 12) + 0 ≤ 7293034; omega⟩ (fun _ => rfl) (fun u H locs hu hP hD hS => ?_)
  have hP : va_P G vwCl (((hW ah z y vN vC vNow vHaze vCold vHot vPipe vDeg cThaw vTrc vTurb vLeft vLoad vWater vTrips vMi1 vMi2 vSz vBs vCell vDirt vAim vErr vCor vBrk vTop vLm vRows vCols vDown vRight vBound vStrain vPrice vFirm vSums vTk vFl1 vFl2 vTe vAw vRo vBe) ++ oW o0 y a_nO) ++ (mW ad y b_th vN vC vNow vHaze vCold vHot vPipe vDeg vThaw vTrc vTurb vLeft vLoad vWater vTrips vMissed vBRow vBSum vCell vDirt vAim vErr vCor vBrk vTop vLm vRows vCols vDown vRight vBound vStrain vPrice vFirm vSums vRays vFalls vSom vHad)) H := hP
  have hD : va_D (fun q : Nat => s.heap.size ≤ q) (((hW ah z y vN vC vNow vHaze vCold vHot vPipe vDeg cThaw vTrc vTurb vLeft vLoad vWater vTrips vMi1 vMi2 vSz vBs vCell vDirt vAim vErr vCor vBrk vTop vLm vRows vCols vDown vRight vBound vStrain vPrice vFirm vSums vTk vFl1 vFl2 vTe vAw vRo vBe) ++ oW o0 y a_nO) ++ (mW ad y b_th vN vC vNow vHaze vCold vHot vPipe vDeg vThaw vTrc vTurb vLeft vLoad vWater vTrips vMissed vBRow vBSum vCell vDirt vAim vErr vCor vBrk vTop vLm vRows vCols vDown vRight vBound vStrain vPrice vFirm vSums vRays vFalls vSom vHad)) := hD
  refine lv_iload hx hb dL_law_313 (lv_at hl 1 rfl) ?_
  refine hz_icmp_eq (tgt := 320) hx hb dL_law_315 (by decide) (by omega) (fun _ => ?_) (fun q => absurd (by omega) q)
  refine lv_iload hx hb dL_law_320 (lv_at hl 1 rfl) ?_
  refine hz_if_ne (tgt := 337) hx hb dL_law_322 (by decide) (by omega) (fun c1 => ?_) (fun c1 => ?_)
  · have h0 : ¬ (if ¬ (0 ≤ (sc xs (i + 1)) ∧ (sc xs (i + 1)) < vN) then (1 : Int) else if ¬ (0 < pwZ vN vC vNow vHaze vCell vDirt vTop vLm vRows vCols vDown vRight (sc xs (i + 1)) 0) then 2 else 0) = 0 := fun q => c1 (hkc.trans q)
    have hPz := hP
    have hDz := hD
    have hP : va_P G vwCl (((hW ah z y vN vC vNow vHaze vCold vHot vPipe vDeg cThaw vTrc vTurb vLeft vLoad vWater vTrips vMi1 vMi2 vSz vBs vCell vDirt vAim vErr vCor vBrk vTop vLm vRows vCols vDown vRight vBound vStrain vPrice vFirm vSums vTk vFl1 vFl2 vTe vAw vRo vBe) ++ oW o0 y a_nO) ++ (mW ad y b_th vN vC vNow vHaze vCold vHot vPipe vDeg vThaw vTrc vTurb vLeft vLoad vWater vTrips vMissed vBRow vBSum vCell vDirt vAim vErr vCor vBrk vTop vLm vRows vCols vDown vRight vBound vStrain vPrice vFirm vSums vRays vFalls vSom vHad)) H := hPz
    have hD : va_D (fun q : Nat => s.heap.size ≤ q) (((hW ah z y vN vC vNow vHaze vCold vHot vPipe vDeg cThaw vTrc vTurb vLeft vLoad vWater vTrips vMi1 vMi2 vSz vBs vCell vDirt vAim vErr vCor vBrk vTop vLm vRows vCols vDown vRight vBound vStrain vPrice vFirm vSums vTk vFl1 vFl2 vTe vAw vRo vBe) ++ oW o0 y a_nO) ++ (mW ad y b_th vN vC vNow vHaze vCold vHot vPipe vDeg vThaw vTrc vTurb vLeft vLoad vWater vTrips vMissed vBRow vBSum vCell vDirt vAim vErr vCor vBrk vTop vLm vRows vCols vDown vRight vBound vStrain vPrice vFirm vSums vRays vFalls vSom vHad)) := hDz
    refine lv_goto (tgt := 1990) hx hb dL_law_337 (by decide) ?_
    refine W.widen (k := cells + 40) (n := slots + 400) (by omega) (by omega) ?_
    exact K z vN vC vNow vHaze vCold vHot vPipe vDeg cThaw vThaw vTrc vTurb vLeft vLoad vWater vTrips vMi1 vMi2 vSz vBs b_th vMissed vBRow vBSum vCell vDirt vAim vErr vCor vBrk vTop vLm vRows vCols vDown vRight vBound vStrain vPrice vFirm vSums vTk vFl1 vFl2 vTe vAw vRo vBe vRays vFalls vSom vHad a_nO H locs hFA0 hP hD hS ls (lv_sub hl [2, 3, 4, 5, 6] rfl)
  · have h0 : (if ¬ (0 ≤ (sc xs (i + 1)) ∧ (sc xs (i + 1)) < vN) then (1 : Int) else if ¬ (0 < pwZ vN vC vNow vHaze vCell vDirt vTop vLm vRows vCols vDown vRight (sc xs (i + 1)) 0) then 2 else 0) = 0 := hkc.symm.trans c1
    have hPz := hP
    have hDz := hD
    have hout : a_nO 0 = wI (vErr (sc xs (i + 1)) - vCor (sc xs (i + 1))) := hU.down h0
    have hans : b_r = vErr (sc xs (i + 1)) - vCor (sc xs (i + 1)) := hM.down.2 h0
    have hP : va_P G vwCl (((hW ah z y vN vC vNow vHaze vCold vHot vPipe vDeg cThaw vTrc vTurb vLeft vLoad vWater vTrips vMi1 vMi2 vSz vBs vCell vDirt vAim vErr vCor vBrk vTop vLm vRows vCols vDown vRight vBound vStrain vPrice vFirm vSums vTk vFl1 vFl2 vTe vAw vRo vBe) ++ oW o0 y a_nO) ++ (mW ad y b_th vN vC vNow vHaze vCold vHot vPipe vDeg vThaw vTrc vTurb vLeft vLoad vWater vTrips vMissed vBRow vBSum vCell vDirt vAim vErr vCor vBrk vTop vLm vRows vCols vDown vRight vBound vStrain vPrice vFirm vSums vRays vFalls vSom vHad)) H := hPz
    have hD : va_D (fun q : Nat => s.heap.size ≤ q) (((hW ah z y vN vC vNow vHaze vCold vHot vPipe vDeg cThaw vTrc vTurb vLeft vLoad vWater vTrips vMi1 vMi2 vSz vBs vCell vDirt vAim vErr vCor vBrk vTop vLm vRows vCols vDown vRight vBound vStrain vPrice vFirm vSums vTk vFl1 vFl2 vTe vAw vRo vBe) ++ oW o0 y a_nO) ++ (mW ad y b_th vN vC vNow vHaze vCold vHot vPipe vDeg vThaw vTrc vTurb vLeft vLoad vWater vTrips vMissed vBRow vBSum vCell vDirt vAim vErr vCor vBrk vTop vLm vRows vCols vDown vRight vBound vStrain vPrice vFirm vSums vRays vFalls vSom vHad)) := hDz
    refine lv_aload_n hx hb dL_law_325 rfl (lv_at hl 5 rfl) ?_
    refine hz_iconst hx hb dL_law_326 ?_
    refine hz_laldo hx hb hK hP dL_law_327 ?_
    refine lv_iload hx hb dL_law_328 (lv_at hl 0 rfl) ?_
    refine hz_i2lw hx hb dL_law_330 ?_
    refine hz_lcmp hx hb dL_law_331 (fun v hv => ?_)
    refine lv_if_eq (tgt := 337) hx hb dL_law_332 (by decide) (fun _ => ?_) (fun q => absurd (hv.mpr (congrArg zL (hout.trans (congrArg wI hans.symm)))) q)
    refine lv_goto (tgt := 1990) hx hb dL_law_337 (by decide) ?_
    refine W.widen (k := cells + 40) (n := slots + 400) (by omega) (by omega) ?_
    exact K z vN vC vNow vHaze vCold vHot vPipe vDeg cThaw vThaw vTrc vTurb vLeft vLoad vWater vTrips vMi1 vMi2 vSz vBs b_th vMissed vBRow vBSum vCell vDirt vAim vErr vCor vBrk vTop vLm vRows vCols vDown vRight vBound vStrain vPrice vFirm vSums vTk vFl1 vFl2 vTe vAw vRo vBe vRays vFalls vSom vHad a_nO H locs hFA0 hP hD hS ls (lv_sub hl [2, 3, 4, 5, 6] rfl)
set_option maxHeartbeats 16000000 in
set_option maxRecDepth 100000 in
theorem lw_c3 (p : Program) (l : Launch) (e : Env) (s : State) (m : MethodId) (below : List Frame) (meth : Method) (c : Code) (b L : Nat) (xs : Nat → Int32) (G : va_G) (mi zE : Nat) (y : Nat → ClassId) (ah ad : Nat → Nat) (o0 : Nat) (cells slots : Nat) (i : Int) (hQ : LC p l s m meth c b L xs G mi zE y) (hi : 0 ≤ i ∧ i + 7 ≤ L) (hroom : cells + 40 ≤ 601024 ∧ slots + 400 ≤ 7293034) (K : LK p l e s m below meth c b L xs G mi zE y ah ad o0 (cells + 40) (slots + 400) i 1990) : LK p l e s m below meth c b L xs G mi zE y ah ad o0 cells slots i 340 := by
  intro z vN vC vNow vHaze vCold vHot vPipe vDeg cThaw vThaw vTrc vTurb vLeft vLoad vWater vTrips vMi1 vMi2 vSz vBs vThrown vMissed vBRow vBSum vCell vDirt vAim vErr vCor vBrk vTop vLm vRows vCols vDown vRight vBound vStrain vPrice vFirm vSums vTk vFl1 vFl2 vTe vAw vRo vBe vRays vFalls vSom vHad vO H locs hFA hP hD hS ls hl
  obtain ⟨hx, hb, hr, hts, hown, hml, hX0, hbl, hL, hlocks, hK, hGP, hX, hGN, hlt⟩ := hQ
  have hA : ∀ q : Nat, s.heap.size ≤ q → (fun q : Nat => s.heap.size ≤ q) q := fun _ h => h
  have hbA : ¬ (fun q : Nat => s.heap.size ≤ q) b := Nat.not_le.mpr hbl
  have hFA0 := hFA
  obtain ⟨hZ, hZe, hTk, hN, hC, hNow, hHaze, hSalt, hPipe, hDeg, hThC, hThM, hThE, hTrc, hTurb, hLeft, hLoad, hWater, hTrips, hCell, hDirt, hAim, hErr, hCor, hBrk, hTop, hLm, hRows, hCols, hDown, hRight, hBound, hStrain, hPrice, hFirm, hE0⟩ := hFA
  refine lv_aload_n hx hb dL_law_340 rfl (lv_at hl 1 rfl) ?_
  refine lv_aload_n hx hb dL_law_341 rfl (lv_at hl 0 rfl) ?_
  refine lv_iload hx hb dL_law_342 (lv_at hl 4 rfl) ?_
  refine hz_iconst hx hb dL_law_344 ?_
  refine hz_iadd hx hb dL_law_345 ?_
  refine hz_sld hx hb hX0 hbl hbA hS (by omega) (by omega) dL_law_346 ?_
  refine lv_aload_n hx hb dL_law_347 rfl (lv_at hl 0 rfl) ?_
  refine lv_iload hx hb dL_law_348 (lv_at hl 4 rfl) ?_
  refine hz_iconst hx hb dL_law_350 ?_
  refine hz_iadd hx hb dL_law_351 ?_
  refine hz_sld hx hb hX0 hbl hbA hS (by omega) (by omega) dL_law_352 ?_
  refine lv_aload_n hx hb dL_law_353 rfl (lv_at hl 3 rfl) ?_
  refine hz_lawL (As := [.ref (ah 0), zi (sc xs (i + 1)), zi (sc xs (i + 2)), .ref o0]) (rest := []) ⟨hx, hb, hml, hown, hts⟩ (c_L_correct l hlt G ah z mi zE y _ vN vC vNow vHaze vCold vHot vPipe vDeg cThaw vTrc vTurb vLeft vLoad vWater vTrips vMi1 vMi2 vSz vBs vCell vDirt vAim vErr vCor vBrk vTop vLm vRows vCols vDown vRight vBound vStrain vPrice vFirm vSums vTk vFl1 vFl2 vTe vAw vRo vBe o0 vO (sc xs (i + 1)) (sc xs (i + 2)) hZ hN (sc_rng _ _) (sc_rng _ _)) (vx_cwSW 4 hts gL_law_L_correct rfl rfl rfl (by decide +kernel) ⟨Nat.le_of_ble_eq_true rfl, Nat.le_of_ble_eq_true rfl⟩) hP hK hD hS hA hGP hX hGN rfl hl.1 rfl (Nat.le_of_ble_eq_true rfl) dL_law_354 ⟨by show cells + 2 ≤ 601024; omega, by show slots + 12 ≤ 7293034; omega⟩ (fun r u H locs hu hP hD hS => ?_)
  obtain ⟨a_nCor, a_nO⟩ := u
  obtain ⟨rfl, hu⟩ := hu
  have hU := PLift.up hu
  clear hu
  refine hz_topi (fun kc hkc => ?_)
  have hP : va_P G vwCl (((hW ah z y vN vC vNow vHaze vCold vHot vPipe vDeg cThaw vTrc vTurb vLeft vLoad vWater vTrips vMi1 vMi2 vSz vBs vCell vDirt vAim vErr a_nCor vBrk vTop vLm vRows vCols vDown vRight vBound vStrain vPrice vFirm vSums vTk vFl1 vFl2 vTe vAw vRo vBe) ++ oW o0 y a_nO) ++ (mW ad y vThrown vN vC vNow vHaze vCold vHot vPipe vDeg vThaw vTrc vTurb vLeft vLoad vWater vTrips vMissed vBRow vBSum vCell vDirt vAim vErr vCor vBrk vTop vLm vRows vCols vDown vRight vBound vStrain vPrice vFirm vSums vRays vFalls vSom vHad)) H := hP
  have hD : va_D (fun q : Nat => s.heap.size ≤ q) (((hW ah z y vN vC vNow vHaze vCold vHot vPipe vDeg cThaw vTrc vTurb vLeft vLoad vWater vTrips vMi1 vMi2 vSz vBs vCell vDirt vAim vErr a_nCor vBrk vTop vLm vRows vCols vDown vRight vBound vStrain vPrice vFirm vSums vTk vFl1 vFl2 vTe vAw vRo vBe) ++ oW o0 y a_nO) ++ (mW ad y vThrown vN vC vNow vHaze vCold vHot vPipe vDeg vThaw vTrc vTurb vLeft vLoad vWater vTrips vMissed vBRow vBSum vCell vDirt vAim vErr vCor vBrk vTop vLm vRows vCols vDown vRight vBound vStrain vPrice vFirm vSums vRays vFalls vSom vHad)) := hD
  have hkr : 0 ≤ kc ∧ kc ≤ 3 := by rw [hkc]; first | omega | (split <;> (try split) <;> (try split) <;> omega)
  refine lv_istore (lv' := [(5, zi kc), (0, .ref b), (1, .ref (ah 0)), (2, .ref (ad 0)), (3, .ref o0), (4, zi i)]) hx hb dL_law_357 hl (by decide) rfl (fun ls hl => ?_)
  refine lv_aload_n hx hb dL_law_359 rfl (lv_at hl 3 rfl) ?_
  refine lv_aload_n hx hb dL_law_360 rfl (lv_at hl 1 rfl) ?_
  refine lv_iload hx hb dL_law_361 (lv_at hl 5 rfl) ?_
  refine hz_iconst hx hb dL_law_363 ?_
  refine hz_iadd hx hb dL_law_364 ?_
  refine hz_sld hx hb hX0 hbl hbA hS (by omega) (by omega) dL_law_365 ?_
  refine lv_aload_n hx hb dL_law_366 rfl (lv_at hl 1 rfl) ?_
  refine lv_iload hx hb dL_law_367 (lv_at hl 5 rfl) ?_
  refine hz_iconst hx hb dL_law_369 ?_
  refine hz_iadd hx hb dL_law_370 ?_
  refine hz_sld hx hb hX0 hbl hbA hS (by omega) (by omega) dL_law_371 ?_
  refine hz_lawMi (As := [zi (sc xs (i + 1)), zi (sc xs (i + 2))]) (rest := []) ⟨hx, hb, hml, hown, hts⟩ (c_X8_correct l G y ad _ vThrown vN vC vNow vHaze vCold vHot vPipe vDeg vThaw vTrc vTurb vLeft vLoad vWater vTrips vMissed vBRow vBSum vCell vDirt vAim vErr vCor vBrk vTop vLm vRows vCols vDown vRight vBound vStrain vPrice vFirm vSums vRays vFalls vSom vHad (sc xs (i + 1)) (sc xs (i + 2)) hN (sc_rng _ _) (sc_rng _ _)) (cwV 2 hts gL_law_X8_correct rfl rfl rfl (by decide +kernel) ⟨Nat.le_of_ble_eq_true rfl, Nat.le_of_ble_eq_true rfl⟩) hP hK hD hS hA 0 9 rfl rfl rfl rfl hl.1 rfl (Nat.le_of_ble_eq_true rfl) dL_law_372 ⟨by show (cells + 2) + 0 ≤ 601024; omega, by show (slots + 12) + 0 ≤ 7293034; omega⟩ (fun _ => rfl) (fun u H locs hu hP hD hS => ?_)
  obtain ⟨b_th, b_r, b_nCor⟩ := u
  have hM := PLift.up hu
  clear hu
  have hP : va_P G vwCl (((hW ah z y vN vC vNow vHaze vCold vHot vPipe vDeg cThaw vTrc vTurb vLeft vLoad vWater vTrips vMi1 vMi2 vSz vBs vCell vDirt vAim vErr a_nCor vBrk vTop vLm vRows vCols vDown vRight vBound vStrain vPrice vFirm vSums vTk vFl1 vFl2 vTe vAw vRo vBe) ++ oW o0 y a_nO) ++ (mW ad y b_th vN vC vNow vHaze vCold vHot vPipe vDeg vThaw vTrc vTurb vLeft vLoad vWater vTrips vMissed vBRow vBSum vCell vDirt vAim vErr b_nCor vBrk vTop vLm vRows vCols vDown vRight vBound vStrain vPrice vFirm vSums vRays vFalls vSom vHad)) H := hP
  have hD : va_D (fun q : Nat => s.heap.size ≤ q) (((hW ah z y vN vC vNow vHaze vCold vHot vPipe vDeg cThaw vTrc vTurb vLeft vLoad vWater vTrips vMi1 vMi2 vSz vBs vCell vDirt vAim vErr a_nCor vBrk vTop vLm vRows vCols vDown vRight vBound vStrain vPrice vFirm vSums vTk vFl1 vFl2 vTe vAw vRo vBe) ++ oW o0 y a_nO) ++ (mW ad y b_th vN vC vNow vHaze vCold vHot vPipe vDeg vThaw vTrc vTurb vLeft vLoad vWater vTrips vMissed vBRow vBSum vCell vDirt vAim vErr b_nCor vBrk vTop vLm vRows vCols vDown vRight vBound vStrain vPrice vFirm vSums vRays vFalls vSom vHad)) := hD
  have hmk : b_th = kc := (hM.down.1).trans hkc.symm
  refine lv_istore (lv' := [(6, zi b_r), (5, zi kc), (0, .ref b), (1, .ref (ah 0)), (2, .ref (ad 0)), (3, .ref o0), (4, zi i)]) hx hb dL_law_375 hl (by decide) rfl (fun ls hl => ?_)
  refine lv_aload_n hx hb dL_law_377 rfl (lv_at hl 4 rfl) ?_
  refine hz_lawMi (As := []) (rest := []) ⟨hx, hb, hml, hown, hts⟩ (c_X8_thrown l G y ad _ b_th vN vC vNow vHaze vCold vHot vPipe vDeg vThaw vTrc vTurb vLeft vLoad vWater vTrips vMissed vBRow vBSum vCell vDirt vAim vErr b_nCor vBrk vTop vLm vRows vCols vDown vRight vBound vStrain vPrice vFirm vSums vRays vFalls vSom vHad) (cwV 0 hts gL_law_X8_thrown rfl rfl rfl (by decide +kernel) ⟨Nat.le_of_ble_eq_true rfl, Nat.le_of_ble_eq_true rfl⟩) hP hK hD hS hA 0 9 rfl rfl rfl rfl hl.1 rfl (Nat.le_of_ble_eq_true rfl) dL_law_378 ⟨by show (cells + 2) + 0 ≤ 601024; omega, by show (slots + 12) + 0 ≤ 7293034; omega⟩ (fun _ => rfl) (fun u H locs hu hP hD hS => ?_)
  have hP : va_P G vwCl (((hW ah z y vN vC vNow vHaze vCold vHot vPipe vDeg cThaw vTrc vTurb vLeft vLoad vWater vTrips vMi1 vMi2 vSz vBs vCell vDirt vAim vErr a_nCor vBrk vTop vLm vRows vCols vDown vRight vBound vStrain vPrice vFirm vSums vTk vFl1 vFl2 vTe vAw vRo vBe) ++ oW o0 y a_nO) ++ (mW ad y b_th vN vC vNow vHaze vCold vHot vPipe vDeg vThaw vTrc vTurb vLeft vLoad vWater vTrips vMissed vBRow vBSum vCell vDirt vAim vErr b_nCor vBrk vTop vLm vRows vCols vDown vRight vBound vStrain vPrice vFirm vSums vRays vFalls vSom vHad)) H := hP
  have hD : va_D (fun q : Nat => s.heap.size ≤ q) (((hW ah z y vN vC vNow vHaze vCold vHot vPipe vDeg cThaw vTrc vTurb vLeft vLoad vWater vTrips vMi1 vMi2 vSz vBs vCell vDirt vAim vErr a_nCor vBrk vTop vLm vRows vCols vDown vRight vBound vStrain vPrice vFirm vSums vTk vFl1 vFl2 vTe vAw vRo vBe) ++ oW o0 y a_nO) ++ (mW ad y b_th vN vC vNow vHaze vCold vHot vPipe vDeg vThaw vTrc vTurb vLeft vLoad vWater vTrips vMissed vBRow vBSum vCell vDirt vAim vErr b_nCor vBrk vTop vLm vRows vCols vDown vRight vBound vStrain vPrice vFirm vSums vRays vFalls vSom vHad)) := hD
  refine lv_iload hx hb dL_law_381 (lv_at hl 1 rfl) ?_
  refine hz_icmp_eq (tgt := 388) hx hb dL_law_383 (by decide) (by omega) (fun _ => ?_) (fun q => absurd (by omega) q)
  refine lv_iload hx hb dL_law_388 (lv_at hl 1 rfl) ?_
  refine hz_if_ne (tgt := 405) hx hb dL_law_390 (by decide) (by omega) (fun c1 => ?_) (fun c1 => ?_)
  · have h0 : ¬ (if ¬ (0 ≤ (sc xs (i + 1)) ∧ (sc xs (i + 1)) < vN) then (1 : Int) else if ¬ (-3 ≤ (sc xs (i + 2)) ∧ (sc xs (i + 2)) ≤ 3) then 2 else 0) = 0 := fun q => c1 (hkc.trans q)
    have hPz := hP
    have hDz := hD
    have hs_nCor := (hU.down.2.1 h0).symm
    subst hs_nCor
    have ht_nCor := (hM.down.2.2.2 h0).symm
    subst ht_nCor
    have hP : va_P G vwCl (((hW ah z y vN vC vNow vHaze vCold vHot vPipe vDeg cThaw vTrc vTurb vLeft vLoad vWater vTrips vMi1 vMi2 vSz vBs vCell vDirt vAim vErr vCor vBrk vTop vLm vRows vCols vDown vRight vBound vStrain vPrice vFirm vSums vTk vFl1 vFl2 vTe vAw vRo vBe) ++ oW o0 y a_nO) ++ (mW ad y b_th vN vC vNow vHaze vCold vHot vPipe vDeg vThaw vTrc vTurb vLeft vLoad vWater vTrips vMissed vBRow vBSum vCell vDirt vAim vErr vCor vBrk vTop vLm vRows vCols vDown vRight vBound vStrain vPrice vFirm vSums vRays vFalls vSom vHad)) H := hPz
    have hD : va_D (fun q : Nat => s.heap.size ≤ q) (((hW ah z y vN vC vNow vHaze vCold vHot vPipe vDeg cThaw vTrc vTurb vLeft vLoad vWater vTrips vMi1 vMi2 vSz vBs vCell vDirt vAim vErr vCor vBrk vTop vLm vRows vCols vDown vRight vBound vStrain vPrice vFirm vSums vTk vFl1 vFl2 vTe vAw vRo vBe) ++ oW o0 y a_nO) ++ (mW ad y b_th vN vC vNow vHaze vCold vHot vPipe vDeg vThaw vTrc vTurb vLeft vLoad vWater vTrips vMissed vBRow vBSum vCell vDirt vAim vErr vCor vBrk vTop vLm vRows vCols vDown vRight vBound vStrain vPrice vFirm vSums vRays vFalls vSom vHad)) := hDz
    refine lv_goto (tgt := 1990) hx hb dL_law_405 (by decide) ?_
    refine W.widen (k := cells + 40) (n := slots + 400) (by omega) (by omega) ?_
    exact K z vN vC vNow vHaze vCold vHot vPipe vDeg cThaw vThaw vTrc vTurb vLeft vLoad vWater vTrips vMi1 vMi2 vSz vBs b_th vMissed vBRow vBSum vCell vDirt vAim vErr vCor vBrk vTop vLm vRows vCols vDown vRight vBound vStrain vPrice vFirm vSums vTk vFl1 vFl2 vTe vAw vRo vBe vRays vFalls vSom vHad a_nO H locs hFA0 hP hD hS ls (lv_sub hl [2, 3, 4, 5, 6] rfl)
  · have h0 : (if ¬ (0 ≤ (sc xs (i + 1)) ∧ (sc xs (i + 1)) < vN) then (1 : Int) else if ¬ (-3 ≤ (sc xs (i + 2)) ∧ (sc xs (i + 2)) ≤ 3) then 2 else 0) = 0 := hkc.symm.trans c1
    have hPz := hP
    have hDz := hD
    have hs_nCor := (hU.down.1 h0).symm
    subst hs_nCor
    have hout : a_nO 0 = wI (vCor (sc xs (i + 1))) := hU.down.2.2 h0
    have ht_nCor := (hM.down.2.2.1 h0).symm
    subst ht_nCor
    have hans : b_r = vCor (sc xs (i + 1)) := hM.down.2.1 h0
    have hP : va_P G vwCl (((hW ah z y vN vC vNow vHaze vCold vHot vPipe vDeg cThaw vTrc vTurb vLeft vLoad vWater vTrips vMi1 vMi2 vSz vBs vCell vDirt vAim vErr (upZ vCor (sc xs (i + 1)) (sc xs (i + 2))) vBrk vTop vLm vRows vCols vDown vRight vBound vStrain vPrice vFirm vSums vTk vFl1 vFl2 vTe vAw vRo vBe) ++ oW o0 y a_nO) ++ (mW ad y b_th vN vC vNow vHaze vCold vHot vPipe vDeg vThaw vTrc vTurb vLeft vLoad vWater vTrips vMissed vBRow vBSum vCell vDirt vAim vErr (upZ vCor (sc xs (i + 1)) (sc xs (i + 2))) vBrk vTop vLm vRows vCols vDown vRight vBound vStrain vPrice vFirm vSums vRays vFalls vSom vHad)) H := hPz
    have hD : va_D (fun q : Nat => s.heap.size ≤ q) (((hW ah z y vN vC vNow vHaze vCold vHot vPipe vDeg cThaw vTrc vTurb vLeft vLoad vWater vTrips vMi1 vMi2 vSz vBs vCell vDirt vAim vErr (upZ vCor (sc xs (i + 1)) (sc xs (i + 2))) vBrk vTop vLm vRows vCols vDown vRight vBound vStrain vPrice vFirm vSums vTk vFl1 vFl2 vTe vAw vRo vBe) ++ oW o0 y a_nO) ++ (mW ad y b_th vN vC vNow vHaze vCold vHot vPipe vDeg vThaw vTrc vTurb vLeft vLoad vWater vTrips vMissed vBRow vBSum vCell vDirt vAim vErr (upZ vCor (sc xs (i + 1)) (sc xs (i + 2))) vBrk vTop vLm vRows vCols vDown vRight vBound vStrain vPrice vFirm vSums vRays vFalls vSom vHad)) := hDz
    refine lv_aload_n hx hb dL_law_393 rfl (lv_at hl 5 rfl) ?_
    refine hz_iconst hx hb dL_law_394 ?_
    refine hz_laldo hx hb hK hP dL_law_395 ?_
    refine lv_iload hx hb dL_law_396 (lv_at hl 0 rfl) ?_
    refine hz_i2lw hx hb dL_law_398 ?_
    refine hz_lcmp hx hb dL_law_399 (fun v hv => ?_)
    refine lv_if_eq (tgt := 405) hx hb dL_law_400 (by decide) (fun _ => ?_) (fun q => absurd (hv.mpr (congrArg zL (hout.trans (congrArg wI hans.symm)))) q)
    refine lv_goto (tgt := 1990) hx hb dL_law_405 (by decide) ?_
    refine W.widen (k := cells + 40) (n := slots + 400) (by omega) (by omega) ?_
    exact K z vN vC vNow vHaze vCold vHot vPipe vDeg cThaw vThaw vTrc vTurb vLeft vLoad vWater vTrips vMi1 vMi2 vSz vBs b_th vMissed vBRow vBSum vCell vDirt vAim vErr (upZ vCor (sc xs (i + 1)) (sc xs (i + 2))) vBrk vTop vLm vRows vCols vDown vRight vBound vStrain vPrice vFirm vSums vTk vFl1 vFl2 vTe vAw vRo vBe vRays vFalls vSom vHad a_nO H locs ⟨hZ, hZe, hTk, hN, hC, hNow, hHaze, hSalt, hPipe, hDeg, hThC, hThM, hThE, hTrc, hTurb, hLeft, hLoad, hWater, hTrips, hCell, hDirt, hAim, hErr, (show ∀ k : Int, -3 ≤ (upZ vCor (sc xs (i + 1)) (sc xs (i + 2))) k ∧ (upZ vCor (sc xs (i + 1)) (sc xs (i + 2))) k ≤ 3 from upZ_rng hCor (by omega)), hBrk, hTop, hLm, hRows, hCols, hDown, hRight, hBound, hStrain, hPrice, hFirm, (show ∀ k9 : Int, vN ≤ k9 → vDirt k9 = 0 ∧ vErr k9 = 0 ∧ (upZ vCor (sc xs (i + 1)) (sc xs (i + 2))) k9 = 0 ∧ vBrk k9 = 0 from fun k9 q9 => by
          have q := hE0 k9 q9
          rw [upZ_n (show ¬ k9 = (sc xs (i + 1)) by omega)]
          exact q)⟩ hP hD hS ls (lv_sub hl [2, 3, 4, 5, 6] rfl)
set_option maxHeartbeats 16000000 in
set_option maxRecDepth 100000 in
theorem lw_c4 (p : Program) (l : Launch) (e : Env) (s : State) (m : MethodId) (below : List Frame) (meth : Method) (c : Code) (b L : Nat) (xs : Nat → Int32) (G : va_G) (mi zE : Nat) (y : Nat → ClassId) (ah ad : Nat → Nat) (o0 : Nat) (cells slots : Nat) (i : Int) (hQ : LC p l s m meth c b L xs G mi zE y) (hi : 0 ≤ i ∧ i + 7 ≤ L) (hroom : cells + 40 ≤ 601024 ∧ slots + 400 ≤ 7293034) (K : LK p l e s m below meth c b L xs G mi zE y ah ad o0 (cells + 40) (slots + 400) i 1990) : LK p l e s m below meth c b L xs G mi zE y ah ad o0 cells slots i 408 := by
  intro z vN vC vNow vHaze vCold vHot vPipe vDeg cThaw vThaw vTrc vTurb vLeft vLoad vWater vTrips vMi1 vMi2 vSz vBs vThrown vMissed vBRow vBSum vCell vDirt vAim vErr vCor vBrk vTop vLm vRows vCols vDown vRight vBound vStrain vPrice vFirm vSums vTk vFl1 vFl2 vTe vAw vRo vBe vRays vFalls vSom vHad vO H locs hFA hP hD hS ls hl
  obtain ⟨hx, hb, hr, hts, hown, hml, hX0, hbl, hL, hlocks, hK, hGP, hX, hGN, hlt⟩ := hQ
  have hA : ∀ q : Nat, s.heap.size ≤ q → (fun q : Nat => s.heap.size ≤ q) q := fun _ h => h
  have hbA : ¬ (fun q : Nat => s.heap.size ≤ q) b := Nat.not_le.mpr hbl
  have hFA0 := hFA
  obtain ⟨hZ, hZe, hTk, hN, hC, hNow, hHaze, hSalt, hPipe, hDeg, hThC, hThM, hThE, hTrc, hTurb, hLeft, hLoad, hWater, hTrips, hCell, hDirt, hAim, hErr, hCor, hBrk, hTop, hLm, hRows, hCols, hDown, hRight, hBound, hStrain, hPrice, hFirm, hE0⟩ := hFA
  refine lv_aload_n hx hb dL_law_408 rfl (lv_at hl 1 rfl) ?_
  refine lv_aload_n hx hb dL_law_409 rfl (lv_at hl 0 rfl) ?_
  refine lv_iload hx hb dL_law_410 (lv_at hl 4 rfl) ?_
  refine hz_iconst hx hb dL_law_412 ?_
  refine hz_iadd hx hb dL_law_413 ?_
  refine hz_sld hx hb hX0 hbl hbA hS (by omega) (by omega) dL_law_414 ?_
  refine lv_aload_n hx hb dL_law_415 rfl (lv_at hl 0 rfl) ?_
  refine lv_iload hx hb dL_law_416 (lv_at hl 4 rfl) ?_
  refine hz_iconst hx hb dL_law_418 ?_
  refine hz_iadd hx hb dL_law_419 ?_
  refine hz_sld hx hb hX0 hbl hbA hS (by omega) (by omega) dL_law_420 ?_
  refine lv_aload_n hx hb dL_law_421 rfl (lv_at hl 3 rfl) ?_
  refine hz_lawL (As := [.ref (ah 0), zi (sc xs (i + 1)), zi (sc xs (i + 2)), .ref o0]) (rest := []) ⟨hx, hb, hml, hown, hts⟩ (c_L_aim l hlt G ah z mi zE y _ vN vC vNow vHaze vCold vHot vPipe vDeg cThaw vTrc vTurb vLeft vLoad vWater vTrips vMi1 vMi2 vSz vBs vCell vDirt vAim vErr vCor vBrk vTop vLm vRows vCols vDown vRight vBound vStrain vPrice vFirm vSums vTk vFl1 vFl2 vTe vAw vRo vBe o0 vO (sc xs (i + 1)) (sc xs (i + 2)) hZ hN hBrk (sc_rng _ _) (sc_rng _ _)) (vx_cwSW 4 hts gL_law_L_aim rfl rfl rfl (by decide +kernel) ⟨Nat.le_of_ble_eq_true rfl, Nat.le_of_ble_eq_true rfl⟩) hP hK hD hS hA hGP hX hGN rfl hl.1 rfl (Nat.le_of_ble_eq_true rfl) dL_law_422 ⟨by show cells + 3 ≤ 601024; omega, by show slots + 18 ≤ 7293034; omega⟩ (fun r u H locs hu hP hD hS => ?_)
  obtain ⟨a_nAim, a_nO⟩ := u
  obtain ⟨rfl, hu⟩ := hu
  have hU := PLift.up hu
  clear hu
  refine hz_topi (fun kc hkc => ?_)
  have hP : va_P G vwCl (((hW ah z y vN vC vNow vHaze vCold vHot vPipe vDeg cThaw vTrc vTurb vLeft vLoad vWater vTrips vMi1 vMi2 vSz vBs vCell vDirt a_nAim vErr vCor vBrk vTop vLm vRows vCols vDown vRight vBound vStrain vPrice vFirm vSums vTk vFl1 vFl2 vTe vAw vRo vBe) ++ oW o0 y a_nO) ++ (mW ad y vThrown vN vC vNow vHaze vCold vHot vPipe vDeg vThaw vTrc vTurb vLeft vLoad vWater vTrips vMissed vBRow vBSum vCell vDirt vAim vErr vCor vBrk vTop vLm vRows vCols vDown vRight vBound vStrain vPrice vFirm vSums vRays vFalls vSom vHad)) H := hP
  have hD : va_D (fun q : Nat => s.heap.size ≤ q) (((hW ah z y vN vC vNow vHaze vCold vHot vPipe vDeg cThaw vTrc vTurb vLeft vLoad vWater vTrips vMi1 vMi2 vSz vBs vCell vDirt a_nAim vErr vCor vBrk vTop vLm vRows vCols vDown vRight vBound vStrain vPrice vFirm vSums vTk vFl1 vFl2 vTe vAw vRo vBe) ++ oW o0 y a_nO) ++ (mW ad y vThrown vN vC vNow vHaze vCold vHot vPipe vDeg vThaw vTrc vTurb vLeft vLoad vWater vTrips vMissed vBRow vBSum vCell vDirt vAim vErr vCor vBrk vTop vLm vRows vCols vDown vRight vBound vStrain vPrice vFirm vSums vRays vFalls vSom vHad)) := hD
  have hkr : 0 ≤ kc ∧ kc ≤ 3 := by rw [hkc]; first | omega | (split <;> (try split) <;> (try split) <;> omega)
  refine lv_istore (lv' := [(5, zi kc), (0, .ref b), (1, .ref (ah 0)), (2, .ref (ad 0)), (3, .ref o0), (4, zi i)]) hx hb dL_law_425 hl (by decide) rfl (fun ls hl => ?_)
  refine lv_aload_n hx hb dL_law_427 rfl (lv_at hl 3 rfl) ?_
  refine lv_aload_n hx hb dL_law_428 rfl (lv_at hl 1 rfl) ?_
  refine lv_iload hx hb dL_law_429 (lv_at hl 5 rfl) ?_
  refine hz_iconst hx hb dL_law_431 ?_
  refine hz_iadd hx hb dL_law_432 ?_
  refine hz_sld hx hb hX0 hbl hbA hS (by omega) (by omega) dL_law_433 ?_
  refine lv_aload_n hx hb dL_law_434 rfl (lv_at hl 1 rfl) ?_
  refine lv_iload hx hb dL_law_435 (lv_at hl 5 rfl) ?_
  refine hz_iconst hx hb dL_law_437 ?_
  refine hz_iadd hx hb dL_law_438 ?_
  refine hz_sld hx hb hX0 hbl hbA hS (by omega) (by omega) dL_law_439 ?_
  refine hz_lawMi (As := [zi (sc xs (i + 1)), zi (sc xs (i + 2))]) (rest := []) ⟨hx, hb, hml, hown, hts⟩ (c_X8_aim l G y ad _ vThrown vN vC vNow vHaze vCold vHot vPipe vDeg vThaw vTrc vTurb vLeft vLoad vWater vTrips vMissed vBRow vBSum vCell vDirt vAim vErr vCor vBrk vTop vLm vRows vCols vDown vRight vBound vStrain vPrice vFirm vSums vRays vFalls vSom vHad (sc xs (i + 1)) (sc xs (i + 2)) hN hBrk (sc_rng _ _) (sc_rng _ _)) (cwV 2 hts gL_law_X8_aim rfl rfl rfl (by decide +kernel) ⟨Nat.le_of_ble_eq_true rfl, Nat.le_of_ble_eq_true rfl⟩) hP hK hD hS hA 0 9 rfl rfl rfl rfl hl.1 rfl (Nat.le_of_ble_eq_true rfl) dL_law_440 ⟨by show (cells + 3) + 0 ≤ 601024; omega, by show (slots + 18) + 0 ≤ 7293034; omega⟩ (fun _ => rfl) (fun u H locs hu hP hD hS => ?_)
  obtain ⟨b_th, b_r, b_nAim⟩ := u
  have hM := PLift.up hu
  clear hu
  have hP : va_P G vwCl (((hW ah z y vN vC vNow vHaze vCold vHot vPipe vDeg cThaw vTrc vTurb vLeft vLoad vWater vTrips vMi1 vMi2 vSz vBs vCell vDirt a_nAim vErr vCor vBrk vTop vLm vRows vCols vDown vRight vBound vStrain vPrice vFirm vSums vTk vFl1 vFl2 vTe vAw vRo vBe) ++ oW o0 y a_nO) ++ (mW ad y b_th vN vC vNow vHaze vCold vHot vPipe vDeg vThaw vTrc vTurb vLeft vLoad vWater vTrips vMissed vBRow vBSum vCell vDirt b_nAim vErr vCor vBrk vTop vLm vRows vCols vDown vRight vBound vStrain vPrice vFirm vSums vRays vFalls vSom vHad)) H := hP
  have hD : va_D (fun q : Nat => s.heap.size ≤ q) (((hW ah z y vN vC vNow vHaze vCold vHot vPipe vDeg cThaw vTrc vTurb vLeft vLoad vWater vTrips vMi1 vMi2 vSz vBs vCell vDirt a_nAim vErr vCor vBrk vTop vLm vRows vCols vDown vRight vBound vStrain vPrice vFirm vSums vTk vFl1 vFl2 vTe vAw vRo vBe) ++ oW o0 y a_nO) ++ (mW ad y b_th vN vC vNow vHaze vCold vHot vPipe vDeg vThaw vTrc vTurb vLeft vLoad vWater vTrips vMissed vBRow vBSum vCell vDirt b_nAim vErr vCor vBrk vTop vLm vRows vCols vDown vRight vBound vStrain vPrice vFirm vSums vRays vFalls vSom vHad)) := hD
  have hmk : b_th = kc := (hM.down.1).trans hkc.symm
  refine lv_istore (lv' := [(6, zi b_r), (5, zi kc), (0, .ref b), (1, .ref (ah 0)), (2, .ref (ad 0)), (3, .ref o0), (4, zi i)]) hx hb dL_law_443 hl (by decide) rfl (fun ls hl => ?_)
  refine lv_aload_n hx hb dL_law_445 rfl (lv_at hl 4 rfl) ?_
  refine hz_lawMi (As := []) (rest := []) ⟨hx, hb, hml, hown, hts⟩ (c_X8_thrown l G y ad _ b_th vN vC vNow vHaze vCold vHot vPipe vDeg vThaw vTrc vTurb vLeft vLoad vWater vTrips vMissed vBRow vBSum vCell vDirt b_nAim vErr vCor vBrk vTop vLm vRows vCols vDown vRight vBound vStrain vPrice vFirm vSums vRays vFalls vSom vHad) (cwV 0 hts gL_law_X8_thrown rfl rfl rfl (by decide +kernel) ⟨Nat.le_of_ble_eq_true rfl, Nat.le_of_ble_eq_true rfl⟩) hP hK hD hS hA 0 9 rfl rfl rfl rfl hl.1 rfl (Nat.le_of_ble_eq_true rfl) dL_law_446 ⟨by show (cells + 3) + 0 ≤ 601024; omega, by show (slots + 18) + 0 ≤ 7293034; omega⟩ (fun _ => rfl) (fun u H locs hu hP hD hS => ?_)
  have hP : va_P G vwCl (((hW ah z y vN vC vNow vHaze vCold vHot vPipe vDeg cThaw vTrc vTurb vLeft vLoad vWater vTrips vMi1 vMi2 vSz vBs vCell vDirt a_nAim vErr vCor vBrk vTop vLm vRows vCols vDown vRight vBound vStrain vPrice vFirm vSums vTk vFl1 vFl2 vTe vAw vRo vBe) ++ oW o0 y a_nO) ++ (mW ad y b_th vN vC vNow vHaze vCold vHot vPipe vDeg vThaw vTrc vTurb vLeft vLoad vWater vTrips vMissed vBRow vBSum vCell vDirt b_nAim vErr vCor vBrk vTop vLm vRows vCols vDown vRight vBound vStrain vPrice vFirm vSums vRays vFalls vSom vHad)) H := hP
  have hD : va_D (fun q : Nat => s.heap.size ≤ q) (((hW ah z y vN vC vNow vHaze vCold vHot vPipe vDeg cThaw vTrc vTurb vLeft vLoad vWater vTrips vMi1 vMi2 vSz vBs vCell vDirt a_nAim vErr vCor vBrk vTop vLm vRows vCols vDown vRight vBound vStrain vPrice vFirm vSums vTk vFl1 vFl2 vTe vAw vRo vBe) ++ oW o0 y a_nO) ++ (mW ad y b_th vN vC vNow vHaze vCold vHot vPipe vDeg vThaw vTrc vTurb vLeft vLoad vWater vTrips vMissed vBRow vBSum vCell vDirt b_nAim vErr vCor vBrk vTop vLm vRows vCols vDown vRight vBound vStrain vPrice vFirm vSums vRays vFalls vSom vHad)) := hD
  refine lv_iload hx hb dL_law_449 (lv_at hl 1 rfl) ?_
  refine hz_icmp_eq (tgt := 456) hx hb dL_law_451 (by decide) (by omega) (fun _ => ?_) (fun q => absurd (by omega) q)
  refine lv_iload hx hb dL_law_456 (lv_at hl 1 rfl) ?_
  refine hz_if_ne (tgt := 473) hx hb dL_law_458 (by decide) (by omega) (fun c1 => ?_) (fun c1 => ?_)
  · have h0 : ¬ (if ¬ (0 ≤ (sc xs (i + 1)) ∧ (sc xs (i + 1)) < vN) then (1 : Int) else if ¬ (-1 ≤ (sc xs (i + 2)) ∧ (sc xs (i + 2)) ≤ 5) then 2 else if vBrk (sc xs (i + 1)) = 1 then 3 else 0) = 0 := fun q => c1 (hkc.trans q)
    have hPz := hP
    have hDz := hD
    have hs_nAim := (hU.down.2.1 h0).symm
    subst hs_nAim
    have ht_nAim := (hM.down.2.2.2 h0).symm
    subst ht_nAim
    have hP : va_P G vwCl (((hW ah z y vN vC vNow vHaze vCold vHot vPipe vDeg cThaw vTrc vTurb vLeft vLoad vWater vTrips vMi1 vMi2 vSz vBs vCell vDirt vAim vErr vCor vBrk vTop vLm vRows vCols vDown vRight vBound vStrain vPrice vFirm vSums vTk vFl1 vFl2 vTe vAw vRo vBe) ++ oW o0 y a_nO) ++ (mW ad y b_th vN vC vNow vHaze vCold vHot vPipe vDeg vThaw vTrc vTurb vLeft vLoad vWater vTrips vMissed vBRow vBSum vCell vDirt vAim vErr vCor vBrk vTop vLm vRows vCols vDown vRight vBound vStrain vPrice vFirm vSums vRays vFalls vSom vHad)) H := hPz
    have hD : va_D (fun q : Nat => s.heap.size ≤ q) (((hW ah z y vN vC vNow vHaze vCold vHot vPipe vDeg cThaw vTrc vTurb vLeft vLoad vWater vTrips vMi1 vMi2 vSz vBs vCell vDirt vAim vErr vCor vBrk vTop vLm vRows vCols vDown vRight vBound vStrain vPrice vFirm vSums vTk vFl1 vFl2 vTe vAw vRo vBe) ++ oW o0 y a_nO) ++ (mW ad y b_th vN vC vNow vHaze vCold vHot vPipe vDeg vThaw vTrc vTurb vLeft vLoad vWater vTrips vMissed vBRow vBSum vCell vDirt vAim vErr vCor vBrk vTop vLm vRows vCols vDown vRight vBound vStrain vPrice vFirm vSums vRays vFalls vSom vHad)) := hDz
    refine lv_goto (tgt := 1990) hx hb dL_law_473 (by decide) ?_
    refine W.widen (k := cells + 40) (n := slots + 400) (by omega) (by omega) ?_
    exact K z vN vC vNow vHaze vCold vHot vPipe vDeg cThaw vThaw vTrc vTurb vLeft vLoad vWater vTrips vMi1 vMi2 vSz vBs b_th vMissed vBRow vBSum vCell vDirt vAim vErr vCor vBrk vTop vLm vRows vCols vDown vRight vBound vStrain vPrice vFirm vSums vTk vFl1 vFl2 vTe vAw vRo vBe vRays vFalls vSom vHad a_nO H locs hFA0 hP hD hS ls (lv_sub hl [2, 3, 4, 5, 6] rfl)
  · have h0 : (if ¬ (0 ≤ (sc xs (i + 1)) ∧ (sc xs (i + 1)) < vN) then (1 : Int) else if ¬ (-1 ≤ (sc xs (i + 2)) ∧ (sc xs (i + 2)) ≤ 5) then 2 else if vBrk (sc xs (i + 1)) = 1 then 3 else 0) = 0 := hkc.symm.trans c1
    have hPz := hP
    have hDz := hD
    have hs_nAim := (hU.down.1 h0).symm
    subst hs_nAim
    have hout : a_nO 0 = wI (vAim (sc xs (i + 1))) := hU.down.2.2 h0
    have ht_nAim := (hM.down.2.2.1 h0).symm
    subst ht_nAim
    have hans : b_r = vAim (sc xs (i + 1)) := hM.down.2.1 h0
    have hP : va_P G vwCl (((hW ah z y vN vC vNow vHaze vCold vHot vPipe vDeg cThaw vTrc vTurb vLeft vLoad vWater vTrips vMi1 vMi2 vSz vBs vCell vDirt (upZ vAim (sc xs (i + 1)) (sc xs (i + 2))) vErr vCor vBrk vTop vLm vRows vCols vDown vRight vBound vStrain vPrice vFirm vSums vTk vFl1 vFl2 vTe vAw vRo vBe) ++ oW o0 y a_nO) ++ (mW ad y b_th vN vC vNow vHaze vCold vHot vPipe vDeg vThaw vTrc vTurb vLeft vLoad vWater vTrips vMissed vBRow vBSum vCell vDirt (upZ vAim (sc xs (i + 1)) (sc xs (i + 2))) vErr vCor vBrk vTop vLm vRows vCols vDown vRight vBound vStrain vPrice vFirm vSums vRays vFalls vSom vHad)) H := hPz
    have hD : va_D (fun q : Nat => s.heap.size ≤ q) (((hW ah z y vN vC vNow vHaze vCold vHot vPipe vDeg cThaw vTrc vTurb vLeft vLoad vWater vTrips vMi1 vMi2 vSz vBs vCell vDirt (upZ vAim (sc xs (i + 1)) (sc xs (i + 2))) vErr vCor vBrk vTop vLm vRows vCols vDown vRight vBound vStrain vPrice vFirm vSums vTk vFl1 vFl2 vTe vAw vRo vBe) ++ oW o0 y a_nO) ++ (mW ad y b_th vN vC vNow vHaze vCold vHot vPipe vDeg vThaw vTrc vTurb vLeft vLoad vWater vTrips vMissed vBRow vBSum vCell vDirt (upZ vAim (sc xs (i + 1)) (sc xs (i + 2))) vErr vCor vBrk vTop vLm vRows vCols vDown vRight vBound vStrain vPrice vFirm vSums vRays vFalls vSom vHad)) := hDz
    refine lv_aload_n hx hb dL_law_461 rfl (lv_at hl 5 rfl) ?_
    refine hz_iconst hx hb dL_law_462 ?_
    refine hz_laldo hx hb hK hP dL_law_463 ?_
    refine lv_iload hx hb dL_law_464 (lv_at hl 0 rfl) ?_
    refine hz_i2lw hx hb dL_law_466 ?_
    refine hz_lcmp hx hb dL_law_467 (fun v hv => ?_)
    refine lv_if_eq (tgt := 473) hx hb dL_law_468 (by decide) (fun _ => ?_) (fun q => absurd (hv.mpr (congrArg zL (hout.trans (congrArg wI hans.symm)))) q)
    refine lv_goto (tgt := 1990) hx hb dL_law_473 (by decide) ?_
    refine W.widen (k := cells + 40) (n := slots + 400) (by omega) (by omega) ?_
    exact K z vN vC vNow vHaze vCold vHot vPipe vDeg cThaw vThaw vTrc vTurb vLeft vLoad vWater vTrips vMi1 vMi2 vSz vBs b_th vMissed vBRow vBSum vCell vDirt (upZ vAim (sc xs (i + 1)) (sc xs (i + 2))) vErr vCor vBrk vTop vLm vRows vCols vDown vRight vBound vStrain vPrice vFirm vSums vTk vFl1 vFl2 vTe vAw vRo vBe vRays vFalls vSom vHad a_nO H locs ⟨hZ, hZe, hTk, hN, hC, hNow, hHaze, hSalt, hPipe, hDeg, hThC, hThM, hThE, hTrc, hTurb, hLeft, hLoad, hWater, hTrips, hCell, hDirt, (show ∀ k : Int, -1 ≤ (upZ vAim (sc xs (i + 1)) (sc xs (i + 2))) k ∧ (upZ vAim (sc xs (i + 1)) (sc xs (i + 2))) k ≤ 5 from upZ_rng hAim (by omega)), hErr, hCor, hBrk, hTop, hLm, hRows, hCols, hDown, hRight, hBound, hStrain, hPrice, hFirm, hE0⟩ hP hD hS ls (lv_sub hl [2, 3, 4, 5, 6] rfl)
set_option maxHeartbeats 16000000 in
set_option maxRecDepth 100000 in
theorem lw_c5 (p : Program) (l : Launch) (e : Env) (s : State) (m : MethodId) (below : List Frame) (meth : Method) (c : Code) (b L : Nat) (xs : Nat → Int32) (G : va_G) (mi zE : Nat) (y : Nat → ClassId) (ah ad : Nat → Nat) (o0 : Nat) (cells slots : Nat) (i : Int) (hQ : LC p l s m meth c b L xs G mi zE y) (hi : 0 ≤ i ∧ i + 7 ≤ L) (hroom : cells + 40 ≤ 601024 ∧ slots + 400 ≤ 7293034) (K : LK p l e s m below meth c b L xs G mi zE y ah ad o0 (cells + 40) (slots + 400) i 1990) : LK p l e s m below meth c b L xs G mi zE y ah ad o0 cells slots i 476 := by
  intro z vN vC vNow vHaze vCold vHot vPipe vDeg cThaw vThaw vTrc vTurb vLeft vLoad vWater vTrips vMi1 vMi2 vSz vBs vThrown vMissed vBRow vBSum vCell vDirt vAim vErr vCor vBrk vTop vLm vRows vCols vDown vRight vBound vStrain vPrice vFirm vSums vTk vFl1 vFl2 vTe vAw vRo vBe vRays vFalls vSom vHad vO H locs hFA hP hD hS ls hl
  obtain ⟨hx, hb, hr, hts, hown, hml, hX0, hbl, hL, hlocks, hK, hGP, hX, hGN, hlt⟩ := hQ
  have hA : ∀ q : Nat, s.heap.size ≤ q → (fun q : Nat => s.heap.size ≤ q) q := fun _ h => h
  have hbA : ¬ (fun q : Nat => s.heap.size ≤ q) b := Nat.not_le.mpr hbl
  have hFA0 := hFA
  obtain ⟨hZ, hZe, hTk, hN, hC, hNow, hHaze, hSalt, hPipe, hDeg, hThC, hThM, hThE, hTrc, hTurb, hLeft, hLoad, hWater, hTrips, hCell, hDirt, hAim, hErr, hCor, hBrk, hTop, hLm, hRows, hCols, hDown, hRight, hBound, hStrain, hPrice, hFirm, hE0⟩ := hFA
  refine lv_aload_n hx hb dL_law_476 rfl (lv_at hl 1 rfl) ?_
  refine lv_aload_n hx hb dL_law_477 rfl (lv_at hl 0 rfl) ?_
  refine lv_iload hx hb dL_law_478 (lv_at hl 4 rfl) ?_
  refine hz_iconst hx hb dL_law_480 ?_
  refine hz_iadd hx hb dL_law_481 ?_
  refine hz_sld hx hb hX0 hbl hbA hS (by omega) (by omega) dL_law_482 ?_
  refine lv_aload_n hx hb dL_law_483 rfl (lv_at hl 0 rfl) ?_
  refine lv_iload hx hb dL_law_484 (lv_at hl 4 rfl) ?_
  refine hz_iconst hx hb dL_law_486 ?_
  refine hz_iadd hx hb dL_law_487 ?_
  refine hz_sld hx hb hX0 hbl hbA hS (by omega) (by omega) dL_law_488 ?_
  refine hz_if_eq (tgt := 496) hx hb dL_law_489 (by decide) (sc_rng _ _) (fun c2 => ?_) (fun c2 => ?_)
  · refine hz_iconst hx hb dL_law_496 ?_
    refine lv_aload_n hx hb dL_law_497 rfl (lv_at hl 3 rfl) ?_
    refine hz_lawL (As := [.ref (ah 0), zi (sc xs (i + 1)), zi 0, .ref o0]) (rest := []) ⟨hx, hb, hml, hown, hts⟩ (c_L_fail l hlt G ah z mi zE y _ vN vC vNow vHaze vCold vHot vPipe vDeg cThaw vTrc vTurb vLeft vLoad vWater vTrips vMi1 vMi2 vSz vBs vCell vDirt vAim vErr vCor vBrk vTop vLm vRows vCols vDown vRight vBound vStrain vPrice vFirm vSums vTk vFl1 vFl2 vTe vAw vRo vBe o0 vO (sc xs (i + 1)) (0 : Int) hZ hN hBrk (sc_rng _ _) (by omega)) (vx_cwSW 4 hts gL_law_L_fail rfl rfl rfl (by decide +kernel) ⟨Nat.le_of_ble_eq_true rfl, Nat.le_of_ble_eq_true rfl⟩) hP hK hD hS hA hGP hX hGN rfl hl.1 rfl (Nat.le_of_ble_eq_true rfl) dL_law_498 ⟨by show cells + 1 ≤ 601024; omega, by show slots + 6 ≤ 7293034; omega⟩ (fun r u H locs hu hP hD hS => ?_)
    obtain ⟨a_nBrk, a_nO⟩ := u
    obtain ⟨rfl, hu⟩ := hu
    have hU := PLift.up hu
    clear hu
    refine hz_topi (fun kc hkc => ?_)
    have hP : va_P G vwCl (((hW ah z y vN vC vNow vHaze vCold vHot vPipe vDeg cThaw vTrc vTurb vLeft vLoad vWater vTrips vMi1 vMi2 vSz vBs vCell vDirt vAim vErr vCor a_nBrk vTop vLm vRows vCols vDown vRight vBound vStrain vPrice vFirm vSums vTk vFl1 vFl2 vTe vAw vRo vBe) ++ oW o0 y a_nO) ++ (mW ad y vThrown vN vC vNow vHaze vCold vHot vPipe vDeg vThaw vTrc vTurb vLeft vLoad vWater vTrips vMissed vBRow vBSum vCell vDirt vAim vErr vCor vBrk vTop vLm vRows vCols vDown vRight vBound vStrain vPrice vFirm vSums vRays vFalls vSom vHad)) H := hP
    have hD : va_D (fun q : Nat => s.heap.size ≤ q) (((hW ah z y vN vC vNow vHaze vCold vHot vPipe vDeg cThaw vTrc vTurb vLeft vLoad vWater vTrips vMi1 vMi2 vSz vBs vCell vDirt vAim vErr vCor a_nBrk vTop vLm vRows vCols vDown vRight vBound vStrain vPrice vFirm vSums vTk vFl1 vFl2 vTe vAw vRo vBe) ++ oW o0 y a_nO) ++ (mW ad y vThrown vN vC vNow vHaze vCold vHot vPipe vDeg vThaw vTrc vTurb vLeft vLoad vWater vTrips vMissed vBRow vBSum vCell vDirt vAim vErr vCor vBrk vTop vLm vRows vCols vDown vRight vBound vStrain vPrice vFirm vSums vRays vFalls vSom vHad)) := hD
    have hkr : 0 ≤ kc ∧ kc ≤ 3 := by rw [hkc]; first | omega | (split <;> (try split) <;> (try split) <;> omega)
    refine lv_istore (lv' := [(5, zi kc), (0, .ref b), (1, .ref (ah 0)), (2, .ref (ad 0)), (3, .ref o0), (4, zi i)]) hx hb dL_law_501 hl (by decide) rfl (fun ls hl => ?_)
    refine lv_aload_n hx hb dL_law_503 rfl (lv_at hl 3 rfl) ?_
    refine lv_aload_n hx hb dL_law_504 rfl (lv_at hl 1 rfl) ?_
    refine lv_iload hx hb dL_law_505 (lv_at hl 5 rfl) ?_
    refine hz_iconst hx hb dL_law_507 ?_
    refine hz_iadd hx hb dL_law_508 ?_
    refine hz_sld hx hb hX0 hbl hbA hS (by omega) (by omega) dL_law_509 ?_
    refine lv_aload_n hx hb dL_law_510 rfl (lv_at hl 1 rfl) ?_
    refine lv_iload hx hb dL_law_511 (lv_at hl 5 rfl) ?_
    refine hz_iconst hx hb dL_law_513 ?_
    refine hz_iadd hx hb dL_law_514 ?_
    refine hz_sld hx hb hX0 hbl hbA hS (by omega) (by omega) dL_law_515 ?_
    refine hz_if_eq (tgt := 523) hx hb dL_law_516 (by decide) (sc_rng _ _) (fun _ => ?_) (fun q => absurd c2 q)
    refine hz_iconst hx hb dL_law_523 ?_
    refine hz_lawMi (As := [zi (sc xs (i + 1)), zi 0]) (rest := []) ⟨hx, hb, hml, hown, hts⟩ (c_X8_fail l G y ad _ vThrown vN vC vNow vHaze vCold vHot vPipe vDeg vThaw vTrc vTurb vLeft vLoad vWater vTrips vMissed vBRow vBSum vCell vDirt vAim vErr vCor vBrk vTop vLm vRows vCols vDown vRight vBound vStrain vPrice vFirm vSums vRays vFalls vSom vHad (sc xs (i + 1)) (0 : Int) hN hBrk (sc_rng _ _) (by omega)) (cwV 2 hts gL_law_X8_fail rfl rfl rfl (by decide +kernel) ⟨Nat.le_of_ble_eq_true rfl, Nat.le_of_ble_eq_true rfl⟩) hP hK hD hS hA 0 9 rfl rfl rfl rfl hl.1 rfl (Nat.le_of_ble_eq_true rfl) dL_law_524 ⟨by show (cells + 1) + 0 ≤ 601024; omega, by show (slots + 6) + 0 ≤ 7293034; omega⟩ (fun _ => rfl) (fun u H locs hu hP hD hS => ?_)
    obtain ⟨b_th, b_r, b_nBrk⟩ := u
    have hM := PLift.up hu
    clear hu
    have hP : va_P G vwCl (((hW ah z y vN vC vNow vHaze vCold vHot vPipe vDeg cThaw vTrc vTurb vLeft vLoad vWater vTrips vMi1 vMi2 vSz vBs vCell vDirt vAim vErr vCor a_nBrk vTop vLm vRows vCols vDown vRight vBound vStrain vPrice vFirm vSums vTk vFl1 vFl2 vTe vAw vRo vBe) ++ oW o0 y a_nO) ++ (mW ad y b_th vN vC vNow vHaze vCold vHot vPipe vDeg vThaw vTrc vTurb vLeft vLoad vWater vTrips vMissed vBRow vBSum vCell vDirt vAim vErr vCor b_nBrk vTop vLm vRows vCols vDown vRight vBound vStrain vPrice vFirm vSums vRays vFalls vSom vHad)) H := hP
    have hD : va_D (fun q : Nat => s.heap.size ≤ q) (((hW ah z y vN vC vNow vHaze vCold vHot vPipe vDeg cThaw vTrc vTurb vLeft vLoad vWater vTrips vMi1 vMi2 vSz vBs vCell vDirt vAim vErr vCor a_nBrk vTop vLm vRows vCols vDown vRight vBound vStrain vPrice vFirm vSums vTk vFl1 vFl2 vTe vAw vRo vBe) ++ oW o0 y a_nO) ++ (mW ad y b_th vN vC vNow vHaze vCold vHot vPipe vDeg vThaw vTrc vTurb vLeft vLoad vWater vTrips vMissed vBRow vBSum vCell vDirt vAim vErr vCor b_nBrk vTop vLm vRows vCols vDown vRight vBound vStrain vPrice vFirm vSums vRays vFalls vSom vHad)) := hD
    have hmk : b_th = kc := (hM.down.1).trans hkc.symm
    refine lv_istore (lv' := [(6, zi b_r), (5, zi kc), (0, .ref b), (1, .ref (ah 0)), (2, .ref (ad 0)), (3, .ref o0), (4, zi i)]) hx hb dL_law_527 hl (by decide) rfl (fun ls hl => ?_)
    refine lv_aload_n hx hb dL_law_529 rfl (lv_at hl 4 rfl) ?_
    refine hz_lawMi (As := []) (rest := []) ⟨hx, hb, hml, hown, hts⟩ (c_X8_thrown l G y ad _ b_th vN vC vNow vHaze vCold vHot vPipe vDeg vThaw vTrc vTurb vLeft vLoad vWater vTrips vMissed vBRow vBSum vCell vDirt vAim vErr vCor b_nBrk vTop vLm vRows vCols vDown vRight vBound vStrain vPrice vFirm vSums vRays vFalls vSom vHad) (cwV 0 hts gL_law_X8_thrown rfl rfl rfl (by decide +kernel) ⟨Nat.le_of_ble_eq_true rfl, Nat.le_of_ble_eq_true rfl⟩) hP hK hD hS hA 0 9 rfl rfl rfl rfl hl.1 rfl (Nat.le_of_ble_eq_true rfl) dL_law_530 ⟨by show (cells + 1) + 0 ≤ 601024; omega, by show (slots + 6) + 0 ≤ 7293034; omega⟩ (fun _ => rfl) (fun u H locs hu hP hD hS => ?_)
    have hP : va_P G vwCl (((hW ah z y vN vC vNow vHaze vCold vHot vPipe vDeg cThaw vTrc vTurb vLeft vLoad vWater vTrips vMi1 vMi2 vSz vBs vCell vDirt vAim vErr vCor a_nBrk vTop vLm vRows vCols vDown vRight vBound vStrain vPrice vFirm vSums vTk vFl1 vFl2 vTe vAw vRo vBe) ++ oW o0 y a_nO) ++ (mW ad y b_th vN vC vNow vHaze vCold vHot vPipe vDeg vThaw vTrc vTurb vLeft vLoad vWater vTrips vMissed vBRow vBSum vCell vDirt vAim vErr vCor b_nBrk vTop vLm vRows vCols vDown vRight vBound vStrain vPrice vFirm vSums vRays vFalls vSom vHad)) H := hP
    have hD : va_D (fun q : Nat => s.heap.size ≤ q) (((hW ah z y vN vC vNow vHaze vCold vHot vPipe vDeg cThaw vTrc vTurb vLeft vLoad vWater vTrips vMi1 vMi2 vSz vBs vCell vDirt vAim vErr vCor a_nBrk vTop vLm vRows vCols vDown vRight vBound vStrain vPrice vFirm vSums vTk vFl1 vFl2 vTe vAw vRo vBe) ++ oW o0 y a_nO) ++ (mW ad y b_th vN vC vNow vHaze vCold vHot vPipe vDeg vThaw vTrc vTurb vLeft vLoad vWater vTrips vMissed vBRow vBSum vCell vDirt vAim vErr vCor b_nBrk vTop vLm vRows vCols vDown vRight vBound vStrain vPrice vFirm vSums vRays vFalls vSom vHad)) := hD
    refine lv_iload hx hb dL_law_533 (lv_at hl 1 rfl) ?_
    refine hz_icmp_eq (tgt := 540) hx hb dL_law_535 (by decide) (by omega) (fun _ => ?_) (fun q => absurd (by omega) q)
    refine lv_iload hx hb dL_law_540 (lv_at hl 1 rfl) ?_
    refine hz_if_ne (tgt := 564) hx hb dL_law_542 (by decide) (by omega) (fun c1 => ?_) (fun c1 => ?_)
    · have h0 : ¬ (if ¬ (0 ≤ (sc xs (i + 1)) ∧ (sc xs (i + 1)) < vN) then (1 : Int) else 0) = 0 := fun q => c1 (hkc.trans q)
      have hPz := hP
      have hDz := hD
      have hs_nBrk := (hU.down.2.1 h0).symm
      subst hs_nBrk
      have ht_nBrk := (hM.down.2.2.2.2 h0).symm
      subst ht_nBrk
      have hP : va_P G vwCl (((hW ah z y vN vC vNow vHaze vCold vHot vPipe vDeg cThaw vTrc vTurb vLeft vLoad vWater vTrips vMi1 vMi2 vSz vBs vCell vDirt vAim vErr vCor vBrk vTop vLm vRows vCols vDown vRight vBound vStrain vPrice vFirm vSums vTk vFl1 vFl2 vTe vAw vRo vBe) ++ oW o0 y a_nO) ++ (mW ad y b_th vN vC vNow vHaze vCold vHot vPipe vDeg vThaw vTrc vTurb vLeft vLoad vWater vTrips vMissed vBRow vBSum vCell vDirt vAim vErr vCor vBrk vTop vLm vRows vCols vDown vRight vBound vStrain vPrice vFirm vSums vRays vFalls vSom vHad)) H := hPz
      have hD : va_D (fun q : Nat => s.heap.size ≤ q) (((hW ah z y vN vC vNow vHaze vCold vHot vPipe vDeg cThaw vTrc vTurb vLeft vLoad vWater vTrips vMi1 vMi2 vSz vBs vCell vDirt vAim vErr vCor vBrk vTop vLm vRows vCols vDown vRight vBound vStrain vPrice vFirm vSums vTk vFl1 vFl2 vTe vAw vRo vBe) ++ oW o0 y a_nO) ++ (mW ad y b_th vN vC vNow vHaze vCold vHot vPipe vDeg vThaw vTrc vTurb vLeft vLoad vWater vTrips vMissed vBRow vBSum vCell vDirt vAim vErr vCor vBrk vTop vLm vRows vCols vDown vRight vBound vStrain vPrice vFirm vSums vRays vFalls vSom vHad)) := hDz
      refine lv_goto (tgt := 1990) hx hb dL_law_564 (by decide) ?_
      refine W.widen (k := cells + 40) (n := slots + 400) (by omega) (by omega) ?_
      exact K z vN vC vNow vHaze vCold vHot vPipe vDeg cThaw vThaw vTrc vTurb vLeft vLoad vWater vTrips vMi1 vMi2 vSz vBs b_th vMissed vBRow vBSum vCell vDirt vAim vErr vCor vBrk vTop vLm vRows vCols vDown vRight vBound vStrain vPrice vFirm vSums vTk vFl1 vFl2 vTe vAw vRo vBe vRays vFalls vSom vHad a_nO H locs hFA0 hP hD hS ls (lv_sub hl [2, 3, 4, 5, 6] rfl)
    · have h0 : (if ¬ (0 ≤ (sc xs (i + 1)) ∧ (sc xs (i + 1)) < vN) then (1 : Int) else 0) = 0 := hkc.symm.trans c1
      have hPz := hP
      have hDz := hD
      have hrz : b_r = 0 ∨ b_r = 1 := hM.down.2.2.1
      have hs_nBrk := (hU.down.1 h0).symm
      subst hs_nBrk
      have hout : a_nO 0 = vBrk (sc xs (i + 1)) := hU.down.2.2 h0
      have ht_nBrk := (hM.down.2.2.2.1 h0).symm
      subst ht_nBrk
      have hans : b_r = vBrk (sc xs (i + 1)) := hM.down.2.1 h0
      have hP : va_P G vwCl (((hW ah z y vN vC vNow vHaze vCold vHot vPipe vDeg cThaw vTrc vTurb vLeft vLoad vWater vTrips vMi1 vMi2 vSz vBs vCell vDirt vAim vErr vCor (upZ vBrk (sc xs (i + 1)) (0 : Int)) vTop vLm vRows vCols vDown vRight vBound vStrain vPrice vFirm vSums vTk vFl1 vFl2 vTe vAw vRo vBe) ++ oW o0 y a_nO) ++ (mW ad y b_th vN vC vNow vHaze vCold vHot vPipe vDeg vThaw vTrc vTurb vLeft vLoad vWater vTrips vMissed vBRow vBSum vCell vDirt vAim vErr vCor (upZ vBrk (sc xs (i + 1)) (0 : Int)) vTop vLm vRows vCols vDown vRight vBound vStrain vPrice vFirm vSums vRays vFalls vSom vHad)) H := hPz
      have hD : va_D (fun q : Nat => s.heap.size ≤ q) (((hW ah z y vN vC vNow vHaze vCold vHot vPipe vDeg cThaw vTrc vTurb vLeft vLoad vWater vTrips vMi1 vMi2 vSz vBs vCell vDirt vAim vErr vCor (upZ vBrk (sc xs (i + 1)) (0 : Int)) vTop vLm vRows vCols vDown vRight vBound vStrain vPrice vFirm vSums vTk vFl1 vFl2 vTe vAw vRo vBe) ++ oW o0 y a_nO) ++ (mW ad y b_th vN vC vNow vHaze vCold vHot vPipe vDeg vThaw vTrc vTurb vLeft vLoad vWater vTrips vMissed vBRow vBSum vCell vDirt vAim vErr vCor (upZ vBrk (sc xs (i + 1)) (0 : Int)) vTop vLm vRows vCols vDown vRight vBound vStrain vPrice vFirm vSums vRays vFalls vSom vHad)) := hDz
      refine lv_aload_n hx hb dL_law_545 rfl (lv_at hl 5 rfl) ?_
      refine hz_iconst hx hb dL_law_546 ?_
      refine hz_laldo hx hb hK hP dL_law_547 ?_
      refine lv_iload hx hb dL_law_548 (lv_at hl 0 rfl) ?_
      refine hz_if_eq (tgt := 557) hx hb dL_law_550 (by decide) (by omega) (fun c4 => ?_) (fun c4 => ?_)
      · refine hz_lconst (n := 0) hx hb dL_law_557 (by decide) ?_
        refine hz_lcmp hx hb dL_law_558 (fun v hv => ?_)
        refine lv_if_eq (tgt := 564) hx hb dL_law_559 (by decide) (fun _ => ?_) (fun q => absurd (hv.mpr (congrArg zL (by omega))) q)
        refine lv_goto (tgt := 1990) hx hb dL_law_564 (by decide) ?_
        refine W.widen (k := cells + 40) (n := slots + 400) (by omega) (by omega) ?_
        exact K z vN vC vNow vHaze vCold vHot vPipe vDeg cThaw vThaw vTrc vTurb vLeft vLoad vWater vTrips vMi1 vMi2 vSz vBs b_th vMissed vBRow vBSum vCell vDirt vAim vErr vCor (upZ vBrk (sc xs (i + 1)) (0 : Int)) vTop vLm vRows vCols vDown vRight vBound vStrain vPrice vFirm vSums vTk vFl1 vFl2 vTe vAw vRo vBe vRays vFalls vSom vHad a_nO H locs ⟨hZ, hZe, hTk, hN, hC, hNow, hHaze, hSalt, hPipe, hDeg, hThC, hThM, hThE, hTrc, hTurb, hLeft, hLoad, hWater, hTrips, hCell, hDirt, hAim, hErr, hCor, (show ∀ k : Int, 0 ≤ (upZ vBrk (sc xs (i + 1)) (0 : Int)) k ∧ (upZ vBrk (sc xs (i + 1)) (0 : Int)) k ≤ 1 from upZ_rng hBrk (by omega)), hTop, hLm, hRows, hCols, hDown, hRight, hBound, hStrain, hPrice, hFirm, (show ∀ k9 : Int, vN ≤ k9 → vDirt k9 = 0 ∧ vErr k9 = 0 ∧ vCor k9 = 0 ∧ (upZ vBrk (sc xs (i + 1)) (0 : Int)) k9 = 0 from fun k9 q9 => by
          have q := hE0 k9 q9
          rw [upZ_n (show ¬ k9 = (sc xs (i + 1)) by omega)]
          exact q)⟩ hP hD hS ls (lv_sub hl [2, 3, 4, 5, 6] rfl)
      · refine hz_lconst (n := 1) hx hb dL_law_553 (by decide) ?_
        refine lv_goto (tgt := 558) hx hb dL_law_554 (by decide) ?_
        refine hz_lcmp hx hb dL_law_558 (fun v hv => ?_)
        refine lv_if_eq (tgt := 564) hx hb dL_law_559 (by decide) (fun _ => ?_) (fun q => absurd (hv.mpr (congrArg zL (by omega))) q)
        refine lv_goto (tgt := 1990) hx hb dL_law_564 (by decide) ?_
        refine W.widen (k := cells + 40) (n := slots + 400) (by omega) (by omega) ?_
        exact K z vN vC vNow vHaze vCold vHot vPipe vDeg cThaw vThaw vTrc vTurb vLeft vLoad vWater vTrips vMi1 vMi2 vSz vBs b_th vMissed vBRow vBSum vCell vDirt vAim vErr vCor (upZ vBrk (sc xs (i + 1)) (0 : Int)) vTop vLm vRows vCols vDown vRight vBound vStrain vPrice vFirm vSums vTk vFl1 vFl2 vTe vAw vRo vBe vRays vFalls vSom vHad a_nO H locs ⟨hZ, hZe, hTk, hN, hC, hNow, hHaze, hSalt, hPipe, hDeg, hThC, hThM, hThE, hTrc, hTurb, hLeft, hLoad, hWater, hTrips, hCell, hDirt, hAim, hErr, hCor, (show ∀ k : Int, 0 ≤ (upZ vBrk (sc xs (i + 1)) (0 : Int)) k ∧ (upZ vBrk (sc xs (i + 1)) (0 : Int)) k ≤ 1 from upZ_rng hBrk (by omega)), hTop, hLm, hRows, hCols, hDown, hRight, hBound, hStrain, hPrice, hFirm, (show ∀ k9 : Int, vN ≤ k9 → vDirt k9 = 0 ∧ vErr k9 = 0 ∧ vCor k9 = 0 ∧ (upZ vBrk (sc xs (i + 1)) (0 : Int)) k9 = 0 from fun k9 q9 => by
          have q := hE0 k9 q9
          rw [upZ_n (show ¬ k9 = (sc xs (i + 1)) by omega)]
          exact q)⟩ hP hD hS ls (lv_sub hl [2, 3, 4, 5, 6] rfl)
  · refine hz_iconst hx hb dL_law_492 ?_
    refine lv_goto (tgt := 497) hx hb dL_law_493 (by decide) ?_
    refine lv_aload_n hx hb dL_law_497 rfl (lv_at hl 3 rfl) ?_
    refine hz_lawL (As := [.ref (ah 0), zi (sc xs (i + 1)), zi 1, .ref o0]) (rest := []) ⟨hx, hb, hml, hown, hts⟩ (c_L_fail l hlt G ah z mi zE y _ vN vC vNow vHaze vCold vHot vPipe vDeg cThaw vTrc vTurb vLeft vLoad vWater vTrips vMi1 vMi2 vSz vBs vCell vDirt vAim vErr vCor vBrk vTop vLm vRows vCols vDown vRight vBound vStrain vPrice vFirm vSums vTk vFl1 vFl2 vTe vAw vRo vBe o0 vO (sc xs (i + 1)) (1 : Int) hZ hN hBrk (sc_rng _ _) (by omega)) (vx_cwSW 4 hts gL_law_L_fail rfl rfl rfl (by decide +kernel) ⟨Nat.le_of_ble_eq_true rfl, Nat.le_of_ble_eq_true rfl⟩) hP hK hD hS hA hGP hX hGN rfl hl.1 rfl (Nat.le_of_ble_eq_true rfl) dL_law_498 ⟨by show cells + 1 ≤ 601024; omega, by show slots + 6 ≤ 7293034; omega⟩ (fun r u H locs hu hP hD hS => ?_)
    obtain ⟨a_nBrk, a_nO⟩ := u
    obtain ⟨rfl, hu⟩ := hu
    have hU := PLift.up hu
    clear hu
    refine hz_topi (fun kc hkc => ?_)
    have hP : va_P G vwCl (((hW ah z y vN vC vNow vHaze vCold vHot vPipe vDeg cThaw vTrc vTurb vLeft vLoad vWater vTrips vMi1 vMi2 vSz vBs vCell vDirt vAim vErr vCor a_nBrk vTop vLm vRows vCols vDown vRight vBound vStrain vPrice vFirm vSums vTk vFl1 vFl2 vTe vAw vRo vBe) ++ oW o0 y a_nO) ++ (mW ad y vThrown vN vC vNow vHaze vCold vHot vPipe vDeg vThaw vTrc vTurb vLeft vLoad vWater vTrips vMissed vBRow vBSum vCell vDirt vAim vErr vCor vBrk vTop vLm vRows vCols vDown vRight vBound vStrain vPrice vFirm vSums vRays vFalls vSom vHad)) H := hP
    have hD : va_D (fun q : Nat => s.heap.size ≤ q) (((hW ah z y vN vC vNow vHaze vCold vHot vPipe vDeg cThaw vTrc vTurb vLeft vLoad vWater vTrips vMi1 vMi2 vSz vBs vCell vDirt vAim vErr vCor a_nBrk vTop vLm vRows vCols vDown vRight vBound vStrain vPrice vFirm vSums vTk vFl1 vFl2 vTe vAw vRo vBe) ++ oW o0 y a_nO) ++ (mW ad y vThrown vN vC vNow vHaze vCold vHot vPipe vDeg vThaw vTrc vTurb vLeft vLoad vWater vTrips vMissed vBRow vBSum vCell vDirt vAim vErr vCor vBrk vTop vLm vRows vCols vDown vRight vBound vStrain vPrice vFirm vSums vRays vFalls vSom vHad)) := hD
    have hkr : 0 ≤ kc ∧ kc ≤ 3 := by rw [hkc]; first | omega | (split <;> (try split) <;> (try split) <;> omega)
    refine lv_istore (lv' := [(5, zi kc), (0, .ref b), (1, .ref (ah 0)), (2, .ref (ad 0)), (3, .ref o0), (4, zi i)]) hx hb dL_law_501 hl (by decide) rfl (fun ls hl => ?_)
    refine lv_aload_n hx hb dL_law_503 rfl (lv_at hl 3 rfl) ?_
    refine lv_aload_n hx hb dL_law_504 rfl (lv_at hl 1 rfl) ?_
    refine lv_iload hx hb dL_law_505 (lv_at hl 5 rfl) ?_
    refine hz_iconst hx hb dL_law_507 ?_
    refine hz_iadd hx hb dL_law_508 ?_
    refine hz_sld hx hb hX0 hbl hbA hS (by omega) (by omega) dL_law_509 ?_
    refine lv_aload_n hx hb dL_law_510 rfl (lv_at hl 1 rfl) ?_
    refine lv_iload hx hb dL_law_511 (lv_at hl 5 rfl) ?_
    refine hz_iconst hx hb dL_law_513 ?_
    refine hz_iadd hx hb dL_law_514 ?_
    refine hz_sld hx hb hX0 hbl hbA hS (by omega) (by omega) dL_law_515 ?_
    refine hz_if_eq (tgt := 523) hx hb dL_law_516 (by decide) (sc_rng _ _) (fun q => absurd q c2) (fun _ => ?_)
    refine hz_iconst hx hb dL_law_519 ?_
    refine lv_goto (tgt := 524) hx hb dL_law_520 (by decide) ?_
    refine hz_lawMi (As := [zi (sc xs (i + 1)), zi 1]) (rest := []) ⟨hx, hb, hml, hown, hts⟩ (c_X8_fail l G y ad _ vThrown vN vC vNow vHaze vCold vHot vPipe vDeg vThaw vTrc vTurb vLeft vLoad vWater vTrips vMissed vBRow vBSum vCell vDirt vAim vErr vCor vBrk vTop vLm vRows vCols vDown vRight vBound vStrain vPrice vFirm vSums vRays vFalls vSom vHad (sc xs (i + 1)) (1 : Int) hN hBrk (sc_rng _ _) (by omega)) (cwV 2 hts gL_law_X8_fail rfl rfl rfl (by decide +kernel) ⟨Nat.le_of_ble_eq_true rfl, Nat.le_of_ble_eq_true rfl⟩) hP hK hD hS hA 0 9 rfl rfl rfl rfl hl.1 rfl (Nat.le_of_ble_eq_true rfl) dL_law_524 ⟨by show (cells + 1) + 0 ≤ 601024; omega, by show (slots + 6) + 0 ≤ 7293034; omega⟩ (fun _ => rfl) (fun u H locs hu hP hD hS => ?_)
    obtain ⟨b_th, b_r, b_nBrk⟩ := u
    have hM := PLift.up hu
    clear hu
    have hP : va_P G vwCl (((hW ah z y vN vC vNow vHaze vCold vHot vPipe vDeg cThaw vTrc vTurb vLeft vLoad vWater vTrips vMi1 vMi2 vSz vBs vCell vDirt vAim vErr vCor a_nBrk vTop vLm vRows vCols vDown vRight vBound vStrain vPrice vFirm vSums vTk vFl1 vFl2 vTe vAw vRo vBe) ++ oW o0 y a_nO) ++ (mW ad y b_th vN vC vNow vHaze vCold vHot vPipe vDeg vThaw vTrc vTurb vLeft vLoad vWater vTrips vMissed vBRow vBSum vCell vDirt vAim vErr vCor b_nBrk vTop vLm vRows vCols vDown vRight vBound vStrain vPrice vFirm vSums vRays vFalls vSom vHad)) H := hP
    have hD : va_D (fun q : Nat => s.heap.size ≤ q) (((hW ah z y vN vC vNow vHaze vCold vHot vPipe vDeg cThaw vTrc vTurb vLeft vLoad vWater vTrips vMi1 vMi2 vSz vBs vCell vDirt vAim vErr vCor a_nBrk vTop vLm vRows vCols vDown vRight vBound vStrain vPrice vFirm vSums vTk vFl1 vFl2 vTe vAw vRo vBe) ++ oW o0 y a_nO) ++ (mW ad y b_th vN vC vNow vHaze vCold vHot vPipe vDeg vThaw vTrc vTurb vLeft vLoad vWater vTrips vMissed vBRow vBSum vCell vDirt vAim vErr vCor b_nBrk vTop vLm vRows vCols vDown vRight vBound vStrain vPrice vFirm vSums vRays vFalls vSom vHad)) := hD
    have hmk : b_th = kc := (hM.down.1).trans hkc.symm
    refine lv_istore (lv' := [(6, zi b_r), (5, zi kc), (0, .ref b), (1, .ref (ah 0)), (2, .ref (ad 0)), (3, .ref o0), (4, zi i)]) hx hb dL_law_527 hl (by decide) rfl (fun ls hl => ?_)
    refine lv_aload_n hx hb dL_law_529 rfl (lv_at hl 4 rfl) ?_
    refine hz_lawMi (As := []) (rest := []) ⟨hx, hb, hml, hown, hts⟩ (c_X8_thrown l G y ad _ b_th vN vC vNow vHaze vCold vHot vPipe vDeg vThaw vTrc vTurb vLeft vLoad vWater vTrips vMissed vBRow vBSum vCell vDirt vAim vErr vCor b_nBrk vTop vLm vRows vCols vDown vRight vBound vStrain vPrice vFirm vSums vRays vFalls vSom vHad) (cwV 0 hts gL_law_X8_thrown rfl rfl rfl (by decide +kernel) ⟨Nat.le_of_ble_eq_true rfl, Nat.le_of_ble_eq_true rfl⟩) hP hK hD hS hA 0 9 rfl rfl rfl rfl hl.1 rfl (Nat.le_of_ble_eq_true rfl) dL_law_530 ⟨by show (cells + 1) + 0 ≤ 601024; omega, by show (slots + 6) + 0 ≤ 7293034; omega⟩ (fun _ => rfl) (fun u H locs hu hP hD hS => ?_)
    have hP : va_P G vwCl (((hW ah z y vN vC vNow vHaze vCold vHot vPipe vDeg cThaw vTrc vTurb vLeft vLoad vWater vTrips vMi1 vMi2 vSz vBs vCell vDirt vAim vErr vCor a_nBrk vTop vLm vRows vCols vDown vRight vBound vStrain vPrice vFirm vSums vTk vFl1 vFl2 vTe vAw vRo vBe) ++ oW o0 y a_nO) ++ (mW ad y b_th vN vC vNow vHaze vCold vHot vPipe vDeg vThaw vTrc vTurb vLeft vLoad vWater vTrips vMissed vBRow vBSum vCell vDirt vAim vErr vCor b_nBrk vTop vLm vRows vCols vDown vRight vBound vStrain vPrice vFirm vSums vRays vFalls vSom vHad)) H := hP
    have hD : va_D (fun q : Nat => s.heap.size ≤ q) (((hW ah z y vN vC vNow vHaze vCold vHot vPipe vDeg cThaw vTrc vTurb vLeft vLoad vWater vTrips vMi1 vMi2 vSz vBs vCell vDirt vAim vErr vCor a_nBrk vTop vLm vRows vCols vDown vRight vBound vStrain vPrice vFirm vSums vTk vFl1 vFl2 vTe vAw vRo vBe) ++ oW o0 y a_nO) ++ (mW ad y b_th vN vC vNow vHaze vCold vHot vPipe vDeg vThaw vTrc vTurb vLeft vLoad vWater vTrips vMissed vBRow vBSum vCell vDirt vAim vErr vCor b_nBrk vTop vLm vRows vCols vDown vRight vBound vStrain vPrice vFirm vSums vRays vFalls vSom vHad)) := hD
    refine lv_iload hx hb dL_law_533 (lv_at hl 1 rfl) ?_
    refine hz_icmp_eq (tgt := 540) hx hb dL_law_535 (by decide) (by omega) (fun _ => ?_) (fun q => absurd (by omega) q)
    refine lv_iload hx hb dL_law_540 (lv_at hl 1 rfl) ?_
    refine hz_if_ne (tgt := 564) hx hb dL_law_542 (by decide) (by omega) (fun c1 => ?_) (fun c1 => ?_)
    · have h0 : ¬ (if ¬ (0 ≤ (sc xs (i + 1)) ∧ (sc xs (i + 1)) < vN) then (1 : Int) else 0) = 0 := fun q => c1 (hkc.trans q)
      have hPz := hP
      have hDz := hD
      have hs_nBrk := (hU.down.2.1 h0).symm
      subst hs_nBrk
      have ht_nBrk := (hM.down.2.2.2.2 h0).symm
      subst ht_nBrk
      have hP : va_P G vwCl (((hW ah z y vN vC vNow vHaze vCold vHot vPipe vDeg cThaw vTrc vTurb vLeft vLoad vWater vTrips vMi1 vMi2 vSz vBs vCell vDirt vAim vErr vCor vBrk vTop vLm vRows vCols vDown vRight vBound vStrain vPrice vFirm vSums vTk vFl1 vFl2 vTe vAw vRo vBe) ++ oW o0 y a_nO) ++ (mW ad y b_th vN vC vNow vHaze vCold vHot vPipe vDeg vThaw vTrc vTurb vLeft vLoad vWater vTrips vMissed vBRow vBSum vCell vDirt vAim vErr vCor vBrk vTop vLm vRows vCols vDown vRight vBound vStrain vPrice vFirm vSums vRays vFalls vSom vHad)) H := hPz
      have hD : va_D (fun q : Nat => s.heap.size ≤ q) (((hW ah z y vN vC vNow vHaze vCold vHot vPipe vDeg cThaw vTrc vTurb vLeft vLoad vWater vTrips vMi1 vMi2 vSz vBs vCell vDirt vAim vErr vCor vBrk vTop vLm vRows vCols vDown vRight vBound vStrain vPrice vFirm vSums vTk vFl1 vFl2 vTe vAw vRo vBe) ++ oW o0 y a_nO) ++ (mW ad y b_th vN vC vNow vHaze vCold vHot vPipe vDeg vThaw vTrc vTurb vLeft vLoad vWater vTrips vMissed vBRow vBSum vCell vDirt vAim vErr vCor vBrk vTop vLm vRows vCols vDown vRight vBound vStrain vPrice vFirm vSums vRays vFalls vSom vHad)) := hDz
      refine lv_goto (tgt := 1990) hx hb dL_law_564 (by decide) ?_
      refine W.widen (k := cells + 40) (n := slots + 400) (by omega) (by omega) ?_
      exact K z vN vC vNow vHaze vCold vHot vPipe vDeg cThaw vThaw vTrc vTurb vLeft vLoad vWater vTrips vMi1 vMi2 vSz vBs b_th vMissed vBRow vBSum vCell vDirt vAim vErr vCor vBrk vTop vLm vRows vCols vDown vRight vBound vStrain vPrice vFirm vSums vTk vFl1 vFl2 vTe vAw vRo vBe vRays vFalls vSom vHad a_nO H locs hFA0 hP hD hS ls (lv_sub hl [2, 3, 4, 5, 6] rfl)
    · have h0 : (if ¬ (0 ≤ (sc xs (i + 1)) ∧ (sc xs (i + 1)) < vN) then (1 : Int) else 0) = 0 := hkc.symm.trans c1
      have hPz := hP
      have hDz := hD
      have hrz : b_r = 0 ∨ b_r = 1 := hM.down.2.2.1
      have hs_nBrk := (hU.down.1 h0).symm
      subst hs_nBrk
      have hout : a_nO 0 = vBrk (sc xs (i + 1)) := hU.down.2.2 h0
      have ht_nBrk := (hM.down.2.2.2.1 h0).symm
      subst ht_nBrk
      have hans : b_r = vBrk (sc xs (i + 1)) := hM.down.2.1 h0
      have hP : va_P G vwCl (((hW ah z y vN vC vNow vHaze vCold vHot vPipe vDeg cThaw vTrc vTurb vLeft vLoad vWater vTrips vMi1 vMi2 vSz vBs vCell vDirt vAim vErr vCor (upZ vBrk (sc xs (i + 1)) (1 : Int)) vTop vLm vRows vCols vDown vRight vBound vStrain vPrice vFirm vSums vTk vFl1 vFl2 vTe vAw vRo vBe) ++ oW o0 y a_nO) ++ (mW ad y b_th vN vC vNow vHaze vCold vHot vPipe vDeg vThaw vTrc vTurb vLeft vLoad vWater vTrips vMissed vBRow vBSum vCell vDirt vAim vErr vCor (upZ vBrk (sc xs (i + 1)) (1 : Int)) vTop vLm vRows vCols vDown vRight vBound vStrain vPrice vFirm vSums vRays vFalls vSom vHad)) H := hPz
      have hD : va_D (fun q : Nat => s.heap.size ≤ q) (((hW ah z y vN vC vNow vHaze vCold vHot vPipe vDeg cThaw vTrc vTurb vLeft vLoad vWater vTrips vMi1 vMi2 vSz vBs vCell vDirt vAim vErr vCor (upZ vBrk (sc xs (i + 1)) (1 : Int)) vTop vLm vRows vCols vDown vRight vBound vStrain vPrice vFirm vSums vTk vFl1 vFl2 vTe vAw vRo vBe) ++ oW o0 y a_nO) ++ (mW ad y b_th vN vC vNow vHaze vCold vHot vPipe vDeg vThaw vTrc vTurb vLeft vLoad vWater vTrips vMissed vBRow vBSum vCell vDirt vAim vErr vCor (upZ vBrk (sc xs (i + 1)) (1 : Int)) vTop vLm vRows vCols vDown vRight vBound vStrain vPrice vFirm vSums vRays vFalls vSom vHad)) := hDz
      refine lv_aload_n hx hb dL_law_545 rfl (lv_at hl 5 rfl) ?_
      refine hz_iconst hx hb dL_law_546 ?_
      refine hz_laldo hx hb hK hP dL_law_547 ?_
      refine lv_iload hx hb dL_law_548 (lv_at hl 0 rfl) ?_
      refine hz_if_eq (tgt := 557) hx hb dL_law_550 (by decide) (by omega) (fun c6 => ?_) (fun c6 => ?_)
      · refine hz_lconst (n := 0) hx hb dL_law_557 (by decide) ?_
        refine hz_lcmp hx hb dL_law_558 (fun v hv => ?_)
        refine lv_if_eq (tgt := 564) hx hb dL_law_559 (by decide) (fun _ => ?_) (fun q => absurd (hv.mpr (congrArg zL (by omega))) q)
        refine lv_goto (tgt := 1990) hx hb dL_law_564 (by decide) ?_
        refine W.widen (k := cells + 40) (n := slots + 400) (by omega) (by omega) ?_
        exact K z vN vC vNow vHaze vCold vHot vPipe vDeg cThaw vThaw vTrc vTurb vLeft vLoad vWater vTrips vMi1 vMi2 vSz vBs b_th vMissed vBRow vBSum vCell vDirt vAim vErr vCor (upZ vBrk (sc xs (i + 1)) (1 : Int)) vTop vLm vRows vCols vDown vRight vBound vStrain vPrice vFirm vSums vTk vFl1 vFl2 vTe vAw vRo vBe vRays vFalls vSom vHad a_nO H locs ⟨hZ, hZe, hTk, hN, hC, hNow, hHaze, hSalt, hPipe, hDeg, hThC, hThM, hThE, hTrc, hTurb, hLeft, hLoad, hWater, hTrips, hCell, hDirt, hAim, hErr, hCor, (show ∀ k : Int, 0 ≤ (upZ vBrk (sc xs (i + 1)) (1 : Int)) k ∧ (upZ vBrk (sc xs (i + 1)) (1 : Int)) k ≤ 1 from upZ_rng hBrk (by omega)), hTop, hLm, hRows, hCols, hDown, hRight, hBound, hStrain, hPrice, hFirm, (show ∀ k9 : Int, vN ≤ k9 → vDirt k9 = 0 ∧ vErr k9 = 0 ∧ vCor k9 = 0 ∧ (upZ vBrk (sc xs (i + 1)) (1 : Int)) k9 = 0 from fun k9 q9 => by
          have q := hE0 k9 q9
          rw [upZ_n (show ¬ k9 = (sc xs (i + 1)) by omega)]
          exact q)⟩ hP hD hS ls (lv_sub hl [2, 3, 4, 5, 6] rfl)
      · refine hz_lconst (n := 1) hx hb dL_law_553 (by decide) ?_
        refine lv_goto (tgt := 558) hx hb dL_law_554 (by decide) ?_
        refine hz_lcmp hx hb dL_law_558 (fun v hv => ?_)
        refine lv_if_eq (tgt := 564) hx hb dL_law_559 (by decide) (fun _ => ?_) (fun q => absurd (hv.mpr (congrArg zL (by omega))) q)
        refine lv_goto (tgt := 1990) hx hb dL_law_564 (by decide) ?_
        refine W.widen (k := cells + 40) (n := slots + 400) (by omega) (by omega) ?_
        exact K z vN vC vNow vHaze vCold vHot vPipe vDeg cThaw vThaw vTrc vTurb vLeft vLoad vWater vTrips vMi1 vMi2 vSz vBs b_th vMissed vBRow vBSum vCell vDirt vAim vErr vCor (upZ vBrk (sc xs (i + 1)) (1 : Int)) vTop vLm vRows vCols vDown vRight vBound vStrain vPrice vFirm vSums vTk vFl1 vFl2 vTe vAw vRo vBe vRays vFalls vSom vHad a_nO H locs ⟨hZ, hZe, hTk, hN, hC, hNow, hHaze, hSalt, hPipe, hDeg, hThC, hThM, hThE, hTrc, hTurb, hLeft, hLoad, hWater, hTrips, hCell, hDirt, hAim, hErr, hCor, (show ∀ k : Int, 0 ≤ (upZ vBrk (sc xs (i + 1)) (1 : Int)) k ∧ (upZ vBrk (sc xs (i + 1)) (1 : Int)) k ≤ 1 from upZ_rng hBrk (by omega)), hTop, hLm, hRows, hCols, hDown, hRight, hBound, hStrain, hPrice, hFirm, (show ∀ k9 : Int, vN ≤ k9 → vDirt k9 = 0 ∧ vErr k9 = 0 ∧ vCor k9 = 0 ∧ (upZ vBrk (sc xs (i + 1)) (1 : Int)) k9 = 0 from fun k9 q9 => by
          have q := hE0 k9 q9
          rw [upZ_n (show ¬ k9 = (sc xs (i + 1)) by omega)]
          exact q)⟩ hP hD hS ls (lv_sub hl [2, 3, 4, 5, 6] rfl)
set_option maxHeartbeats 16000000 in
set_option maxRecDepth 100000 in
theorem lw_c6 (p : Program) (l : Launch) (e : Env) (s : State) (m : MethodId) (below : List Frame) (meth : Method) (c : Code) (b L : Nat) (xs : Nat → Int32) (G : va_G) (mi zE : Nat) (y : Nat → ClassId) (ah ad : Nat → Nat) (o0 : Nat) (cells slots : Nat) (i : Int) (hQ : LC p l s m meth c b L xs G mi zE y) (hi : 0 ≤ i ∧ i + 7 ≤ L) (hroom : cells + 40 ≤ 601024 ∧ slots + 400 ≤ 7293034) (K : LK p l e s m below meth c b L xs G mi zE y ah ad o0 (cells + 40) (slots + 400) i 1990) : LK p l e s m below meth c b L xs G mi zE y ah ad o0 cells slots i 567 := by
  intro z vN vC vNow vHaze vCold vHot vPipe vDeg cThaw vThaw vTrc vTurb vLeft vLoad vWater vTrips vMi1 vMi2 vSz vBs vThrown vMissed vBRow vBSum vCell vDirt vAim vErr vCor vBrk vTop vLm vRows vCols vDown vRight vBound vStrain vPrice vFirm vSums vTk vFl1 vFl2 vTe vAw vRo vBe vRays vFalls vSom vHad vO H locs hFA hP hD hS ls hl
  obtain ⟨hx, hb, hr, hts, hown, hml, hX0, hbl, hL, hlocks, hK, hGP, hX, hGN, hlt⟩ := hQ
  have hA : ∀ q : Nat, s.heap.size ≤ q → (fun q : Nat => s.heap.size ≤ q) q := fun _ h => h
  have hbA : ¬ (fun q : Nat => s.heap.size ≤ q) b := Nat.not_le.mpr hbl
  have hFA0 := hFA
  obtain ⟨hZ, hZe, hTk, hN, hC, hNow, hHaze, hSalt, hPipe, hDeg, hThC, hThM, hThE, hTrc, hTurb, hLeft, hLoad, hWater, hTrips, hCell, hDirt, hAim, hErr, hCor, hBrk, hTop, hLm, hRows, hCols, hDown, hRight, hBound, hStrain, hPrice, hFirm, hE0⟩ := hFA
  refine lv_aload_n hx hb dL_law_567 rfl (lv_at hl 1 rfl) ?_
  refine lv_aload_n hx hb dL_law_568 rfl (lv_at hl 0 rfl) ?_
  refine lv_iload hx hb dL_law_569 (lv_at hl 4 rfl) ?_
  refine hz_iconst hx hb dL_law_571 ?_
  refine hz_iadd hx hb dL_law_572 ?_
  refine hz_sld hx hb hX0 hbl hbA hS (by omega) (by omega) dL_law_573 ?_
  refine lv_aload_n hx hb dL_law_574 rfl (lv_at hl 3 rfl) ?_
  refine hz_lawL (As := [.ref (ah 0), zi (sc xs (i + 1)), .ref o0]) (rest := []) ⟨hx, hb, hml, hown, hts⟩ (c_L_wash l hlt G ah z mi zE y _ vN vC vNow vHaze vCold vHot vPipe vDeg cThaw vTrc vTurb vLeft vLoad vWater vTrips vMi1 vMi2 vSz vBs vCell vDirt vAim vErr vCor vBrk vTop vLm vRows vCols vDown vRight vBound vStrain vPrice vFirm vSums vTk vFl1 vFl2 vTe vAw vRo vBe o0 vO (sc xs (i + 1)) hZ hN hNow hWater (sc_rng _ _)) (vx_cwSW 3 hts gL_law_L_wash rfl rfl rfl (by decide +kernel) ⟨Nat.le_of_ble_eq_true rfl, Nat.le_of_ble_eq_true rfl⟩) hP hK hD hS hA hGP hX hGN rfl hl.1 rfl (Nat.le_of_ble_eq_true rfl) dL_law_575 ⟨by show cells + 2 ≤ 601024; omega, by show slots + 12 ≤ 7293034; omega⟩ (fun r u H locs hu hP hD hS => ?_)
  obtain ⟨a_nDirt, a_nWater, a_nO⟩ := u
  obtain ⟨rfl, hu⟩ := hu
  have hU := PLift.up hu
  clear hu
  refine hz_topi (fun kc hkc => ?_)
  have hP : va_P G vwCl (((hW ah z y vN vC vNow vHaze vCold vHot vPipe vDeg cThaw vTrc vTurb vLeft vLoad a_nWater vTrips vMi1 vMi2 vSz vBs vCell a_nDirt vAim vErr vCor vBrk vTop vLm vRows vCols vDown vRight vBound vStrain vPrice vFirm vSums vTk vFl1 vFl2 vTe vAw vRo vBe) ++ oW o0 y a_nO) ++ (mW ad y vThrown vN vC vNow vHaze vCold vHot vPipe vDeg vThaw vTrc vTurb vLeft vLoad vWater vTrips vMissed vBRow vBSum vCell vDirt vAim vErr vCor vBrk vTop vLm vRows vCols vDown vRight vBound vStrain vPrice vFirm vSums vRays vFalls vSom vHad)) H := hP
  have hD : va_D (fun q : Nat => s.heap.size ≤ q) (((hW ah z y vN vC vNow vHaze vCold vHot vPipe vDeg cThaw vTrc vTurb vLeft vLoad a_nWater vTrips vMi1 vMi2 vSz vBs vCell a_nDirt vAim vErr vCor vBrk vTop vLm vRows vCols vDown vRight vBound vStrain vPrice vFirm vSums vTk vFl1 vFl2 vTe vAw vRo vBe) ++ oW o0 y a_nO) ++ (mW ad y vThrown vN vC vNow vHaze vCold vHot vPipe vDeg vThaw vTrc vTurb vLeft vLoad vWater vTrips vMissed vBRow vBSum vCell vDirt vAim vErr vCor vBrk vTop vLm vRows vCols vDown vRight vBound vStrain vPrice vFirm vSums vRays vFalls vSom vHad)) := hD
  have hkr : 0 ≤ kc ∧ kc ≤ 3 := by rw [hkc]; first | omega | (split <;> (try split) <;> (try split) <;> omega)
  refine lv_istore (lv' := [(5, zi kc), (0, .ref b), (1, .ref (ah 0)), (2, .ref (ad 0)), (3, .ref o0), (4, zi i)]) hx hb dL_law_578 hl (by decide) rfl (fun ls hl => ?_)
  refine lv_aload_n hx hb dL_law_580 rfl (lv_at hl 3 rfl) ?_
  refine lv_aload_n hx hb dL_law_581 rfl (lv_at hl 1 rfl) ?_
  refine lv_iload hx hb dL_law_582 (lv_at hl 5 rfl) ?_
  refine hz_iconst hx hb dL_law_584 ?_
  refine hz_iadd hx hb dL_law_585 ?_
  refine hz_sld hx hb hX0 hbl hbA hS (by omega) (by omega) dL_law_586 ?_
  refine hz_lawMi (As := [zi (sc xs (i + 1))]) (rest := []) ⟨hx, hb, hml, hown, hts⟩ (c_X8_wash l G y ad _ vThrown vN vC vNow vHaze vCold vHot vPipe vDeg vThaw vTrc vTurb vLeft vLoad vWater vTrips vMissed vBRow vBSum vCell vDirt vAim vErr vCor vBrk vTop vLm vRows vCols vDown vRight vBound vStrain vPrice vFirm vSums vRays vFalls vSom vHad (sc xs (i + 1)) hN hNow hWater (sc_rng _ _)) (cwV 1 hts gL_law_X8_wash rfl rfl rfl (by decide +kernel) ⟨Nat.le_of_ble_eq_true rfl, Nat.le_of_ble_eq_true rfl⟩) hP hK hD hS hA 0 9 rfl rfl rfl rfl hl.1 rfl (Nat.le_of_ble_eq_true rfl) dL_law_587 ⟨by show (cells + 2) + 0 ≤ 601024; omega, by show (slots + 12) + 0 ≤ 7293034; omega⟩ (fun _ => rfl) (fun u H locs hu hP hD hS => ?_)
  obtain ⟨b_th, b_r, b_nDirt, b_nWater⟩ := u
  have hM := PLift.up hu
  clear hu
  have hP : va_P G vwCl (((hW ah z y vN vC vNow vHaze vCold vHot vPipe vDeg cThaw vTrc vTurb vLeft vLoad a_nWater vTrips vMi1 vMi2 vSz vBs vCell a_nDirt vAim vErr vCor vBrk vTop vLm vRows vCols vDown vRight vBound vStrain vPrice vFirm vSums vTk vFl1 vFl2 vTe vAw vRo vBe) ++ oW o0 y a_nO) ++ (mW ad y b_th vN vC vNow vHaze vCold vHot vPipe vDeg vThaw vTrc vTurb vLeft vLoad b_nWater vTrips vMissed vBRow vBSum vCell b_nDirt vAim vErr vCor vBrk vTop vLm vRows vCols vDown vRight vBound vStrain vPrice vFirm vSums vRays vFalls vSom vHad)) H := hP
  have hD : va_D (fun q : Nat => s.heap.size ≤ q) (((hW ah z y vN vC vNow vHaze vCold vHot vPipe vDeg cThaw vTrc vTurb vLeft vLoad a_nWater vTrips vMi1 vMi2 vSz vBs vCell a_nDirt vAim vErr vCor vBrk vTop vLm vRows vCols vDown vRight vBound vStrain vPrice vFirm vSums vTk vFl1 vFl2 vTe vAw vRo vBe) ++ oW o0 y a_nO) ++ (mW ad y b_th vN vC vNow vHaze vCold vHot vPipe vDeg vThaw vTrc vTurb vLeft vLoad b_nWater vTrips vMissed vBRow vBSum vCell b_nDirt vAim vErr vCor vBrk vTop vLm vRows vCols vDown vRight vBound vStrain vPrice vFirm vSums vRays vFalls vSom vHad)) := hD
  have hmk : b_th = kc := (hM.down.1).trans hkc.symm
  refine lv_istore (lv' := [(6, zi b_r), (5, zi kc), (0, .ref b), (1, .ref (ah 0)), (2, .ref (ad 0)), (3, .ref o0), (4, zi i)]) hx hb dL_law_590 hl (by decide) rfl (fun ls hl => ?_)
  refine lv_aload_n hx hb dL_law_592 rfl (lv_at hl 4 rfl) ?_
  refine hz_lawMi (As := []) (rest := []) ⟨hx, hb, hml, hown, hts⟩ (c_X8_thrown l G y ad _ b_th vN vC vNow vHaze vCold vHot vPipe vDeg vThaw vTrc vTurb vLeft vLoad b_nWater vTrips vMissed vBRow vBSum vCell b_nDirt vAim vErr vCor vBrk vTop vLm vRows vCols vDown vRight vBound vStrain vPrice vFirm vSums vRays vFalls vSom vHad) (cwV 0 hts gL_law_X8_thrown rfl rfl rfl (by decide +kernel) ⟨Nat.le_of_ble_eq_true rfl, Nat.le_of_ble_eq_true rfl⟩) hP hK hD hS hA 0 9 rfl rfl rfl rfl hl.1 rfl (Nat.le_of_ble_eq_true rfl) dL_law_593 ⟨by show (cells + 2) + 0 ≤ 601024; omega, by show (slots + 12) + 0 ≤ 7293034; omega⟩ (fun _ => rfl) (fun u H locs hu hP hD hS => ?_)
  have hP : va_P G vwCl (((hW ah z y vN vC vNow vHaze vCold vHot vPipe vDeg cThaw vTrc vTurb vLeft vLoad a_nWater vTrips vMi1 vMi2 vSz vBs vCell a_nDirt vAim vErr vCor vBrk vTop vLm vRows vCols vDown vRight vBound vStrain vPrice vFirm vSums vTk vFl1 vFl2 vTe vAw vRo vBe) ++ oW o0 y a_nO) ++ (mW ad y b_th vN vC vNow vHaze vCold vHot vPipe vDeg vThaw vTrc vTurb vLeft vLoad b_nWater vTrips vMissed vBRow vBSum vCell b_nDirt vAim vErr vCor vBrk vTop vLm vRows vCols vDown vRight vBound vStrain vPrice vFirm vSums vRays vFalls vSom vHad)) H := hP
  have hD : va_D (fun q : Nat => s.heap.size ≤ q) (((hW ah z y vN vC vNow vHaze vCold vHot vPipe vDeg cThaw vTrc vTurb vLeft vLoad a_nWater vTrips vMi1 vMi2 vSz vBs vCell a_nDirt vAim vErr vCor vBrk vTop vLm vRows vCols vDown vRight vBound vStrain vPrice vFirm vSums vTk vFl1 vFl2 vTe vAw vRo vBe) ++ oW o0 y a_nO) ++ (mW ad y b_th vN vC vNow vHaze vCold vHot vPipe vDeg vThaw vTrc vTurb vLeft vLoad b_nWater vTrips vMissed vBRow vBSum vCell b_nDirt vAim vErr vCor vBrk vTop vLm vRows vCols vDown vRight vBound vStrain vPrice vFirm vSums vRays vFalls vSom vHad)) := hD
  refine lv_iload hx hb dL_law_596 (lv_at hl 1 rfl) ?_
  refine hz_icmp_eq (tgt := 603) hx hb dL_law_598 (by decide) (by omega) (fun _ => ?_) (fun q => absurd (by omega) q)
  refine lv_iload hx hb dL_law_603 (lv_at hl 1 rfl) ?_
  refine hz_if_ne (tgt := 620) hx hb dL_law_605 (by decide) (by omega) (fun c1 => ?_) (fun c1 => ?_)
  · have h0 : ¬ (if ¬ (0 ≤ (sc xs (i + 1)) ∧ (sc xs (i + 1)) < vN) then (1 : Int) else if 0 < strZ vNow ∨ vWater < 3 then 2 else 0) = 0 := fun q => c1 (hkc.trans q)
    have hPz := hP
    have hDz := hD
    have hs_nDirt := (hU.down.2.2.1 h0).symm
    subst hs_nDirt
    have hs_nWater := (hU.down.2.2.2.1 h0).symm
    subst hs_nWater
    have ht_nDirt := (hM.down.2.2.2.1 h0).symm
    subst ht_nDirt
    have ht_nWater := (hM.down.2.2.2.2.2 h0).symm
    subst ht_nWater
    have hP : va_P G vwCl (((hW ah z y vN vC vNow vHaze vCold vHot vPipe vDeg cThaw vTrc vTurb vLeft vLoad vWater vTrips vMi1 vMi2 vSz vBs vCell vDirt vAim vErr vCor vBrk vTop vLm vRows vCols vDown vRight vBound vStrain vPrice vFirm vSums vTk vFl1 vFl2 vTe vAw vRo vBe) ++ oW o0 y a_nO) ++ (mW ad y b_th vN vC vNow vHaze vCold vHot vPipe vDeg vThaw vTrc vTurb vLeft vLoad vWater vTrips vMissed vBRow vBSum vCell vDirt vAim vErr vCor vBrk vTop vLm vRows vCols vDown vRight vBound vStrain vPrice vFirm vSums vRays vFalls vSom vHad)) H := hPz
    have hD : va_D (fun q : Nat => s.heap.size ≤ q) (((hW ah z y vN vC vNow vHaze vCold vHot vPipe vDeg cThaw vTrc vTurb vLeft vLoad vWater vTrips vMi1 vMi2 vSz vBs vCell vDirt vAim vErr vCor vBrk vTop vLm vRows vCols vDown vRight vBound vStrain vPrice vFirm vSums vTk vFl1 vFl2 vTe vAw vRo vBe) ++ oW o0 y a_nO) ++ (mW ad y b_th vN vC vNow vHaze vCold vHot vPipe vDeg vThaw vTrc vTurb vLeft vLoad vWater vTrips vMissed vBRow vBSum vCell vDirt vAim vErr vCor vBrk vTop vLm vRows vCols vDown vRight vBound vStrain vPrice vFirm vSums vRays vFalls vSom vHad)) := hDz
    refine lv_goto (tgt := 1990) hx hb dL_law_620 (by decide) ?_
    refine W.widen (k := cells + 40) (n := slots + 400) (by omega) (by omega) ?_
    exact K z vN vC vNow vHaze vCold vHot vPipe vDeg cThaw vThaw vTrc vTurb vLeft vLoad vWater vTrips vMi1 vMi2 vSz vBs b_th vMissed vBRow vBSum vCell vDirt vAim vErr vCor vBrk vTop vLm vRows vCols vDown vRight vBound vStrain vPrice vFirm vSums vTk vFl1 vFl2 vTe vAw vRo vBe vRays vFalls vSom vHad a_nO H locs hFA0 hP hD hS ls (lv_sub hl [2, 3, 4, 5, 6] rfl)
  · have h0 : (if ¬ (0 ≤ (sc xs (i + 1)) ∧ (sc xs (i + 1)) < vN) then (1 : Int) else if 0 < strZ vNow ∨ vWater < 3 then 2 else 0) = 0 := hkc.symm.trans c1
    have hPz := hP
    have hDz := hD
    have hs_nDirt := (hU.down.1 h0).symm
    subst hs_nDirt
    have hs_nWater := (hU.down.2.1 h0).symm
    subst hs_nWater
    have hout : a_nO 0 = wI (vDirt (sc xs (i + 1))) := hU.down.2.2.2.2 h0
    have ht_nDirt := (hM.down.2.2.1 h0).symm
    subst ht_nDirt
    have ht_nWater := (hM.down.2.2.2.2.1 h0).symm
    subst ht_nWater
    have hans : b_r = vDirt (sc xs (i + 1)) := hM.down.2.1 h0
    have hP : va_P G vwCl (((hW ah z y vN vC vNow vHaze vCold vHot vPipe vDeg cThaw vTrc vTurb vLeft vLoad (vWater - 3) vTrips vMi1 vMi2 vSz vBs vCell (upZ vDirt (sc xs (i + 1)) 0) vAim vErr vCor vBrk vTop vLm vRows vCols vDown vRight vBound vStrain vPrice vFirm vSums vTk vFl1 vFl2 vTe vAw vRo vBe) ++ oW o0 y a_nO) ++ (mW ad y b_th vN vC vNow vHaze vCold vHot vPipe vDeg vThaw vTrc vTurb vLeft vLoad (vWater - 3) vTrips vMissed vBRow vBSum vCell (upZ vDirt (sc xs (i + 1)) 0) vAim vErr vCor vBrk vTop vLm vRows vCols vDown vRight vBound vStrain vPrice vFirm vSums vRays vFalls vSom vHad)) H := hPz
    have hD : va_D (fun q : Nat => s.heap.size ≤ q) (((hW ah z y vN vC vNow vHaze vCold vHot vPipe vDeg cThaw vTrc vTurb vLeft vLoad (vWater - 3) vTrips vMi1 vMi2 vSz vBs vCell (upZ vDirt (sc xs (i + 1)) 0) vAim vErr vCor vBrk vTop vLm vRows vCols vDown vRight vBound vStrain vPrice vFirm vSums vTk vFl1 vFl2 vTe vAw vRo vBe) ++ oW o0 y a_nO) ++ (mW ad y b_th vN vC vNow vHaze vCold vHot vPipe vDeg vThaw vTrc vTurb vLeft vLoad (vWater - 3) vTrips vMissed vBRow vBSum vCell (upZ vDirt (sc xs (i + 1)) 0) vAim vErr vCor vBrk vTop vLm vRows vCols vDown vRight vBound vStrain vPrice vFirm vSums vRays vFalls vSom vHad)) := hDz
    refine lv_aload_n hx hb dL_law_608 rfl (lv_at hl 5 rfl) ?_
    refine hz_iconst hx hb dL_law_609 ?_
    refine hz_laldo hx hb hK hP dL_law_610 ?_
    refine lv_iload hx hb dL_law_611 (lv_at hl 0 rfl) ?_
    refine hz_i2lw hx hb dL_law_613 ?_
    refine hz_lcmp hx hb dL_law_614 (fun v hv => ?_)
    refine lv_if_eq (tgt := 620) hx hb dL_law_615 (by decide) (fun _ => ?_) (fun q => absurd (hv.mpr (congrArg zL (hout.trans (congrArg wI hans.symm)))) q)
    refine lv_goto (tgt := 1990) hx hb dL_law_620 (by decide) ?_
    refine W.widen (k := cells + 40) (n := slots + 400) (by omega) (by omega) ?_
    exact K z vN vC vNow vHaze vCold vHot vPipe vDeg cThaw vThaw vTrc vTurb vLeft vLoad (vWater - 3) vTrips vMi1 vMi2 vSz vBs b_th vMissed vBRow vBSum vCell (upZ vDirt (sc xs (i + 1)) 0) vAim vErr vCor vBrk vTop vLm vRows vCols vDown vRight vBound vStrain vPrice vFirm vSums vTk vFl1 vFl2 vTe vAw vRo vBe vRays vFalls vSom vHad a_nO H locs ⟨hZ, hZe, hTk, hN, hC, hNow, hHaze, hSalt, hPipe, hDeg, hThC, hThM, hThE, hTrc, hTurb, hLeft, hLoad, (show 0 ≤ (vWater - 3) ∧ (vWater - 3) ≤ 1000 from by omega), hTrips, hCell, (show ∀ k : Int, 0 ≤ (upZ vDirt (sc xs (i + 1)) 0) k ∧ (upZ vDirt (sc xs (i + 1)) 0) k ≤ 9 from upZ_rng hDirt (by omega)), hAim, hErr, hCor, hBrk, hTop, hLm, hRows, hCols, hDown, hRight, hBound, hStrain, hPrice, hFirm, (show ∀ k9 : Int, vN ≤ k9 → (upZ vDirt (sc xs (i + 1)) 0) k9 = 0 ∧ vErr k9 = 0 ∧ vCor k9 = 0 ∧ vBrk k9 = 0 from fun k9 q9 => by
          have q := hE0 k9 q9
          rw [upZ_n (show ¬ k9 = (sc xs (i + 1)) by omega)]
          exact q)⟩ hP hD hS ls (lv_sub hl [2, 3, 4, 5, 6] rfl)
set_option maxHeartbeats 16000000 in
set_option maxRecDepth 100000 in
theorem lw_c7 (p : Program) (l : Launch) (e : Env) (s : State) (m : MethodId) (below : List Frame) (meth : Method) (c : Code) (b L : Nat) (xs : Nat → Int32) (G : va_G) (mi zE : Nat) (y : Nat → ClassId) (ah ad : Nat → Nat) (o0 : Nat) (cells slots : Nat) (i : Int) (hQ : LC p l s m meth c b L xs G mi zE y) (hi : 0 ≤ i ∧ i + 7 ≤ L) (hroom : cells + 40 ≤ 601024 ∧ slots + 400 ≤ 7293034) (K : LK p l e s m below meth c b L xs G mi zE y ah ad o0 (cells + 40) (slots + 400) i 1990) : LK p l e s m below meth c b L xs G mi zE y ah ad o0 cells slots i 623 := by
  intro z vN vC vNow vHaze vCold vHot vPipe vDeg cThaw vThaw vTrc vTurb vLeft vLoad vWater vTrips vMi1 vMi2 vSz vBs vThrown vMissed vBRow vBSum vCell vDirt vAim vErr vCor vBrk vTop vLm vRows vCols vDown vRight vBound vStrain vPrice vFirm vSums vTk vFl1 vFl2 vTe vAw vRo vBe vRays vFalls vSom vHad vO H locs hFA hP hD hS ls hl
  obtain ⟨hx, hb, hr, hts, hown, hml, hX0, hbl, hL, hlocks, hK, hGP, hX, hGN, hlt⟩ := hQ
  have hA : ∀ q : Nat, s.heap.size ≤ q → (fun q : Nat => s.heap.size ≤ q) q := fun _ h => h
  have hbA : ¬ (fun q : Nat => s.heap.size ≤ q) b := Nat.not_le.mpr hbl
  have hFA0 := hFA
  obtain ⟨hZ, hZe, hTk, hN, hC, hNow, hHaze, hSalt, hPipe, hDeg, hThC, hThM, hThE, hTrc, hTurb, hLeft, hLoad, hWater, hTrips, hCell, hDirt, hAim, hErr, hCor, hBrk, hTop, hLm, hRows, hCols, hDown, hRight, hBound, hStrain, hPrice, hFirm, hE0⟩ := hFA
  refine lv_aload_n hx hb dL_law_623 rfl (lv_at hl 1 rfl) ?_
  refine lv_aload_n hx hb dL_law_624 rfl (lv_at hl 0 rfl) ?_
  refine lv_iload hx hb dL_law_625 (lv_at hl 4 rfl) ?_
  refine hz_iconst hx hb dL_law_627 ?_
  refine hz_iadd hx hb dL_law_628 ?_
  refine hz_sld hx hb hX0 hbl hbA hS (by omega) (by omega) dL_law_629 ?_
  refine lv_aload_n hx hb dL_law_630 rfl (lv_at hl 0 rfl) ?_
  refine lv_iload hx hb dL_law_631 (lv_at hl 4 rfl) ?_
  refine hz_iconst hx hb dL_law_633 ?_
  refine hz_iadd hx hb dL_law_634 ?_
  refine hz_sld hx hb hX0 hbl hbA hS (by omega) (by omega) dL_law_635 ?_
  refine lv_aload_n hx hb dL_law_636 rfl (lv_at hl 3 rfl) ?_
  refine hz_lawL (As := [.ref (ah 0), zi (sc xs (i + 1)), zi (sc xs (i + 2)), .ref o0]) (rest := []) ⟨hx, hb, hml, hown, hts⟩ (c_L_mirrorIs l hlt G ah z mi zE y _ vN vC vNow vHaze vCold vHot vPipe vDeg cThaw vTrc vTurb vLeft vLoad vWater vTrips vMi1 vMi2 vSz vBs vCell vDirt vAim vErr vCor vBrk vTop vLm vRows vCols vDown vRight vBound vStrain vPrice vFirm vSums vTk vFl1 vFl2 vTe vAw vRo vBe o0 vO (sc xs (i + 1)) (sc xs (i + 2)) hZ hTk hN hC hNow hCell hTop hLm hRows hCols hDown hRight hBrk (sc_rng _ _) (sc_rng _ _)) (vx_cwSW 4 hts gL_law_L_mirrorIs rfl rfl rfl (by decide +kernel) ⟨Nat.le_of_ble_eq_true rfl, Nat.le_of_ble_eq_true rfl⟩) hP hK hD hS hA hGP hX hGN rfl hl.1 rfl (Nat.le_of_ble_eq_true rfl) dL_law_637 ⟨by show cells + 2 ≤ 601024; omega, by show slots + 12 ≤ 7293034; omega⟩ (fun r u H locs hu hP hD hS => ?_)
  obtain ⟨a_nO, heq9⟩ : ∃ z9, z9 = u := ⟨_, rfl⟩
  subst heq9
  obtain ⟨rfl, hu⟩ := hu
  have hU := PLift.up hu
  clear hu
  refine hz_topi (fun kc hkc => ?_)
  have hP : va_P G vwCl (((hW ah z y vN vC vNow vHaze vCold vHot vPipe vDeg cThaw vTrc vTurb vLeft vLoad vWater vTrips vMi1 vMi2 vSz vBs vCell vDirt vAim vErr vCor vBrk vTop vLm vRows vCols vDown vRight vBound vStrain vPrice vFirm vSums vTk vFl1 vFl2 vTe vAw vRo vBe) ++ oW o0 y a_nO) ++ (mW ad y vThrown vN vC vNow vHaze vCold vHot vPipe vDeg vThaw vTrc vTurb vLeft vLoad vWater vTrips vMissed vBRow vBSum vCell vDirt vAim vErr vCor vBrk vTop vLm vRows vCols vDown vRight vBound vStrain vPrice vFirm vSums vRays vFalls vSom vHad)) H := hP
  have hD : va_D (fun q : Nat => s.heap.size ≤ q) (((hW ah z y vN vC vNow vHaze vCold vHot vPipe vDeg cThaw vTrc vTurb vLeft vLoad vWater vTrips vMi1 vMi2 vSz vBs vCell vDirt vAim vErr vCor vBrk vTop vLm vRows vCols vDown vRight vBound vStrain vPrice vFirm vSums vTk vFl1 vFl2 vTe vAw vRo vBe) ++ oW o0 y a_nO) ++ (mW ad y vThrown vN vC vNow vHaze vCold vHot vPipe vDeg vThaw vTrc vTurb vLeft vLoad vWater vTrips vMissed vBRow vBSum vCell vDirt vAim vErr vCor vBrk vTop vLm vRows vCols vDown vRight vBound vStrain vPrice vFirm vSums vRays vFalls vSom vHad)) := hD
  have hkr : 0 ≤ kc ∧ kc ≤ 3 := by rw [hkc]; first | omega | (split <;> (try split) <;> (try split) <;> omega)
  refine lv_istore (lv' := [(5, zi kc), (0, .ref b), (1, .ref (ah 0)), (2, .ref (ad 0)), (3, .ref o0), (4, zi i)]) hx hb dL_law_640 hl (by decide) rfl (fun ls hl => ?_)
  refine lv_aload_n hx hb dL_law_642 rfl (lv_at hl 3 rfl) ?_
  refine lv_aload_n hx hb dL_law_643 rfl (lv_at hl 1 rfl) ?_
  refine lv_iload hx hb dL_law_644 (lv_at hl 5 rfl) ?_
  refine hz_iconst hx hb dL_law_646 ?_
  refine hz_iadd hx hb dL_law_647 ?_
  refine hz_sld hx hb hX0 hbl hbA hS (by omega) (by omega) dL_law_648 ?_
  refine lv_aload_n hx hb dL_law_649 rfl (lv_at hl 1 rfl) ?_
  refine lv_iload hx hb dL_law_650 (lv_at hl 5 rfl) ?_
  refine hz_iconst hx hb dL_law_652 ?_
  refine hz_iadd hx hb dL_law_653 ?_
  refine hz_sld hx hb hX0 hbl hbA hS (by omega) (by omega) dL_law_654 ?_
  refine hz_lawMi (As := [zi (sc xs (i + 1)), zi (sc xs (i + 2))]) (rest := []) ⟨hx, hb, hml, hown, hts⟩ (c_X8_mirrorIs l G y ad _ vThrown vN vC vNow vHaze vCold vHot vPipe vDeg vThaw vTrc vTurb vLeft vLoad vWater vTrips vMissed vBRow vBSum vCell vDirt vAim vErr vCor vBrk vTop vLm vRows vCols vDown vRight vBound vStrain vPrice vFirm vSums vRays vFalls vSom vHad (sc xs (i + 1)) (sc xs (i + 2)) hN hC hNow hHaze hCell hDirt hTop hLm hRows hCols hDown hRight hBrk (sc_rng _ _) (sc_rng _ _)) (cwV 2 hts gL_law_X8_mirrorIs rfl rfl rfl (by decide +kernel) ⟨Nat.le_of_ble_eq_true rfl, Nat.le_of_ble_eq_true rfl⟩) hP hK hD hS hA 0 9 rfl rfl rfl rfl hl.1 rfl (Nat.le_of_ble_eq_true rfl) dL_law_655 ⟨by show (cells + 2) + 0 ≤ 601024; omega, by show (slots + 12) + 0 ≤ 7293034; omega⟩ (fun _ => rfl) (fun u H locs hu hP hD hS => ?_)
  obtain ⟨b_th, b_r⟩ := u
  have hM := PLift.up hu
  clear hu
  have hP : va_P G vwCl (((hW ah z y vN vC vNow vHaze vCold vHot vPipe vDeg cThaw vTrc vTurb vLeft vLoad vWater vTrips vMi1 vMi2 vSz vBs vCell vDirt vAim vErr vCor vBrk vTop vLm vRows vCols vDown vRight vBound vStrain vPrice vFirm vSums vTk vFl1 vFl2 vTe vAw vRo vBe) ++ oW o0 y a_nO) ++ (mW ad y b_th vN vC vNow vHaze vCold vHot vPipe vDeg vThaw vTrc vTurb vLeft vLoad vWater vTrips vMissed vBRow vBSum vCell vDirt vAim vErr vCor vBrk vTop vLm vRows vCols vDown vRight vBound vStrain vPrice vFirm vSums vRays vFalls vSom vHad)) H := hP
  have hD : va_D (fun q : Nat => s.heap.size ≤ q) (((hW ah z y vN vC vNow vHaze vCold vHot vPipe vDeg cThaw vTrc vTurb vLeft vLoad vWater vTrips vMi1 vMi2 vSz vBs vCell vDirt vAim vErr vCor vBrk vTop vLm vRows vCols vDown vRight vBound vStrain vPrice vFirm vSums vTk vFl1 vFl2 vTe vAw vRo vBe) ++ oW o0 y a_nO) ++ (mW ad y b_th vN vC vNow vHaze vCold vHot vPipe vDeg vThaw vTrc vTurb vLeft vLoad vWater vTrips vMissed vBRow vBSum vCell vDirt vAim vErr vCor vBrk vTop vLm vRows vCols vDown vRight vBound vStrain vPrice vFirm vSums vRays vFalls vSom vHad)) := hD
  have hmk : b_th = kc := (hM.down.1).trans hkc.symm
  refine lv_istore (lv' := [(6, zi b_r), (5, zi kc), (0, .ref b), (1, .ref (ah 0)), (2, .ref (ad 0)), (3, .ref o0), (4, zi i)]) hx hb dL_law_658 hl (by decide) rfl (fun ls hl => ?_)
  refine lv_aload_n hx hb dL_law_660 rfl (lv_at hl 4 rfl) ?_
  refine hz_lawMi (As := []) (rest := []) ⟨hx, hb, hml, hown, hts⟩ (c_X8_thrown l G y ad _ b_th vN vC vNow vHaze vCold vHot vPipe vDeg vThaw vTrc vTurb vLeft vLoad vWater vTrips vMissed vBRow vBSum vCell vDirt vAim vErr vCor vBrk vTop vLm vRows vCols vDown vRight vBound vStrain vPrice vFirm vSums vRays vFalls vSom vHad) (cwV 0 hts gL_law_X8_thrown rfl rfl rfl (by decide +kernel) ⟨Nat.le_of_ble_eq_true rfl, Nat.le_of_ble_eq_true rfl⟩) hP hK hD hS hA 0 9 rfl rfl rfl rfl hl.1 rfl (Nat.le_of_ble_eq_true rfl) dL_law_661 ⟨by show (cells + 2) + 0 ≤ 601024; omega, by show (slots + 12) + 0 ≤ 7293034; omega⟩ (fun _ => rfl) (fun u H locs hu hP hD hS => ?_)
  have hP : va_P G vwCl (((hW ah z y vN vC vNow vHaze vCold vHot vPipe vDeg cThaw vTrc vTurb vLeft vLoad vWater vTrips vMi1 vMi2 vSz vBs vCell vDirt vAim vErr vCor vBrk vTop vLm vRows vCols vDown vRight vBound vStrain vPrice vFirm vSums vTk vFl1 vFl2 vTe vAw vRo vBe) ++ oW o0 y a_nO) ++ (mW ad y b_th vN vC vNow vHaze vCold vHot vPipe vDeg vThaw vTrc vTurb vLeft vLoad vWater vTrips vMissed vBRow vBSum vCell vDirt vAim vErr vCor vBrk vTop vLm vRows vCols vDown vRight vBound vStrain vPrice vFirm vSums vRays vFalls vSom vHad)) H := hP
  have hD : va_D (fun q : Nat => s.heap.size ≤ q) (((hW ah z y vN vC vNow vHaze vCold vHot vPipe vDeg cThaw vTrc vTurb vLeft vLoad vWater vTrips vMi1 vMi2 vSz vBs vCell vDirt vAim vErr vCor vBrk vTop vLm vRows vCols vDown vRight vBound vStrain vPrice vFirm vSums vTk vFl1 vFl2 vTe vAw vRo vBe) ++ oW o0 y a_nO) ++ (mW ad y b_th vN vC vNow vHaze vCold vHot vPipe vDeg vThaw vTrc vTurb vLeft vLoad vWater vTrips vMissed vBRow vBSum vCell vDirt vAim vErr vCor vBrk vTop vLm vRows vCols vDown vRight vBound vStrain vPrice vFirm vSums vRays vFalls vSom vHad)) := hD
  refine lv_iload hx hb dL_law_664 (lv_at hl 1 rfl) ?_
  refine hz_icmp_eq (tgt := 671) hx hb dL_law_666 (by decide) (by omega) (fun _ => ?_) (fun q => absurd (by omega) q)
  refine lv_iload hx hb dL_law_671 (lv_at hl 1 rfl) ?_
  refine hz_if_ne (tgt := 688) hx hb dL_law_673 (by decide) (by omega) (fun c1 => ?_) (fun c1 => ?_)
  · have h0 : ¬ (if ¬ (0 ≤ (sc xs (i + 1)) ∧ (sc xs (i + 1)) < vN) then (1 : Int) else if ¬ (0 ≤ (sc xs (i + 2)) ∧ (sc xs (i + 2)) ≤ 7) then 2 else 0) = 0 := fun q => c1 (hkc.trans q)
    have hPz := hP
    have hDz := hD
    have hP : va_P G vwCl (((hW ah z y vN vC vNow vHaze vCold vHot vPipe vDeg cThaw vTrc vTurb vLeft vLoad vWater vTrips vMi1 vMi2 vSz vBs vCell vDirt vAim vErr vCor vBrk vTop vLm vRows vCols vDown vRight vBound vStrain vPrice vFirm vSums vTk vFl1 vFl2 vTe vAw vRo vBe) ++ oW o0 y a_nO) ++ (mW ad y b_th vN vC vNow vHaze vCold vHot vPipe vDeg vThaw vTrc vTurb vLeft vLoad vWater vTrips vMissed vBRow vBSum vCell vDirt vAim vErr vCor vBrk vTop vLm vRows vCols vDown vRight vBound vStrain vPrice vFirm vSums vRays vFalls vSom vHad)) H := hPz
    have hD : va_D (fun q : Nat => s.heap.size ≤ q) (((hW ah z y vN vC vNow vHaze vCold vHot vPipe vDeg cThaw vTrc vTurb vLeft vLoad vWater vTrips vMi1 vMi2 vSz vBs vCell vDirt vAim vErr vCor vBrk vTop vLm vRows vCols vDown vRight vBound vStrain vPrice vFirm vSums vTk vFl1 vFl2 vTe vAw vRo vBe) ++ oW o0 y a_nO) ++ (mW ad y b_th vN vC vNow vHaze vCold vHot vPipe vDeg vThaw vTrc vTurb vLeft vLoad vWater vTrips vMissed vBRow vBSum vCell vDirt vAim vErr vCor vBrk vTop vLm vRows vCols vDown vRight vBound vStrain vPrice vFirm vSums vRays vFalls vSom vHad)) := hDz
    refine lv_goto (tgt := 1990) hx hb dL_law_688 (by decide) ?_
    refine W.widen (k := cells + 40) (n := slots + 400) (by omega) (by omega) ?_
    exact K z vN vC vNow vHaze vCold vHot vPipe vDeg cThaw vThaw vTrc vTurb vLeft vLoad vWater vTrips vMi1 vMi2 vSz vBs b_th vMissed vBRow vBSum vCell vDirt vAim vErr vCor vBrk vTop vLm vRows vCols vDown vRight vBound vStrain vPrice vFirm vSums vTk vFl1 vFl2 vTe vAw vRo vBe vRays vFalls vSom vHad a_nO H locs hFA0 hP hD hS ls (lv_sub hl [2, 3, 4, 5, 6] rfl)
  · have h0 : (if ¬ (0 ≤ (sc xs (i + 1)) ∧ (sc xs (i + 1)) < vN) then (1 : Int) else if ¬ (0 ≤ (sc xs (i + 2)) ∧ (sc xs (i + 2)) ≤ 7) then 2 else 0) = 0 := hkc.symm.trans c1
    have hPz := hP
    have hDz := hD
    have hout : a_nO 0 = wI ((if (sc xs (i + 2)) = 0 then vCell (sc xs (i + 1)) else if (sc xs (i + 2)) = 1 then vDirt (sc xs (i + 1)) else if (sc xs (i + 2)) = 2 then vAim (sc xs (i + 1)) else if (sc xs (i + 2)) = 3 then vCor (sc xs (i + 1)) else if (sc xs (i + 2)) = 4 then vBrk (sc xs (i + 1)) else if (sc xs (i + 2)) = 5 then cvZ vC vTop vLm vRows vCols vDown vRight (vCell (sc xs (i + 1))) 0 else if (sc xs (i + 2)) = 6 then shZ vN vCell (vCell (sc xs (i + 1))) vNow else dstZ (vCell (sc xs (i + 1))))) := hU.down h0
    have hans : b_r = (if (sc xs (i + 2)) = 0 then vCell (sc xs (i + 1)) else if (sc xs (i + 2)) = 1 then vDirt (sc xs (i + 1)) else if (sc xs (i + 2)) = 2 then vAim (sc xs (i + 1)) else if (sc xs (i + 2)) = 3 then vCor (sc xs (i + 1)) else if (sc xs (i + 2)) = 4 then vBrk (sc xs (i + 1)) else if (sc xs (i + 2)) = 5 then cvZ vC vTop vLm vRows vCols vDown vRight (vCell (sc xs (i + 1))) 0 else if (sc xs (i + 2)) = 6 then shZ vN vCell (vCell (sc xs (i + 1))) vNow else dstZ (vCell (sc xs (i + 1)))) := hM.down.2 h0
    have hP : va_P G vwCl (((hW ah z y vN vC vNow vHaze vCold vHot vPipe vDeg cThaw vTrc vTurb vLeft vLoad vWater vTrips vMi1 vMi2 vSz vBs vCell vDirt vAim vErr vCor vBrk vTop vLm vRows vCols vDown vRight vBound vStrain vPrice vFirm vSums vTk vFl1 vFl2 vTe vAw vRo vBe) ++ oW o0 y a_nO) ++ (mW ad y b_th vN vC vNow vHaze vCold vHot vPipe vDeg vThaw vTrc vTurb vLeft vLoad vWater vTrips vMissed vBRow vBSum vCell vDirt vAim vErr vCor vBrk vTop vLm vRows vCols vDown vRight vBound vStrain vPrice vFirm vSums vRays vFalls vSom vHad)) H := hPz
    have hD : va_D (fun q : Nat => s.heap.size ≤ q) (((hW ah z y vN vC vNow vHaze vCold vHot vPipe vDeg cThaw vTrc vTurb vLeft vLoad vWater vTrips vMi1 vMi2 vSz vBs vCell vDirt vAim vErr vCor vBrk vTop vLm vRows vCols vDown vRight vBound vStrain vPrice vFirm vSums vTk vFl1 vFl2 vTe vAw vRo vBe) ++ oW o0 y a_nO) ++ (mW ad y b_th vN vC vNow vHaze vCold vHot vPipe vDeg vThaw vTrc vTurb vLeft vLoad vWater vTrips vMissed vBRow vBSum vCell vDirt vAim vErr vCor vBrk vTop vLm vRows vCols vDown vRight vBound vStrain vPrice vFirm vSums vRays vFalls vSom vHad)) := hDz
    refine lv_aload_n hx hb dL_law_676 rfl (lv_at hl 5 rfl) ?_
    refine hz_iconst hx hb dL_law_677 ?_
    refine hz_laldo hx hb hK hP dL_law_678 ?_
    refine lv_iload hx hb dL_law_679 (lv_at hl 0 rfl) ?_
    refine hz_i2lw hx hb dL_law_681 ?_
    refine hz_lcmp hx hb dL_law_682 (fun v hv => ?_)
    refine lv_if_eq (tgt := 688) hx hb dL_law_683 (by decide) (fun _ => ?_) (fun q => absurd (hv.mpr (congrArg zL (hout.trans (congrArg wI hans.symm)))) q)
    refine lv_goto (tgt := 1990) hx hb dL_law_688 (by decide) ?_
    refine W.widen (k := cells + 40) (n := slots + 400) (by omega) (by omega) ?_
    exact K z vN vC vNow vHaze vCold vHot vPipe vDeg cThaw vThaw vTrc vTurb vLeft vLoad vWater vTrips vMi1 vMi2 vSz vBs b_th vMissed vBRow vBSum vCell vDirt vAim vErr vCor vBrk vTop vLm vRows vCols vDown vRight vBound vStrain vPrice vFirm vSums vTk vFl1 vFl2 vTe vAw vRo vBe vRays vFalls vSom vHad a_nO H locs hFA0 hP hD hS ls (lv_sub hl [2, 3, 4, 5, 6] rfl)
set_option maxHeartbeats 16000000 in
set_option maxRecDepth 100000 in
theorem lw_c8 (p : Program) (l : Launch) (e : Env) (s : State) (m : MethodId) (below : List Frame) (meth : Method) (c : Code) (b L : Nat) (xs : Nat → Int32) (G : va_G) (mi zE : Nat) (y : Nat → ClassId) (ah ad : Nat → Nat) (o0 : Nat) (cells slots : Nat) (i : Int) (hQ : LC p l s m meth c b L xs G mi zE y) (hi : 0 ≤ i ∧ i + 7 ≤ L) (hroom : cells + 40 ≤ 601024 ∧ slots + 400 ≤ 7293034) (K : LK p l e s m below meth c b L xs G mi zE y ah ad o0 (cells + 40) (slots + 400) i 1990) : LK p l e s m below meth c b L xs G mi zE y ah ad o0 cells slots i 691 := by
  intro z vN vC vNow vHaze vCold vHot vPipe vDeg cThaw vThaw vTrc vTurb vLeft vLoad vWater vTrips vMi1 vMi2 vSz vBs vThrown vMissed vBRow vBSum vCell vDirt vAim vErr vCor vBrk vTop vLm vRows vCols vDown vRight vBound vStrain vPrice vFirm vSums vTk vFl1 vFl2 vTe vAw vRo vBe vRays vFalls vSom vHad vO H locs hFA hP hD hS ls hl
  obtain ⟨hx, hb, hr, hts, hown, hml, hX0, hbl, hL, hlocks, hK, hGP, hX, hGN, hlt⟩ := hQ
  have hA : ∀ q : Nat, s.heap.size ≤ q → (fun q : Nat => s.heap.size ≤ q) q := fun _ h => h
  have hbA : ¬ (fun q : Nat => s.heap.size ≤ q) b := Nat.not_le.mpr hbl
  have hFA0 := hFA
  obtain ⟨hZ, hZe, hTk, hN, hC, hNow, hHaze, hSalt, hPipe, hDeg, hThC, hThM, hThE, hTrc, hTurb, hLeft, hLoad, hWater, hTrips, hCell, hDirt, hAim, hErr, hCor, hBrk, hTop, hLm, hRows, hCols, hDown, hRight, hBound, hStrain, hPrice, hFirm, hE0⟩ := hFA
  refine lv_aload_n hx hb dL_law_691 rfl (lv_at hl 1 rfl) ?_
  refine lv_aload_n hx hb dL_law_692 rfl (lv_at hl 0 rfl) ?_
  refine lv_iload hx hb dL_law_693 (lv_at hl 4 rfl) ?_
  refine hz_iconst hx hb dL_law_695 ?_
  refine hz_iadd hx hb dL_law_696 ?_
  refine hz_sld hx hb hX0 hbl hbA hS (by omega) (by omega) dL_law_697 ?_
  refine lv_aload_n hx hb dL_law_698 rfl (lv_at hl 0 rfl) ?_
  refine lv_iload hx hb dL_law_699 (lv_at hl 4 rfl) ?_
  refine hz_iconst hx hb dL_law_701 ?_
  refine hz_iadd hx hb dL_law_702 ?_
  refine hz_sld hx hb hX0 hbl hbA hS (by omega) (by omega) dL_law_703 ?_
  refine lv_aload_n hx hb dL_law_704 rfl (lv_at hl 3 rfl) ?_
  refine hz_lawL (As := [.ref (ah 0), zi (sc xs (i + 1)), zi (sc xs (i + 2)), .ref o0]) (rest := []) ⟨hx, hb, hml, hown, hts⟩ (c_L_power l hlt G ah z mi zE y _ vN vC vNow vHaze vCold vHot vPipe vDeg cThaw vTrc vTurb vLeft vLoad vWater vTrips vMi1 vMi2 vSz vBs vCell vDirt vAim vErr vCor vBrk vTop vLm vRows vCols vDown vRight vBound vStrain vPrice vFirm vSums vTk vFl1 vFl2 vTe vAw vRo vBe o0 vO (sc xs (i + 1)) (sc xs (i + 2)) hZ hTk hN hC hNow hHaze hCell hDirt hTop hLm hRows hCols hDown hRight (sc_rng _ _) (sc_rng _ _)) (vx_cwSW 4 hts gL_law_L_power rfl rfl rfl (by decide +kernel) ⟨Nat.le_of_ble_eq_true rfl, Nat.le_of_ble_eq_true rfl⟩) hP hK hD hS hA hGP hX hGN rfl hl.1 rfl (Nat.le_of_ble_eq_true rfl) dL_law_705 ⟨by show cells + 2 ≤ 601024; omega, by show slots + 12 ≤ 7293034; omega⟩ (fun r u H locs hu hP hD hS => ?_)
  obtain ⟨a_nO, heq9⟩ : ∃ z9, z9 = u := ⟨_, rfl⟩
  subst heq9
  obtain ⟨rfl, hu⟩ := hu
  have hU := PLift.up hu
  clear hu
  refine hz_topi (fun kc hkc => ?_)
  have hP : va_P G vwCl (((hW ah z y vN vC vNow vHaze vCold vHot vPipe vDeg cThaw vTrc vTurb vLeft vLoad vWater vTrips vMi1 vMi2 vSz vBs vCell vDirt vAim vErr vCor vBrk vTop vLm vRows vCols vDown vRight vBound vStrain vPrice vFirm vSums vTk vFl1 vFl2 vTe vAw vRo vBe) ++ oW o0 y a_nO) ++ (mW ad y vThrown vN vC vNow vHaze vCold vHot vPipe vDeg vThaw vTrc vTurb vLeft vLoad vWater vTrips vMissed vBRow vBSum vCell vDirt vAim vErr vCor vBrk vTop vLm vRows vCols vDown vRight vBound vStrain vPrice vFirm vSums vRays vFalls vSom vHad)) H := hP
  have hD : va_D (fun q : Nat => s.heap.size ≤ q) (((hW ah z y vN vC vNow vHaze vCold vHot vPipe vDeg cThaw vTrc vTurb vLeft vLoad vWater vTrips vMi1 vMi2 vSz vBs vCell vDirt vAim vErr vCor vBrk vTop vLm vRows vCols vDown vRight vBound vStrain vPrice vFirm vSums vTk vFl1 vFl2 vTe vAw vRo vBe) ++ oW o0 y a_nO) ++ (mW ad y vThrown vN vC vNow vHaze vCold vHot vPipe vDeg vThaw vTrc vTurb vLeft vLoad vWater vTrips vMissed vBRow vBSum vCell vDirt vAim vErr vCor vBrk vTop vLm vRows vCols vDown vRight vBound vStrain vPrice vFirm vSums vRays vFalls vSom vHad)) := hD
  have hkr : 0 ≤ kc ∧ kc ≤ 3 := by rw [hkc]; first | omega | (split <;> (try split) <;> (try split) <;> omega)
  refine lv_istore (lv' := [(5, zi kc), (0, .ref b), (1, .ref (ah 0)), (2, .ref (ad 0)), (3, .ref o0), (4, zi i)]) hx hb dL_law_708 hl (by decide) rfl (fun ls hl => ?_)
  refine lv_aload_n hx hb dL_law_710 rfl (lv_at hl 3 rfl) ?_
  refine lv_aload_n hx hb dL_law_711 rfl (lv_at hl 1 rfl) ?_
  refine lv_iload hx hb dL_law_712 (lv_at hl 5 rfl) ?_
  refine hz_iconst hx hb dL_law_714 ?_
  refine hz_iadd hx hb dL_law_715 ?_
  refine hz_sld hx hb hX0 hbl hbA hS (by omega) (by omega) dL_law_716 ?_
  refine lv_aload_n hx hb dL_law_717 rfl (lv_at hl 1 rfl) ?_
  refine lv_iload hx hb dL_law_718 (lv_at hl 5 rfl) ?_
  refine hz_iconst hx hb dL_law_720 ?_
  refine hz_iadd hx hb dL_law_721 ?_
  refine hz_sld hx hb hX0 hbl hbA hS (by omega) (by omega) dL_law_722 ?_
  refine hz_lawMi (As := [zi (sc xs (i + 1)), zi (sc xs (i + 2))]) (rest := []) ⟨hx, hb, hml, hown, hts⟩ (c_X8_power l G y ad _ vThrown vN vC vNow vHaze vCold vHot vPipe vDeg vThaw vTrc vTurb vLeft vLoad vWater vTrips vMissed vBRow vBSum vCell vDirt vAim vErr vCor vBrk vTop vLm vRows vCols vDown vRight vBound vStrain vPrice vFirm vSums vRays vFalls vSom vHad (sc xs (i + 1)) (sc xs (i + 2)) hN hC hNow hHaze hCell hDirt hTop hLm hRows hCols hDown hRight (sc_rng _ _) (sc_rng _ _)) (cwV 2 hts gL_law_X8_power rfl rfl rfl (by decide +kernel) ⟨Nat.le_of_ble_eq_true rfl, Nat.le_of_ble_eq_true rfl⟩) hP hK hD hS hA 0 9 rfl rfl rfl rfl hl.1 rfl (Nat.le_of_ble_eq_true rfl) dL_law_723 ⟨by show (cells + 2) + 0 ≤ 601024; omega, by show (slots + 12) + 0 ≤ 7293034; omega⟩ (fun _ => rfl) (fun u H locs hu hP hD hS => ?_)
  obtain ⟨b_th, b_r⟩ := u
  have hM := PLift.up hu
  clear hu
  have hP : va_P G vwCl (((hW ah z y vN vC vNow vHaze vCold vHot vPipe vDeg cThaw vTrc vTurb vLeft vLoad vWater vTrips vMi1 vMi2 vSz vBs vCell vDirt vAim vErr vCor vBrk vTop vLm vRows vCols vDown vRight vBound vStrain vPrice vFirm vSums vTk vFl1 vFl2 vTe vAw vRo vBe) ++ oW o0 y a_nO) ++ (mW ad y b_th vN vC vNow vHaze vCold vHot vPipe vDeg vThaw vTrc vTurb vLeft vLoad vWater vTrips vMissed vBRow vBSum vCell vDirt vAim vErr vCor vBrk vTop vLm vRows vCols vDown vRight vBound vStrain vPrice vFirm vSums vRays vFalls vSom vHad)) H := hP
  have hD : va_D (fun q : Nat => s.heap.size ≤ q) (((hW ah z y vN vC vNow vHaze vCold vHot vPipe vDeg cThaw vTrc vTurb vLeft vLoad vWater vTrips vMi1 vMi2 vSz vBs vCell vDirt vAim vErr vCor vBrk vTop vLm vRows vCols vDown vRight vBound vStrain vPrice vFirm vSums vTk vFl1 vFl2 vTe vAw vRo vBe) ++ oW o0 y a_nO) ++ (mW ad y b_th vN vC vNow vHaze vCold vHot vPipe vDeg vThaw vTrc vTurb vLeft vLoad vWater vTrips vMissed vBRow vBSum vCell vDirt vAim vErr vCor vBrk vTop vLm vRows vCols vDown vRight vBound vStrain vPrice vFirm vSums vRays vFalls vSom vHad)) := hD
  have hmk : b_th = kc := (hM.down.1).trans hkc.symm
  refine lv_istore (lv' := [(6, zi b_r), (5, zi kc), (0, .ref b), (1, .ref (ah 0)), (2, .ref (ad 0)), (3, .ref o0), (4, zi i)]) hx hb dL_law_726 hl (by decide) rfl (fun ls hl => ?_)
  refine lv_aload_n hx hb dL_law_728 rfl (lv_at hl 4 rfl) ?_
  refine hz_lawMi (As := []) (rest := []) ⟨hx, hb, hml, hown, hts⟩ (c_X8_thrown l G y ad _ b_th vN vC vNow vHaze vCold vHot vPipe vDeg vThaw vTrc vTurb vLeft vLoad vWater vTrips vMissed vBRow vBSum vCell vDirt vAim vErr vCor vBrk vTop vLm vRows vCols vDown vRight vBound vStrain vPrice vFirm vSums vRays vFalls vSom vHad) (cwV 0 hts gL_law_X8_thrown rfl rfl rfl (by decide +kernel) ⟨Nat.le_of_ble_eq_true rfl, Nat.le_of_ble_eq_true rfl⟩) hP hK hD hS hA 0 9 rfl rfl rfl rfl hl.1 rfl (Nat.le_of_ble_eq_true rfl) dL_law_729 ⟨by show (cells + 2) + 0 ≤ 601024; omega, by show (slots + 12) + 0 ≤ 7293034; omega⟩ (fun _ => rfl) (fun u H locs hu hP hD hS => ?_)
  have hP : va_P G vwCl (((hW ah z y vN vC vNow vHaze vCold vHot vPipe vDeg cThaw vTrc vTurb vLeft vLoad vWater vTrips vMi1 vMi2 vSz vBs vCell vDirt vAim vErr vCor vBrk vTop vLm vRows vCols vDown vRight vBound vStrain vPrice vFirm vSums vTk vFl1 vFl2 vTe vAw vRo vBe) ++ oW o0 y a_nO) ++ (mW ad y b_th vN vC vNow vHaze vCold vHot vPipe vDeg vThaw vTrc vTurb vLeft vLoad vWater vTrips vMissed vBRow vBSum vCell vDirt vAim vErr vCor vBrk vTop vLm vRows vCols vDown vRight vBound vStrain vPrice vFirm vSums vRays vFalls vSom vHad)) H := hP
  have hD : va_D (fun q : Nat => s.heap.size ≤ q) (((hW ah z y vN vC vNow vHaze vCold vHot vPipe vDeg cThaw vTrc vTurb vLeft vLoad vWater vTrips vMi1 vMi2 vSz vBs vCell vDirt vAim vErr vCor vBrk vTop vLm vRows vCols vDown vRight vBound vStrain vPrice vFirm vSums vTk vFl1 vFl2 vTe vAw vRo vBe) ++ oW o0 y a_nO) ++ (mW ad y b_th vN vC vNow vHaze vCold vHot vPipe vDeg vThaw vTrc vTurb vLeft vLoad vWater vTrips vMissed vBRow vBSum vCell vDirt vAim vErr vCor vBrk vTop vLm vRows vCols vDown vRight vBound vStrain vPrice vFirm vSums vRays vFalls vSom vHad)) := hD
  refine lv_iload hx hb dL_law_732 (lv_at hl 1 rfl) ?_
  refine hz_icmp_eq (tgt := 739) hx hb dL_law_734 (by decide) (by omega) (fun _ => ?_) (fun q => absurd (by omega) q)
  refine lv_iload hx hb dL_law_739 (lv_at hl 1 rfl) ?_
  refine hz_if_ne (tgt := 756) hx hb dL_law_741 (by decide) (by omega) (fun c1 => ?_) (fun c1 => ?_)
  · have h0 : ¬ (if ¬ (0 ≤ (sc xs (i + 1)) ∧ (sc xs (i + 1)) < vN) then (1 : Int) else if ¬ (0 ≤ (sc xs (i + 2)) ∧ (sc xs (i + 2)) ≤ 24) then 2 else 0) = 0 := fun q => c1 (hkc.trans q)
    have hPz := hP
    have hDz := hD
    have hP : va_P G vwCl (((hW ah z y vN vC vNow vHaze vCold vHot vPipe vDeg cThaw vTrc vTurb vLeft vLoad vWater vTrips vMi1 vMi2 vSz vBs vCell vDirt vAim vErr vCor vBrk vTop vLm vRows vCols vDown vRight vBound vStrain vPrice vFirm vSums vTk vFl1 vFl2 vTe vAw vRo vBe) ++ oW o0 y a_nO) ++ (mW ad y b_th vN vC vNow vHaze vCold vHot vPipe vDeg vThaw vTrc vTurb vLeft vLoad vWater vTrips vMissed vBRow vBSum vCell vDirt vAim vErr vCor vBrk vTop vLm vRows vCols vDown vRight vBound vStrain vPrice vFirm vSums vRays vFalls vSom vHad)) H := hPz
    have hD : va_D (fun q : Nat => s.heap.size ≤ q) (((hW ah z y vN vC vNow vHaze vCold vHot vPipe vDeg cThaw vTrc vTurb vLeft vLoad vWater vTrips vMi1 vMi2 vSz vBs vCell vDirt vAim vErr vCor vBrk vTop vLm vRows vCols vDown vRight vBound vStrain vPrice vFirm vSums vTk vFl1 vFl2 vTe vAw vRo vBe) ++ oW o0 y a_nO) ++ (mW ad y b_th vN vC vNow vHaze vCold vHot vPipe vDeg vThaw vTrc vTurb vLeft vLoad vWater vTrips vMissed vBRow vBSum vCell vDirt vAim vErr vCor vBrk vTop vLm vRows vCols vDown vRight vBound vStrain vPrice vFirm vSums vRays vFalls vSom vHad)) := hDz
    refine lv_goto (tgt := 1990) hx hb dL_law_756 (by decide) ?_
    refine W.widen (k := cells + 40) (n := slots + 400) (by omega) (by omega) ?_
    exact K z vN vC vNow vHaze vCold vHot vPipe vDeg cThaw vThaw vTrc vTurb vLeft vLoad vWater vTrips vMi1 vMi2 vSz vBs b_th vMissed vBRow vBSum vCell vDirt vAim vErr vCor vBrk vTop vLm vRows vCols vDown vRight vBound vStrain vPrice vFirm vSums vTk vFl1 vFl2 vTe vAw vRo vBe vRays vFalls vSom vHad a_nO H locs hFA0 hP hD hS ls (lv_sub hl [2, 3, 4, 5, 6] rfl)
  · have h0 : (if ¬ (0 ≤ (sc xs (i + 1)) ∧ (sc xs (i + 1)) < vN) then (1 : Int) else if ¬ (0 ≤ (sc xs (i + 2)) ∧ (sc xs (i + 2)) ≤ 24) then 2 else 0) = 0 := hkc.symm.trans c1
    have hPz := hP
    have hDz := hD
    have hout : a_nO 0 = wI (pwZ vN vC vNow vHaze vCell vDirt vTop vLm vRows vCols vDown vRight (sc xs (i + 1)) (sc xs (i + 2))) := hU.down h0
    have hans : b_r = pwZ vN vC vNow vHaze vCell vDirt vTop vLm vRows vCols vDown vRight (sc xs (i + 1)) (sc xs (i + 2)) := hM.down.2 h0
    have hP : va_P G vwCl (((hW ah z y vN vC vNow vHaze vCold vHot vPipe vDeg cThaw vTrc vTurb vLeft vLoad vWater vTrips vMi1 vMi2 vSz vBs vCell vDirt vAim vErr vCor vBrk vTop vLm vRows vCols vDown vRight vBound vStrain vPrice vFirm vSums vTk vFl1 vFl2 vTe vAw vRo vBe) ++ oW o0 y a_nO) ++ (mW ad y b_th vN vC vNow vHaze vCold vHot vPipe vDeg vThaw vTrc vTurb vLeft vLoad vWater vTrips vMissed vBRow vBSum vCell vDirt vAim vErr vCor vBrk vTop vLm vRows vCols vDown vRight vBound vStrain vPrice vFirm vSums vRays vFalls vSom vHad)) H := hPz
    have hD : va_D (fun q : Nat => s.heap.size ≤ q) (((hW ah z y vN vC vNow vHaze vCold vHot vPipe vDeg cThaw vTrc vTurb vLeft vLoad vWater vTrips vMi1 vMi2 vSz vBs vCell vDirt vAim vErr vCor vBrk vTop vLm vRows vCols vDown vRight vBound vStrain vPrice vFirm vSums vTk vFl1 vFl2 vTe vAw vRo vBe) ++ oW o0 y a_nO) ++ (mW ad y b_th vN vC vNow vHaze vCold vHot vPipe vDeg vThaw vTrc vTurb vLeft vLoad vWater vTrips vMissed vBRow vBSum vCell vDirt vAim vErr vCor vBrk vTop vLm vRows vCols vDown vRight vBound vStrain vPrice vFirm vSums vRays vFalls vSom vHad)) := hDz
    refine lv_aload_n hx hb dL_law_744 rfl (lv_at hl 5 rfl) ?_
    refine hz_iconst hx hb dL_law_745 ?_
    refine hz_laldo hx hb hK hP dL_law_746 ?_
    refine lv_iload hx hb dL_law_747 (lv_at hl 0 rfl) ?_
    refine hz_i2lw hx hb dL_law_749 ?_
    refine hz_lcmp hx hb dL_law_750 (fun v hv => ?_)
    refine lv_if_eq (tgt := 756) hx hb dL_law_751 (by decide) (fun _ => ?_) (fun q => absurd (hv.mpr (congrArg zL (hout.trans (congrArg wI hans.symm)))) q)
    refine lv_goto (tgt := 1990) hx hb dL_law_756 (by decide) ?_
    refine W.widen (k := cells + 40) (n := slots + 400) (by omega) (by omega) ?_
    exact K z vN vC vNow vHaze vCold vHot vPipe vDeg cThaw vThaw vTrc vTurb vLeft vLoad vWater vTrips vMi1 vMi2 vSz vBs b_th vMissed vBRow vBSum vCell vDirt vAim vErr vCor vBrk vTop vLm vRows vCols vDown vRight vBound vStrain vPrice vFirm vSums vTk vFl1 vFl2 vTe vAw vRo vBe vRays vFalls vSom vHad a_nO H locs hFA0 hP hD hS ls (lv_sub hl [2, 3, 4, 5, 6] rfl)
set_option maxHeartbeats 16000000 in
set_option maxRecDepth 100000 in
theorem lw_c9 (p : Program) (l : Launch) (e : Env) (s : State) (m : MethodId) (below : List Frame) (meth : Method) (c : Code) (b L : Nat) (xs : Nat → Int32) (G : va_G) (mi zE : Nat) (y : Nat → ClassId) (ah ad : Nat → Nat) (o0 : Nat) (cells slots : Nat) (i : Int) (hQ : LC p l s m meth c b L xs G mi zE y) (hi : 0 ≤ i ∧ i + 7 ≤ L) (hroom : cells + 40 ≤ 601024 ∧ slots + 400 ≤ 7293034) (K : LK p l e s m below meth c b L xs G mi zE y ah ad o0 (cells + 40) (slots + 400) i 1990) : LK p l e s m below meth c b L xs G mi zE y ah ad o0 cells slots i 759 := by
  intro z vN vC vNow vHaze vCold vHot vPipe vDeg cThaw vThaw vTrc vTurb vLeft vLoad vWater vTrips vMi1 vMi2 vSz vBs vThrown vMissed vBRow vBSum vCell vDirt vAim vErr vCor vBrk vTop vLm vRows vCols vDown vRight vBound vStrain vPrice vFirm vSums vTk vFl1 vFl2 vTe vAw vRo vBe vRays vFalls vSom vHad vO H locs hFA hP hD hS ls hl
  obtain ⟨hx, hb, hr, hts, hown, hml, hX0, hbl, hL, hlocks, hK, hGP, hX, hGN, hlt⟩ := hQ
  have hA : ∀ q : Nat, s.heap.size ≤ q → (fun q : Nat => s.heap.size ≤ q) q := fun _ h => h
  have hbA : ¬ (fun q : Nat => s.heap.size ≤ q) b := Nat.not_le.mpr hbl
  have hFA0 := hFA
  obtain ⟨hZ, hZe, hTk, hN, hC, hNow, hHaze, hSalt, hPipe, hDeg, hThC, hThM, hThE, hTrc, hTurb, hLeft, hLoad, hWater, hTrips, hCell, hDirt, hAim, hErr, hCor, hBrk, hTop, hLm, hRows, hCols, hDown, hRight, hBound, hStrain, hPrice, hFirm, hE0⟩ := hFA
  refine lv_aload_n hx hb dL_law_759 rfl (lv_at hl 1 rfl) ?_
  refine lv_aload_n hx hb dL_law_760 rfl (lv_at hl 0 rfl) ?_
  refine lv_iload hx hb dL_law_761 (lv_at hl 4 rfl) ?_
  refine hz_iconst hx hb dL_law_763 ?_
  refine hz_iadd hx hb dL_law_764 ?_
  refine hz_sld hx hb hX0 hbl hbA hS (by omega) (by omega) dL_law_765 ?_
  refine lv_aload_n hx hb dL_law_766 rfl (lv_at hl 3 rfl) ?_
  refine hz_lawL (As := [.ref (ah 0), zi (sc xs (i + 1)), .ref o0]) (rest := []) ⟨hx, hb, hml, hown, hts⟩ (c_L_haze l hlt G ah z mi zE y _ vN vC vNow vHaze vCold vHot vPipe vDeg cThaw vTrc vTurb vLeft vLoad vWater vTrips vMi1 vMi2 vSz vBs vCell vDirt vAim vErr vCor vBrk vTop vLm vRows vCols vDown vRight vBound vStrain vPrice vFirm vSums vTk vFl1 vFl2 vTe vAw vRo vBe o0 vO (sc xs (i + 1)) (sc_rng _ _)) (vx_cwSW 3 hts gL_law_L_haze rfl rfl rfl (by decide +kernel) ⟨Nat.le_of_ble_eq_true rfl, Nat.le_of_ble_eq_true rfl⟩) hP hK hD hS hA hGP hX hGN rfl hl.1 rfl (Nat.le_of_ble_eq_true rfl) dL_law_767 ⟨by show cells + 1 ≤ 601024; omega, by show slots + 6 ≤ 7293034; omega⟩ (fun r u H locs hu hP hD hS => ?_)
  obtain ⟨a_nHaze, a_nO⟩ := u
  obtain ⟨rfl, hu⟩ := hu
  have hU := PLift.up hu
  clear hu
  refine hz_topi (fun kc hkc => ?_)
  have hP : va_P G vwCl (((hW ah z y vN vC vNow a_nHaze vCold vHot vPipe vDeg cThaw vTrc vTurb vLeft vLoad vWater vTrips vMi1 vMi2 vSz vBs vCell vDirt vAim vErr vCor vBrk vTop vLm vRows vCols vDown vRight vBound vStrain vPrice vFirm vSums vTk vFl1 vFl2 vTe vAw vRo vBe) ++ oW o0 y a_nO) ++ (mW ad y vThrown vN vC vNow vHaze vCold vHot vPipe vDeg vThaw vTrc vTurb vLeft vLoad vWater vTrips vMissed vBRow vBSum vCell vDirt vAim vErr vCor vBrk vTop vLm vRows vCols vDown vRight vBound vStrain vPrice vFirm vSums vRays vFalls vSom vHad)) H := hP
  have hD : va_D (fun q : Nat => s.heap.size ≤ q) (((hW ah z y vN vC vNow a_nHaze vCold vHot vPipe vDeg cThaw vTrc vTurb vLeft vLoad vWater vTrips vMi1 vMi2 vSz vBs vCell vDirt vAim vErr vCor vBrk vTop vLm vRows vCols vDown vRight vBound vStrain vPrice vFirm vSums vTk vFl1 vFl2 vTe vAw vRo vBe) ++ oW o0 y a_nO) ++ (mW ad y vThrown vN vC vNow vHaze vCold vHot vPipe vDeg vThaw vTrc vTurb vLeft vLoad vWater vTrips vMissed vBRow vBSum vCell vDirt vAim vErr vCor vBrk vTop vLm vRows vCols vDown vRight vBound vStrain vPrice vFirm vSums vRays vFalls vSom vHad)) := hD
  have hkr : 0 ≤ kc ∧ kc ≤ 3 := by rw [hkc]; first | omega | (split <;> (try split) <;> (try split) <;> omega)
  refine lv_istore (lv' := [(5, zi kc), (0, .ref b), (1, .ref (ah 0)), (2, .ref (ad 0)), (3, .ref o0), (4, zi i)]) hx hb dL_law_770 hl (by decide) rfl (fun ls hl => ?_)
  refine lv_aload_n hx hb dL_law_772 rfl (lv_at hl 3 rfl) ?_
  refine lv_aload_n hx hb dL_law_773 rfl (lv_at hl 1 rfl) ?_
  refine lv_iload hx hb dL_law_774 (lv_at hl 5 rfl) ?_
  refine hz_iconst hx hb dL_law_776 ?_
  refine hz_iadd hx hb dL_law_777 ?_
  refine hz_sld hx hb hX0 hbl hbA hS (by omega) (by omega) dL_law_778 ?_
  refine hz_lawMi (As := [zi (sc xs (i + 1))]) (rest := []) ⟨hx, hb, hml, hown, hts⟩ (c_X8_haze l G y ad _ vThrown vN vC vNow vHaze vCold vHot vPipe vDeg vThaw vTrc vTurb vLeft vLoad vWater vTrips vMissed vBRow vBSum vCell vDirt vAim vErr vCor vBrk vTop vLm vRows vCols vDown vRight vBound vStrain vPrice vFirm vSums vRays vFalls vSom vHad (sc xs (i + 1)) (sc_rng _ _)) (cwV 1 hts gL_law_X8_haze rfl rfl rfl (by decide +kernel) ⟨Nat.le_of_ble_eq_true rfl, Nat.le_of_ble_eq_true rfl⟩) hP hK hD hS hA 0 9 rfl rfl rfl rfl hl.1 rfl (Nat.le_of_ble_eq_true rfl) dL_law_779 ⟨by show (cells + 1) + 0 ≤ 601024; omega, by show (slots + 6) + 0 ≤ 7293034; omega⟩ (fun _ => rfl) (fun u H locs hu hP hD hS => ?_)
  obtain ⟨b_th, b_r, b_nHaze⟩ := u
  have hM := PLift.up hu
  clear hu
  have hP : va_P G vwCl (((hW ah z y vN vC vNow a_nHaze vCold vHot vPipe vDeg cThaw vTrc vTurb vLeft vLoad vWater vTrips vMi1 vMi2 vSz vBs vCell vDirt vAim vErr vCor vBrk vTop vLm vRows vCols vDown vRight vBound vStrain vPrice vFirm vSums vTk vFl1 vFl2 vTe vAw vRo vBe) ++ oW o0 y a_nO) ++ (mW ad y b_th vN vC vNow b_nHaze vCold vHot vPipe vDeg vThaw vTrc vTurb vLeft vLoad vWater vTrips vMissed vBRow vBSum vCell vDirt vAim vErr vCor vBrk vTop vLm vRows vCols vDown vRight vBound vStrain vPrice vFirm vSums vRays vFalls vSom vHad)) H := hP
  have hD : va_D (fun q : Nat => s.heap.size ≤ q) (((hW ah z y vN vC vNow a_nHaze vCold vHot vPipe vDeg cThaw vTrc vTurb vLeft vLoad vWater vTrips vMi1 vMi2 vSz vBs vCell vDirt vAim vErr vCor vBrk vTop vLm vRows vCols vDown vRight vBound vStrain vPrice vFirm vSums vTk vFl1 vFl2 vTe vAw vRo vBe) ++ oW o0 y a_nO) ++ (mW ad y b_th vN vC vNow b_nHaze vCold vHot vPipe vDeg vThaw vTrc vTurb vLeft vLoad vWater vTrips vMissed vBRow vBSum vCell vDirt vAim vErr vCor vBrk vTop vLm vRows vCols vDown vRight vBound vStrain vPrice vFirm vSums vRays vFalls vSom vHad)) := hD
  have hmk : b_th = kc := (hM.down.1).trans hkc.symm
  refine lv_istore (lv' := [(6, zi b_r), (5, zi kc), (0, .ref b), (1, .ref (ah 0)), (2, .ref (ad 0)), (3, .ref o0), (4, zi i)]) hx hb dL_law_782 hl (by decide) rfl (fun ls hl => ?_)
  refine lv_aload_n hx hb dL_law_784 rfl (lv_at hl 4 rfl) ?_
  refine hz_lawMi (As := []) (rest := []) ⟨hx, hb, hml, hown, hts⟩ (c_X8_thrown l G y ad _ b_th vN vC vNow b_nHaze vCold vHot vPipe vDeg vThaw vTrc vTurb vLeft vLoad vWater vTrips vMissed vBRow vBSum vCell vDirt vAim vErr vCor vBrk vTop vLm vRows vCols vDown vRight vBound vStrain vPrice vFirm vSums vRays vFalls vSom vHad) (cwV 0 hts gL_law_X8_thrown rfl rfl rfl (by decide +kernel) ⟨Nat.le_of_ble_eq_true rfl, Nat.le_of_ble_eq_true rfl⟩) hP hK hD hS hA 0 9 rfl rfl rfl rfl hl.1 rfl (Nat.le_of_ble_eq_true rfl) dL_law_785 ⟨by show (cells + 1) + 0 ≤ 601024; omega, by show (slots + 6) + 0 ≤ 7293034; omega⟩ (fun _ => rfl) (fun u H locs hu hP hD hS => ?_)
  have hP : va_P G vwCl (((hW ah z y vN vC vNow a_nHaze vCold vHot vPipe vDeg cThaw vTrc vTurb vLeft vLoad vWater vTrips vMi1 vMi2 vSz vBs vCell vDirt vAim vErr vCor vBrk vTop vLm vRows vCols vDown vRight vBound vStrain vPrice vFirm vSums vTk vFl1 vFl2 vTe vAw vRo vBe) ++ oW o0 y a_nO) ++ (mW ad y b_th vN vC vNow b_nHaze vCold vHot vPipe vDeg vThaw vTrc vTurb vLeft vLoad vWater vTrips vMissed vBRow vBSum vCell vDirt vAim vErr vCor vBrk vTop vLm vRows vCols vDown vRight vBound vStrain vPrice vFirm vSums vRays vFalls vSom vHad)) H := hP
  have hD : va_D (fun q : Nat => s.heap.size ≤ q) (((hW ah z y vN vC vNow a_nHaze vCold vHot vPipe vDeg cThaw vTrc vTurb vLeft vLoad vWater vTrips vMi1 vMi2 vSz vBs vCell vDirt vAim vErr vCor vBrk vTop vLm vRows vCols vDown vRight vBound vStrain vPrice vFirm vSums vTk vFl1 vFl2 vTe vAw vRo vBe) ++ oW o0 y a_nO) ++ (mW ad y b_th vN vC vNow b_nHaze vCold vHot vPipe vDeg vThaw vTrc vTurb vLeft vLoad vWater vTrips vMissed vBRow vBSum vCell vDirt vAim vErr vCor vBrk vTop vLm vRows vCols vDown vRight vBound vStrain vPrice vFirm vSums vRays vFalls vSom vHad)) := hD
  refine lv_iload hx hb dL_law_788 (lv_at hl 1 rfl) ?_
  refine hz_icmp_eq (tgt := 795) hx hb dL_law_790 (by decide) (by omega) (fun _ => ?_) (fun q => absurd (by omega) q)
  refine lv_iload hx hb dL_law_795 (lv_at hl 1 rfl) ?_
  refine hz_if_ne (tgt := 812) hx hb dL_law_797 (by decide) (by omega) (fun c1 => ?_) (fun c1 => ?_)
  · have h0 : ¬ (if ¬ (0 ≤ (sc xs (i + 1)) ∧ (sc xs (i + 1)) ≤ 9) then (1 : Int) else 0) = 0 := fun q => c1 (hkc.trans q)
    have hPz := hP
    have hDz := hD
    have hs_nHaze := (hU.down.2.1 h0).symm
    subst hs_nHaze
    have ht_nHaze := (hM.down.2.2.2 h0).symm
    subst ht_nHaze
    have hP : va_P G vwCl (((hW ah z y vN vC vNow vHaze vCold vHot vPipe vDeg cThaw vTrc vTurb vLeft vLoad vWater vTrips vMi1 vMi2 vSz vBs vCell vDirt vAim vErr vCor vBrk vTop vLm vRows vCols vDown vRight vBound vStrain vPrice vFirm vSums vTk vFl1 vFl2 vTe vAw vRo vBe) ++ oW o0 y a_nO) ++ (mW ad y b_th vN vC vNow vHaze vCold vHot vPipe vDeg vThaw vTrc vTurb vLeft vLoad vWater vTrips vMissed vBRow vBSum vCell vDirt vAim vErr vCor vBrk vTop vLm vRows vCols vDown vRight vBound vStrain vPrice vFirm vSums vRays vFalls vSom vHad)) H := hPz
    have hD : va_D (fun q : Nat => s.heap.size ≤ q) (((hW ah z y vN vC vNow vHaze vCold vHot vPipe vDeg cThaw vTrc vTurb vLeft vLoad vWater vTrips vMi1 vMi2 vSz vBs vCell vDirt vAim vErr vCor vBrk vTop vLm vRows vCols vDown vRight vBound vStrain vPrice vFirm vSums vTk vFl1 vFl2 vTe vAw vRo vBe) ++ oW o0 y a_nO) ++ (mW ad y b_th vN vC vNow vHaze vCold vHot vPipe vDeg vThaw vTrc vTurb vLeft vLoad vWater vTrips vMissed vBRow vBSum vCell vDirt vAim vErr vCor vBrk vTop vLm vRows vCols vDown vRight vBound vStrain vPrice vFirm vSums vRays vFalls vSom vHad)) := hDz
    refine lv_goto (tgt := 1990) hx hb dL_law_812 (by decide) ?_
    refine W.widen (k := cells + 40) (n := slots + 400) (by omega) (by omega) ?_
    exact K z vN vC vNow vHaze vCold vHot vPipe vDeg cThaw vThaw vTrc vTurb vLeft vLoad vWater vTrips vMi1 vMi2 vSz vBs b_th vMissed vBRow vBSum vCell vDirt vAim vErr vCor vBrk vTop vLm vRows vCols vDown vRight vBound vStrain vPrice vFirm vSums vTk vFl1 vFl2 vTe vAw vRo vBe vRays vFalls vSom vHad a_nO H locs hFA0 hP hD hS ls (lv_sub hl [2, 3, 4, 5, 6] rfl)
  · have h0 : (if ¬ (0 ≤ (sc xs (i + 1)) ∧ (sc xs (i + 1)) ≤ 9) then (1 : Int) else 0) = 0 := hkc.symm.trans c1
    have hPz := hP
    have hDz := hD
    have hs_nHaze := (hU.down.1 h0).symm
    subst hs_nHaze
    have hout : a_nO 0 = wI (vHaze) := hU.down.2.2 h0
    have ht_nHaze := (hM.down.2.2.1 h0).symm
    subst ht_nHaze
    have hans : b_r = vHaze := hM.down.2.1 h0
    have hP : va_P G vwCl (((hW ah z y vN vC vNow (sc xs (i + 1)) vCold vHot vPipe vDeg cThaw vTrc vTurb vLeft vLoad vWater vTrips vMi1 vMi2 vSz vBs vCell vDirt vAim vErr vCor vBrk vTop vLm vRows vCols vDown vRight vBound vStrain vPrice vFirm vSums vTk vFl1 vFl2 vTe vAw vRo vBe) ++ oW o0 y a_nO) ++ (mW ad y b_th vN vC vNow (sc xs (i + 1)) vCold vHot vPipe vDeg vThaw vTrc vTurb vLeft vLoad vWater vTrips vMissed vBRow vBSum vCell vDirt vAim vErr vCor vBrk vTop vLm vRows vCols vDown vRight vBound vStrain vPrice vFirm vSums vRays vFalls vSom vHad)) H := hPz
    have hD : va_D (fun q : Nat => s.heap.size ≤ q) (((hW ah z y vN vC vNow (sc xs (i + 1)) vCold vHot vPipe vDeg cThaw vTrc vTurb vLeft vLoad vWater vTrips vMi1 vMi2 vSz vBs vCell vDirt vAim vErr vCor vBrk vTop vLm vRows vCols vDown vRight vBound vStrain vPrice vFirm vSums vTk vFl1 vFl2 vTe vAw vRo vBe) ++ oW o0 y a_nO) ++ (mW ad y b_th vN vC vNow (sc xs (i + 1)) vCold vHot vPipe vDeg vThaw vTrc vTurb vLeft vLoad vWater vTrips vMissed vBRow vBSum vCell vDirt vAim vErr vCor vBrk vTop vLm vRows vCols vDown vRight vBound vStrain vPrice vFirm vSums vRays vFalls vSom vHad)) := hDz
    refine lv_aload_n hx hb dL_law_800 rfl (lv_at hl 5 rfl) ?_
    refine hz_iconst hx hb dL_law_801 ?_
    refine hz_laldo hx hb hK hP dL_law_802 ?_
    refine lv_iload hx hb dL_law_803 (lv_at hl 0 rfl) ?_
    refine hz_i2lw hx hb dL_law_805 ?_
    refine hz_lcmp hx hb dL_law_806 (fun v hv => ?_)
    refine lv_if_eq (tgt := 812) hx hb dL_law_807 (by decide) (fun _ => ?_) (fun q => absurd (hv.mpr (congrArg zL (hout.trans (congrArg wI hans.symm)))) q)
    refine lv_goto (tgt := 1990) hx hb dL_law_812 (by decide) ?_
    refine W.widen (k := cells + 40) (n := slots + 400) (by omega) (by omega) ?_
    exact K z vN vC vNow (sc xs (i + 1)) vCold vHot vPipe vDeg cThaw vThaw vTrc vTurb vLeft vLoad vWater vTrips vMi1 vMi2 vSz vBs b_th vMissed vBRow vBSum vCell vDirt vAim vErr vCor vBrk vTop vLm vRows vCols vDown vRight vBound vStrain vPrice vFirm vSums vTk vFl1 vFl2 vTe vAw vRo vBe vRays vFalls vSom vHad a_nO H locs ⟨hZ, hZe, hTk, hN, hC, hNow, (show 0 ≤ (sc xs (i + 1)) ∧ (sc xs (i + 1)) ≤ 9 from by omega), hSalt, hPipe, hDeg, hThC, hThM, hThE, hTrc, hTurb, hLeft, hLoad, hWater, hTrips, hCell, hDirt, hAim, hErr, hCor, hBrk, hTop, hLm, hRows, hCols, hDown, hRight, hBound, hStrain, hPrice, hFirm, hE0⟩ hP hD hS ls (lv_sub hl [2, 3, 4, 5, 6] rfl)
set_option maxHeartbeats 16000000 in
set_option maxRecDepth 100000 in
theorem lw_c10 (p : Program) (l : Launch) (e : Env) (s : State) (m : MethodId) (below : List Frame) (meth : Method) (c : Code) (b L : Nat) (xs : Nat → Int32) (G : va_G) (mi zE : Nat) (y : Nat → ClassId) (ah ad : Nat → Nat) (o0 : Nat) (cells slots : Nat) (i : Int) (hQ : LC p l s m meth c b L xs G mi zE y) (hi : 0 ≤ i ∧ i + 7 ≤ L) (hroom : cells + 40 ≤ 601024 ∧ slots + 400 ≤ 7293034) (K : LK p l e s m below meth c b L xs G mi zE y ah ad o0 (cells + 40) (slots + 400) i 1990) : LK p l e s m below meth c b L xs G mi zE y ah ad o0 cells slots i 815 := by
  intro z vN vC vNow vHaze vCold vHot vPipe vDeg cThaw vThaw vTrc vTurb vLeft vLoad vWater vTrips vMi1 vMi2 vSz vBs vThrown vMissed vBRow vBSum vCell vDirt vAim vErr vCor vBrk vTop vLm vRows vCols vDown vRight vBound vStrain vPrice vFirm vSums vTk vFl1 vFl2 vTe vAw vRo vBe vRays vFalls vSom vHad vO H locs hFA hP hD hS ls hl
  obtain ⟨hx, hb, hr, hts, hown, hml, hX0, hbl, hL, hlocks, hK, hGP, hX, hGN, hlt⟩ := hQ
  have hA : ∀ q : Nat, s.heap.size ≤ q → (fun q : Nat => s.heap.size ≤ q) q := fun _ h => h
  have hbA : ¬ (fun q : Nat => s.heap.size ≤ q) b := Nat.not_le.mpr hbl
  have hFA0 := hFA
  obtain ⟨hZ, hZe, hTk, hN, hC, hNow, hHaze, hSalt, hPipe, hDeg, hThC, hThM, hThE, hTrc, hTurb, hLeft, hLoad, hWater, hTrips, hCell, hDirt, hAim, hErr, hCor, hBrk, hTop, hLm, hRows, hCols, hDown, hRight, hBound, hStrain, hPrice, hFirm, hE0⟩ := hFA
  refine lv_aload_n hx hb dL_law_815 rfl (lv_at hl 1 rfl) ?_
  refine lv_aload_n hx hb dL_law_816 rfl (lv_at hl 0 rfl) ?_
  refine lv_iload hx hb dL_law_817 (lv_at hl 4 rfl) ?_
  refine hz_iconst hx hb dL_law_819 ?_
  refine hz_iadd hx hb dL_law_820 ?_
  refine hz_sld hx hb hX0 hbl hbA hS (by omega) (by omega) dL_law_821 ?_
  refine lv_aload_n hx hb dL_law_822 rfl (lv_at hl 0 rfl) ?_
  refine lv_iload hx hb dL_law_823 (lv_at hl 4 rfl) ?_
  refine hz_iconst hx hb dL_law_825 ?_
  refine hz_iadd hx hb dL_law_826 ?_
  refine hz_sld hx hb hX0 hbl hbA hS (by omega) (by omega) dL_law_827 ?_
  refine lv_aload_n hx hb dL_law_828 rfl (lv_at hl 0 rfl) ?_
  refine lv_iload hx hb dL_law_829 (lv_at hl 4 rfl) ?_
  refine hz_iconst hx hb dL_law_831 ?_
  refine hz_iadd hx hb dL_law_832 ?_
  refine hz_sld hx hb hX0 hbl hbA hS (by omega) (by omega) dL_law_833 ?_
  refine lv_aload_n hx hb dL_law_834 rfl (lv_at hl 0 rfl) ?_
  refine lv_iload hx hb dL_law_835 (lv_at hl 4 rfl) ?_
  refine hz_iconst hx hb dL_law_837 ?_
  refine hz_iadd hx hb dL_law_838 ?_
  refine hz_sld hx hb hX0 hbl hbA hS (by omega) (by omega) dL_law_839 ?_
  refine lv_aload_n hx hb dL_law_840 rfl (lv_at hl 0 rfl) ?_
  refine lv_iload hx hb dL_law_841 (lv_at hl 4 rfl) ?_
  refine hz_iconst hx hb dL_law_843 ?_
  refine hz_iadd hx hb dL_law_844 ?_
  refine hz_sld hx hb hX0 hbl hbA hS (by omega) (by omega) dL_law_845 ?_
  refine lv_aload_n hx hb dL_law_846 rfl (lv_at hl 0 rfl) ?_
  refine lv_iload hx hb dL_law_847 (lv_at hl 4 rfl) ?_
  refine hz_bipush hx hb dL_law_849 (by decide) ?_
  refine hz_iadd hx hb dL_law_851 ?_
  refine hz_sld hx hb hX0 hbl hbA hS (by omega) (by omega) dL_law_852 ?_
  refine lv_aload_n hx hb dL_law_853 rfl (lv_at hl 3 rfl) ?_
  refine hz_lawL (As := [.ref (ah 0), zi (sc xs (i + 1)), zi (sc xs (i + 2)), zi (sc xs (i + 3)), zi (sc xs (i + 4)), zi (sc xs (i + 5)), zi (sc xs (i + 6)), .ref o0]) (rest := []) ⟨hx, hb, hml, hown, hts⟩ (c_L_cloud l hlt G ah z mi zE y _ vN vC vNow vHaze vCold vHot vPipe vDeg cThaw vTrc vTurb vLeft vLoad vWater vTrips vMi1 vMi2 vSz vBs vCell vDirt vAim vErr vCor vBrk vTop vLm vRows vCols vDown vRight vBound vStrain vPrice vFirm vSums vTk vFl1 vFl2 vTe vAw vRo vBe o0 vO (sc xs (i + 1)) (sc xs (i + 2)) (sc xs (i + 3)) (sc xs (i + 4)) (sc xs (i + 5)) (sc xs (i + 6)) hZ hN hC (sc_rng _ _) (sc_rng _ _) (sc_rng _ _) (sc_rng _ _) (sc_rng _ _) (sc_rng _ _) hZe) (vx_cwSW 8 hts gL_law_L_cloud rfl rfl rfl (by decide +kernel) ⟨Nat.le_of_ble_eq_true rfl, Nat.le_of_ble_eq_true rfl⟩) hP hK hD hS hA hGP hX hGN rfl hl.1 rfl (Nat.le_of_ble_eq_true rfl) dL_law_854 ⟨by show cells + 14 ≤ 601024; omega, by show slots + 84 ≤ 7293034; omega⟩ (fun r u H locs hu hP hD hS => ?_)
  obtain ⟨a_nTop, a_nLm, a_nRows, a_nCols, a_nDown, a_nRight, a_nC, a_nz, a_nO⟩ := u
  obtain ⟨rfl, hu⟩ := hu
  have hU := PLift.up hu
  clear hu
  refine hz_topi (fun kc hkc => ?_)
  have hP : va_P G vwCl (((hW ah a_nz y vN a_nC vNow vHaze vCold vHot vPipe vDeg cThaw vTrc vTurb vLeft vLoad vWater vTrips vMi1 vMi2 vSz vBs vCell vDirt vAim vErr vCor vBrk a_nTop a_nLm a_nRows a_nCols a_nDown a_nRight vBound vStrain vPrice vFirm vSums vTk vFl1 vFl2 vTe vAw vRo vBe) ++ oW o0 y a_nO) ++ (mW ad y vThrown vN vC vNow vHaze vCold vHot vPipe vDeg vThaw vTrc vTurb vLeft vLoad vWater vTrips vMissed vBRow vBSum vCell vDirt vAim vErr vCor vBrk vTop vLm vRows vCols vDown vRight vBound vStrain vPrice vFirm vSums vRays vFalls vSom vHad)) H := hP
  have hD : va_D (fun q : Nat => s.heap.size ≤ q) (((hW ah a_nz y vN a_nC vNow vHaze vCold vHot vPipe vDeg cThaw vTrc vTurb vLeft vLoad vWater vTrips vMi1 vMi2 vSz vBs vCell vDirt vAim vErr vCor vBrk a_nTop a_nLm a_nRows a_nCols a_nDown a_nRight vBound vStrain vPrice vFirm vSums vTk vFl1 vFl2 vTe vAw vRo vBe) ++ oW o0 y a_nO) ++ (mW ad y vThrown vN vC vNow vHaze vCold vHot vPipe vDeg vThaw vTrc vTurb vLeft vLoad vWater vTrips vMissed vBRow vBSum vCell vDirt vAim vErr vCor vBrk vTop vLm vRows vCols vDown vRight vBound vStrain vPrice vFirm vSums vRays vFalls vSom vHad)) := hD
  have hkr : 0 ≤ kc ∧ kc ≤ 3 := by rw [hkc]; first | omega | (split <;> (try split) <;> (try split) <;> omega)
  refine lv_istore (lv' := [(5, zi kc), (0, .ref b), (1, .ref (ah 0)), (2, .ref (ad 0)), (3, .ref o0), (4, zi i)]) hx hb dL_law_857 hl (by decide) rfl (fun ls hl => ?_)
  refine lv_aload_n hx hb dL_law_859 rfl (lv_at hl 3 rfl) ?_
  refine lv_aload_n hx hb dL_law_860 rfl (lv_at hl 1 rfl) ?_
  refine lv_iload hx hb dL_law_861 (lv_at hl 5 rfl) ?_
  refine hz_iconst hx hb dL_law_863 ?_
  refine hz_iadd hx hb dL_law_864 ?_
  refine hz_sld hx hb hX0 hbl hbA hS (by omega) (by omega) dL_law_865 ?_
  refine lv_aload_n hx hb dL_law_866 rfl (lv_at hl 1 rfl) ?_
  refine lv_iload hx hb dL_law_867 (lv_at hl 5 rfl) ?_
  refine hz_iconst hx hb dL_law_869 ?_
  refine hz_iadd hx hb dL_law_870 ?_
  refine hz_sld hx hb hX0 hbl hbA hS (by omega) (by omega) dL_law_871 ?_
  refine lv_aload_n hx hb dL_law_872 rfl (lv_at hl 1 rfl) ?_
  refine lv_iload hx hb dL_law_873 (lv_at hl 5 rfl) ?_
  refine hz_iconst hx hb dL_law_875 ?_
  refine hz_iadd hx hb dL_law_876 ?_
  refine hz_sld hx hb hX0 hbl hbA hS (by omega) (by omega) dL_law_877 ?_
  refine lv_aload_n hx hb dL_law_878 rfl (lv_at hl 1 rfl) ?_
  refine lv_iload hx hb dL_law_879 (lv_at hl 5 rfl) ?_
  refine hz_iconst hx hb dL_law_881 ?_
  refine hz_iadd hx hb dL_law_882 ?_
  refine hz_sld hx hb hX0 hbl hbA hS (by omega) (by omega) dL_law_883 ?_
  refine lv_aload_n hx hb dL_law_884 rfl (lv_at hl 1 rfl) ?_
  refine lv_iload hx hb dL_law_885 (lv_at hl 5 rfl) ?_
  refine hz_iconst hx hb dL_law_887 ?_
  refine hz_iadd hx hb dL_law_888 ?_
  refine hz_sld hx hb hX0 hbl hbA hS (by omega) (by omega) dL_law_889 ?_
  refine lv_aload_n hx hb dL_law_890 rfl (lv_at hl 1 rfl) ?_
  refine lv_iload hx hb dL_law_891 (lv_at hl 5 rfl) ?_
  refine hz_bipush hx hb dL_law_893 (by decide) ?_
  refine hz_iadd hx hb dL_law_895 ?_
  refine hz_sld hx hb hX0 hbl hbA hS (by omega) (by omega) dL_law_896 ?_
  refine hz_lawMi (As := [zi (sc xs (i + 1)), zi (sc xs (i + 2)), zi (sc xs (i + 3)), zi (sc xs (i + 4)), zi (sc xs (i + 5)), zi (sc xs (i + 6))]) (rest := []) ⟨hx, hb, hml, hown, hts⟩ (c_X8_cloud l G y ad _ vThrown vN vC vNow vHaze vCold vHot vPipe vDeg vThaw vTrc vTurb vLeft vLoad vWater vTrips vMissed vBRow vBSum vCell vDirt vAim vErr vCor vBrk vTop vLm vRows vCols vDown vRight vBound vStrain vPrice vFirm vSums vRays vFalls vSom vHad (sc xs (i + 1)) (sc xs (i + 2)) (sc xs (i + 3)) (sc xs (i + 4)) (sc xs (i + 5)) (sc xs (i + 6)) hC (sc_rng _ _) (sc_rng _ _) (sc_rng _ _) (sc_rng _ _) (sc_rng _ _) (sc_rng _ _)) (cwV 6 hts gL_law_X8_cloud rfl rfl rfl (by decide +kernel) ⟨Nat.le_of_ble_eq_true rfl, Nat.le_of_ble_eq_true rfl⟩) hP hK hD hS hA 0 9 rfl rfl rfl rfl hl.1 rfl (Nat.le_of_ble_eq_true rfl) dL_law_897 ⟨by show (cells + 14) + 0 ≤ 601024; omega, by show (slots + 84) + 0 ≤ 7293034; omega⟩ (fun _ => rfl) (fun u H locs hu hP hD hS => ?_)
  obtain ⟨b_th, b_r, b_nTop, b_nLm, b_nRows, b_nCols, b_nDown, b_nRight, b_nC⟩ := u
  have hM := PLift.up hu
  clear hu
  have hP : va_P G vwCl (((hW ah a_nz y vN a_nC vNow vHaze vCold vHot vPipe vDeg cThaw vTrc vTurb vLeft vLoad vWater vTrips vMi1 vMi2 vSz vBs vCell vDirt vAim vErr vCor vBrk a_nTop a_nLm a_nRows a_nCols a_nDown a_nRight vBound vStrain vPrice vFirm vSums vTk vFl1 vFl2 vTe vAw vRo vBe) ++ oW o0 y a_nO) ++ (mW ad y b_th vN b_nC vNow vHaze vCold vHot vPipe vDeg vThaw vTrc vTurb vLeft vLoad vWater vTrips vMissed vBRow vBSum vCell vDirt vAim vErr vCor vBrk b_nTop b_nLm b_nRows b_nCols b_nDown b_nRight vBound vStrain vPrice vFirm vSums vRays vFalls vSom vHad)) H := hP
  have hD : va_D (fun q : Nat => s.heap.size ≤ q) (((hW ah a_nz y vN a_nC vNow vHaze vCold vHot vPipe vDeg cThaw vTrc vTurb vLeft vLoad vWater vTrips vMi1 vMi2 vSz vBs vCell vDirt vAim vErr vCor vBrk a_nTop a_nLm a_nRows a_nCols a_nDown a_nRight vBound vStrain vPrice vFirm vSums vTk vFl1 vFl2 vTe vAw vRo vBe) ++ oW o0 y a_nO) ++ (mW ad y b_th vN b_nC vNow vHaze vCold vHot vPipe vDeg vThaw vTrc vTurb vLeft vLoad vWater vTrips vMissed vBRow vBSum vCell vDirt vAim vErr vCor vBrk b_nTop b_nLm b_nRows b_nCols b_nDown b_nRight vBound vStrain vPrice vFirm vSums vRays vFalls vSom vHad)) := hD
  have hmk : b_th = kc := (hM.down.1).trans hkc.symm
  refine lv_istore (lv' := [(6, zi b_r), (5, zi kc), (0, .ref b), (1, .ref (ah 0)), (2, .ref (ad 0)), (3, .ref o0), (4, zi i)]) hx hb dL_law_900 hl (by decide) rfl (fun ls hl => ?_)
  refine lv_aload_n hx hb dL_law_902 rfl (lv_at hl 4 rfl) ?_
  refine hz_lawMi (As := []) (rest := []) ⟨hx, hb, hml, hown, hts⟩ (c_X8_thrown l G y ad _ b_th vN b_nC vNow vHaze vCold vHot vPipe vDeg vThaw vTrc vTurb vLeft vLoad vWater vTrips vMissed vBRow vBSum vCell vDirt vAim vErr vCor vBrk b_nTop b_nLm b_nRows b_nCols b_nDown b_nRight vBound vStrain vPrice vFirm vSums vRays vFalls vSom vHad) (cwV 0 hts gL_law_X8_thrown rfl rfl rfl (by decide +kernel) ⟨Nat.le_of_ble_eq_true rfl, Nat.le_of_ble_eq_true rfl⟩) hP hK hD hS hA 0 9 rfl rfl rfl rfl hl.1 rfl (Nat.le_of_ble_eq_true rfl) dL_law_903 ⟨by show (cells + 14) + 0 ≤ 601024; omega, by show (slots + 84) + 0 ≤ 7293034; omega⟩ (fun _ => rfl) (fun u H locs hu hP hD hS => ?_)
  have hP : va_P G vwCl (((hW ah a_nz y vN a_nC vNow vHaze vCold vHot vPipe vDeg cThaw vTrc vTurb vLeft vLoad vWater vTrips vMi1 vMi2 vSz vBs vCell vDirt vAim vErr vCor vBrk a_nTop a_nLm a_nRows a_nCols a_nDown a_nRight vBound vStrain vPrice vFirm vSums vTk vFl1 vFl2 vTe vAw vRo vBe) ++ oW o0 y a_nO) ++ (mW ad y b_th vN b_nC vNow vHaze vCold vHot vPipe vDeg vThaw vTrc vTurb vLeft vLoad vWater vTrips vMissed vBRow vBSum vCell vDirt vAim vErr vCor vBrk b_nTop b_nLm b_nRows b_nCols b_nDown b_nRight vBound vStrain vPrice vFirm vSums vRays vFalls vSom vHad)) H := hP
  have hD : va_D (fun q : Nat => s.heap.size ≤ q) (((hW ah a_nz y vN a_nC vNow vHaze vCold vHot vPipe vDeg cThaw vTrc vTurb vLeft vLoad vWater vTrips vMi1 vMi2 vSz vBs vCell vDirt vAim vErr vCor vBrk a_nTop a_nLm a_nRows a_nCols a_nDown a_nRight vBound vStrain vPrice vFirm vSums vTk vFl1 vFl2 vTe vAw vRo vBe) ++ oW o0 y a_nO) ++ (mW ad y b_th vN b_nC vNow vHaze vCold vHot vPipe vDeg vThaw vTrc vTurb vLeft vLoad vWater vTrips vMissed vBRow vBSum vCell vDirt vAim vErr vCor vBrk b_nTop b_nLm b_nRows b_nCols b_nDown b_nRight vBound vStrain vPrice vFirm vSums vRays vFalls vSom vHad)) := hD
  refine lv_iload hx hb dL_law_906 (lv_at hl 1 rfl) ?_
  refine hz_icmp_eq (tgt := 913) hx hb dL_law_908 (by decide) (by omega) (fun _ => ?_) (fun q => absurd (by omega) q)
  refine lv_iload hx hb dL_law_913 (lv_at hl 1 rfl) ?_
  refine hz_if_ne (tgt := 930) hx hb dL_law_915 (by decide) (by omega) (fun c1 => ?_) (fun c1 => ?_)
  · have h0 : ¬ (if ¬ ((-16 ≤ (sc xs (i + 1)) ∧ (sc xs (i + 1)) ≤ 16) ∧ (-16 ≤ (sc xs (i + 2)) ∧ (sc xs (i + 2)) ≤ 16) ∧ (1 ≤ (sc xs (i + 3)) ∧ (sc xs (i + 3)) ≤ 8) ∧ (1 ≤ (sc xs (i + 4)) ∧ (sc xs (i + 4)) ≤ 8) ∧ (-1 ≤ (sc xs (i + 5)) ∧ (sc xs (i + 5)) ≤ 1) ∧ (-1 ≤ (sc xs (i + 6)) ∧ (sc xs (i + 6)) ≤ 1)) then (1 : Int) else if vC = 4 then 2 else 0) = 0 := fun q => c1 (hkc.trans q)
    have hPz := hP
    have hDz := hD
    have hs_z := (hU.down.2.2.2.2.2.2.2.2.1 h0).symm
    subst hs_z
    have hs_nTop := (hU.down.2.2.2.2.2.2.2.2.2.1 h0).symm
    subst hs_nTop
    have hs_nLm := (hU.down.2.2.2.2.2.2.2.2.2.2.1 h0).symm
    subst hs_nLm
    have hs_nRows := (hU.down.2.2.2.2.2.2.2.2.2.2.2.1 h0).symm
    subst hs_nRows
    have hs_nCols := (hU.down.2.2.2.2.2.2.2.2.2.2.2.2.1 h0).symm
    subst hs_nCols
    have hs_nDown := (hU.down.2.2.2.2.2.2.2.2.2.2.2.2.2.1 h0).symm
    subst hs_nDown
    have hs_nRight := (hU.down.2.2.2.2.2.2.2.2.2.2.2.2.2.2.1 h0).symm
    subst hs_nRight
    have hs_nC := (hU.down.2.2.2.2.2.2.2.2.2.2.2.2.2.2.2.1 h0).symm
    subst hs_nC
    have ht_nTop := (hM.down.2.2.2.1 h0).symm
    subst ht_nTop
    have ht_nLm := (hM.down.2.2.2.2.2.1 h0).symm
    subst ht_nLm
    have ht_nRows := (hM.down.2.2.2.2.2.2.2.1 h0).symm
    subst ht_nRows
    have ht_nCols := (hM.down.2.2.2.2.2.2.2.2.2.1 h0).symm
    subst ht_nCols
    have ht_nDown := (hM.down.2.2.2.2.2.2.2.2.2.2.2.1 h0).symm
    subst ht_nDown
    have ht_nRight := (hM.down.2.2.2.2.2.2.2.2.2.2.2.2.2.1 h0).symm
    subst ht_nRight
    have ht_nC := (hM.down.2.2.2.2.2.2.2.2.2.2.2.2.2.2.2 h0).symm
    subst ht_nC
    have hP : va_P G vwCl (((hW ah z y vN vC vNow vHaze vCold vHot vPipe vDeg cThaw vTrc vTurb vLeft vLoad vWater vTrips vMi1 vMi2 vSz vBs vCell vDirt vAim vErr vCor vBrk vTop vLm vRows vCols vDown vRight vBound vStrain vPrice vFirm vSums vTk vFl1 vFl2 vTe vAw vRo vBe) ++ oW o0 y a_nO) ++ (mW ad y b_th vN vC vNow vHaze vCold vHot vPipe vDeg vThaw vTrc vTurb vLeft vLoad vWater vTrips vMissed vBRow vBSum vCell vDirt vAim vErr vCor vBrk vTop vLm vRows vCols vDown vRight vBound vStrain vPrice vFirm vSums vRays vFalls vSom vHad)) H := hPz
    have hD : va_D (fun q : Nat => s.heap.size ≤ q) (((hW ah z y vN vC vNow vHaze vCold vHot vPipe vDeg cThaw vTrc vTurb vLeft vLoad vWater vTrips vMi1 vMi2 vSz vBs vCell vDirt vAim vErr vCor vBrk vTop vLm vRows vCols vDown vRight vBound vStrain vPrice vFirm vSums vTk vFl1 vFl2 vTe vAw vRo vBe) ++ oW o0 y a_nO) ++ (mW ad y b_th vN vC vNow vHaze vCold vHot vPipe vDeg vThaw vTrc vTurb vLeft vLoad vWater vTrips vMissed vBRow vBSum vCell vDirt vAim vErr vCor vBrk vTop vLm vRows vCols vDown vRight vBound vStrain vPrice vFirm vSums vRays vFalls vSom vHad)) := hDz
    refine lv_goto (tgt := 1990) hx hb dL_law_930 (by decide) ?_
    refine W.widen (k := cells + 40) (n := slots + 400) (by omega) (by omega) ?_
    exact K z vN vC vNow vHaze vCold vHot vPipe vDeg cThaw vThaw vTrc vTurb vLeft vLoad vWater vTrips vMi1 vMi2 vSz vBs b_th vMissed vBRow vBSum vCell vDirt vAim vErr vCor vBrk vTop vLm vRows vCols vDown vRight vBound vStrain vPrice vFirm vSums vTk vFl1 vFl2 vTe vAw vRo vBe vRays vFalls vSom vHad a_nO H locs hFA0 hP hD hS ls (lv_sub hl [2, 3, 4, 5, 6] rfl)
  · have h0 : (if ¬ ((-16 ≤ (sc xs (i + 1)) ∧ (sc xs (i + 1)) ≤ 16) ∧ (-16 ≤ (sc xs (i + 2)) ∧ (sc xs (i + 2)) ≤ 16) ∧ (1 ≤ (sc xs (i + 3)) ∧ (sc xs (i + 3)) ≤ 8) ∧ (1 ≤ (sc xs (i + 4)) ∧ (sc xs (i + 4)) ≤ 8) ∧ (-1 ≤ (sc xs (i + 5)) ∧ (sc xs (i + 5)) ≤ 1) ∧ (-1 ≤ (sc xs (i + 6)) ∧ (sc xs (i + 6)) ≤ 1)) then (1 : Int) else if vC = 4 then 2 else 0) = 0 := hkc.symm.trans c1
    have hPz := hP
    have hDz := hD
    have hs_nTop := (hU.down.1 h0).symm
    subst hs_nTop
    have hs_nLm := (hU.down.2.1 h0).symm
    subst hs_nLm
    have hs_nRows := (hU.down.2.2.1 h0).symm
    subst hs_nRows
    have hs_nCols := (hU.down.2.2.2.1 h0).symm
    subst hs_nCols
    have hs_nDown := (hU.down.2.2.2.2.1 h0).symm
    subst hs_nDown
    have hs_nRight := (hU.down.2.2.2.2.2.1 h0).symm
    subst hs_nRight
    have hs_nC := (hU.down.2.2.2.2.2.2.1 h0).symm
    subst hs_nC
    have hzz0 := hU.down.2.2.2.2.2.2.2.1 h0
    have hout : a_nO 0 = wI (vC + 1) := hU.down.2.2.2.2.2.2.2.2.2.2.2.2.2.2.2.2 h0
    have ht_nTop := (hM.down.2.2.1 h0).symm
    subst ht_nTop
    have ht_nLm := (hM.down.2.2.2.2.1 h0).symm
    subst ht_nLm
    have ht_nRows := (hM.down.2.2.2.2.2.2.1 h0).symm
    subst ht_nRows
    have ht_nCols := (hM.down.2.2.2.2.2.2.2.2.1 h0).symm
    subst ht_nCols
    have ht_nDown := (hM.down.2.2.2.2.2.2.2.2.2.2.1 h0).symm
    subst ht_nDown
    have ht_nRight := (hM.down.2.2.2.2.2.2.2.2.2.2.2.2.1 h0).symm
    subst ht_nRight
    have ht_nC := (hM.down.2.2.2.2.2.2.2.2.2.2.2.2.2.2.1 h0).symm
    subst ht_nC
    have hans : b_r = vC + 1 := hM.down.2.1 h0
    have hP : va_P G vwCl (((hW ah a_nz y vN (vC + 1) vNow vHaze vCold vHot vPipe vDeg cThaw vTrc vTurb vLeft vLoad vWater vTrips vMi1 vMi2 vSz vBs vCell vDirt vAim vErr vCor vBrk (upZ vTop vC (sc xs (i + 1))) (upZ vLm vC (sc xs (i + 2))) (upZ vRows vC (sc xs (i + 3))) (upZ vCols vC (sc xs (i + 4))) (upZ vDown vC (sc xs (i + 5))) (upZ vRight vC (sc xs (i + 6))) vBound vStrain vPrice vFirm vSums vTk vFl1 vFl2 vTe vAw vRo vBe) ++ oW o0 y a_nO) ++ (mW ad y b_th vN (vC + 1) vNow vHaze vCold vHot vPipe vDeg vThaw vTrc vTurb vLeft vLoad vWater vTrips vMissed vBRow vBSum vCell vDirt vAim vErr vCor vBrk (upZ vTop vC (sc xs (i + 1))) (upZ vLm vC (sc xs (i + 2))) (upZ vRows vC (sc xs (i + 3))) (upZ vCols vC (sc xs (i + 4))) (upZ vDown vC (sc xs (i + 5))) (upZ vRight vC (sc xs (i + 6))) vBound vStrain vPrice vFirm vSums vRays vFalls vSom vHad)) H := hPz
    have hD : va_D (fun q : Nat => s.heap.size ≤ q) (((hW ah a_nz y vN (vC + 1) vNow vHaze vCold vHot vPipe vDeg cThaw vTrc vTurb vLeft vLoad vWater vTrips vMi1 vMi2 vSz vBs vCell vDirt vAim vErr vCor vBrk (upZ vTop vC (sc xs (i + 1))) (upZ vLm vC (sc xs (i + 2))) (upZ vRows vC (sc xs (i + 3))) (upZ vCols vC (sc xs (i + 4))) (upZ vDown vC (sc xs (i + 5))) (upZ vRight vC (sc xs (i + 6))) vBound vStrain vPrice vFirm vSums vTk vFl1 vFl2 vTe vAw vRo vBe) ++ oW o0 y a_nO) ++ (mW ad y b_th vN (vC + 1) vNow vHaze vCold vHot vPipe vDeg vThaw vTrc vTurb vLeft vLoad vWater vTrips vMissed vBRow vBSum vCell vDirt vAim vErr vCor vBrk (upZ vTop vC (sc xs (i + 1))) (upZ vLm vC (sc xs (i + 2))) (upZ vRows vC (sc xs (i + 3))) (upZ vCols vC (sc xs (i + 4))) (upZ vDown vC (sc xs (i + 5))) (upZ vRight vC (sc xs (i + 6))) vBound vStrain vPrice vFirm vSums vRays vFalls vSom vHad)) := hDz
    refine lv_aload_n hx hb dL_law_918 rfl (lv_at hl 5 rfl) ?_
    refine hz_iconst hx hb dL_law_919 ?_
    refine hz_laldo hx hb hK hP dL_law_920 ?_
    refine lv_iload hx hb dL_law_921 (lv_at hl 0 rfl) ?_
    refine hz_i2lw hx hb dL_law_923 ?_
    refine hz_lcmp hx hb dL_law_924 (fun v hv => ?_)
    refine lv_if_eq (tgt := 930) hx hb dL_law_925 (by decide) (fun _ => ?_) (fun q => absurd (hv.mpr (congrArg zL (hout.trans (congrArg wI hans.symm)))) q)
    refine lv_goto (tgt := 1990) hx hb dL_law_930 (by decide) ?_
    refine W.widen (k := cells + 40) (n := slots + 400) (by omega) (by omega) ?_
    exact K a_nz vN (vC + 1) vNow vHaze vCold vHot vPipe vDeg cThaw vThaw vTrc vTurb vLeft vLoad vWater vTrips vMi1 vMi2 vSz vBs b_th vMissed vBRow vBSum vCell vDirt vAim vErr vCor vBrk (upZ vTop vC (sc xs (i + 1))) (upZ vLm vC (sc xs (i + 2))) (upZ vRows vC (sc xs (i + 3))) (upZ vCols vC (sc xs (i + 4))) (upZ vDown vC (sc xs (i + 5))) (upZ vRight vC (sc xs (i + 6))) vBound vStrain vPrice vFirm vSums vTk vFl1 vFl2 vTe vAw vRo vBe vRays vFalls vSom vHad a_nO H locs ⟨(show LZok a_nz vN (vC + 1) from hzz0.1), (show LZe a_nz zE from hzz0.2), hTk, hN, (show 0 ≤ (vC + 1) ∧ (vC + 1) ≤ 4 from by omega), hNow, hHaze, hSalt, hPipe, hDeg, hThC, hThM, hThE, hTrc, hTurb, hLeft, hLoad, hWater, hTrips, hCell, hDirt, hAim, hErr, hCor, hBrk, (show ∀ k : Int, -(16 + vNow) ≤ (upZ vTop vC (sc xs (i + 1))) k ∧ (upZ vTop vC (sc xs (i + 1))) k ≤ 16 + vNow from upZ_rng hTop (by omega)), (show ∀ k : Int, -(16 + vNow) ≤ (upZ vLm vC (sc xs (i + 2))) k ∧ (upZ vLm vC (sc xs (i + 2))) k ≤ 16 + vNow from upZ_rng hLm (by omega)), (show ∀ k : Int, 0 ≤ (upZ vRows vC (sc xs (i + 3))) k ∧ (upZ vRows vC (sc xs (i + 3))) k ≤ 8 from upZ_rng hRows (by omega)), (show ∀ k : Int, 0 ≤ (upZ vCols vC (sc xs (i + 4))) k ∧ (upZ vCols vC (sc xs (i + 4))) k ≤ 8 from upZ_rng hCols (by omega)), (show ∀ k : Int, -1 ≤ (upZ vDown vC (sc xs (i + 5))) k ∧ (upZ vDown vC (sc xs (i + 5))) k ≤ 1 from upZ_rng hDown (by omega)), (show ∀ k : Int, -1 ≤ (upZ vRight vC (sc xs (i + 6))) k ∧ (upZ vRight vC (sc xs (i + 6))) k ≤ 1 from upZ_rng hRight (by omega)), hBound, hStrain, hPrice, hFirm, hE0⟩ hP hD hS ls (lv_sub hl [2, 3, 4, 5, 6] rfl)
set_option maxHeartbeats 16000000 in
set_option maxRecDepth 100000 in
theorem lw_c11 (p : Program) (l : Launch) (e : Env) (s : State) (m : MethodId) (below : List Frame) (meth : Method) (c : Code) (b L : Nat) (xs : Nat → Int32) (G : va_G) (mi zE : Nat) (y : Nat → ClassId) (ah ad : Nat → Nat) (o0 : Nat) (cells slots : Nat) (i : Int) (hQ : LC p l s m meth c b L xs G mi zE y) (hi : 0 ≤ i ∧ i + 7 ≤ L) (hroom : cells + 40 ≤ 601024 ∧ slots + 400 ≤ 7293034) (K : LK p l e s m below meth c b L xs G mi zE y ah ad o0 (cells + 40) (slots + 400) i 1990) : LK p l e s m below meth c b L xs G mi zE y ah ad o0 cells slots i 933 := by
  intro z vN vC vNow vHaze vCold vHot vPipe vDeg cThaw vThaw vTrc vTurb vLeft vLoad vWater vTrips vMi1 vMi2 vSz vBs vThrown vMissed vBRow vBSum vCell vDirt vAim vErr vCor vBrk vTop vLm vRows vCols vDown vRight vBound vStrain vPrice vFirm vSums vTk vFl1 vFl2 vTe vAw vRo vBe vRays vFalls vSom vHad vO H locs hFA hP hD hS ls hl
  obtain ⟨hx, hb, hr, hts, hown, hml, hX0, hbl, hL, hlocks, hK, hGP, hX, hGN, hlt⟩ := hQ
  have hA : ∀ q : Nat, s.heap.size ≤ q → (fun q : Nat => s.heap.size ≤ q) q := fun _ h => h
  have hbA : ¬ (fun q : Nat => s.heap.size ≤ q) b := Nat.not_le.mpr hbl
  have hFA0 := hFA
  obtain ⟨hZ, hZe, hTk, hN, hC, hNow, hHaze, hSalt, hPipe, hDeg, hThC, hThM, hThE, hTrc, hTurb, hLeft, hLoad, hWater, hTrips, hCell, hDirt, hAim, hErr, hCor, hBrk, hTop, hLm, hRows, hCols, hDown, hRight, hBound, hStrain, hPrice, hFirm, hE0⟩ := hFA
  refine lv_aload_n hx hb dL_law_933 rfl (lv_at hl 1 rfl) ?_
  refine hz_lawFc (As := []) (rest := []) ⟨hx, hb, hml, hown, hts⟩ (c_X7_clear l G ah z mi zE y _ vN vC vNow vHaze vCold vHot vPipe vDeg cThaw vTrc vTurb vLeft vLoad vWater vTrips vMi1 vMi2 vSz vBs vCell vDirt vAim vErr vCor vBrk vTop vLm vRows vCols vDown vRight vBound vStrain vPrice vFirm vSums vTk vFl1 vFl2 vTe vAw vRo vBe hZ hC hZe) (cwV 0 hts gL_law_X7_clear rfl rfl rfl (by decide +kernel) ⟨Nat.le_of_ble_eq_true rfl, Nat.le_of_ble_eq_true rfl⟩) hP hK hD hS hA hGP 0 8 rfl rfl rfl rfl hl.1 rfl (Nat.le_of_ble_eq_true rfl) dL_law_934 ⟨by show cells + 0 ≤ 601024; omega, by show slots + 0 ≤ 7293034; omega⟩ (fun r u H locs hu hP hD hS => ?_)
  obtain ⟨rfl, hzz⟩ := hu
  have hzz : LZok u vN 0 ∧ LZe u zE := hzz
  have hP : va_P G vwCl (((hW ah u y vN 0 vNow vHaze vCold vHot vPipe vDeg cThaw vTrc vTurb vLeft vLoad vWater vTrips vMi1 vMi2 vSz vBs vCell vDirt vAim vErr vCor vBrk vTop vLm vRows vCols vDown vRight vBound vStrain vPrice vFirm vSums vTk vFl1 vFl2 vTe vAw vRo vBe) ++ oW o0 y vO) ++ (mW ad y vThrown vN vC vNow vHaze vCold vHot vPipe vDeg vThaw vTrc vTurb vLeft vLoad vWater vTrips vMissed vBRow vBSum vCell vDirt vAim vErr vCor vBrk vTop vLm vRows vCols vDown vRight vBound vStrain vPrice vFirm vSums vRays vFalls vSom vHad)) H := hP
  have hD : va_D (fun q : Nat => s.heap.size ≤ q) (((hW ah u y vN 0 vNow vHaze vCold vHot vPipe vDeg cThaw vTrc vTurb vLeft vLoad vWater vTrips vMi1 vMi2 vSz vBs vCell vDirt vAim vErr vCor vBrk vTop vLm vRows vCols vDown vRight vBound vStrain vPrice vFirm vSums vTk vFl1 vFl2 vTe vAw vRo vBe) ++ oW o0 y vO) ++ (mW ad y vThrown vN vC vNow vHaze vCold vHot vPipe vDeg vThaw vTrc vTurb vLeft vLoad vWater vTrips vMissed vBRow vBSum vCell vDirt vAim vErr vCor vBrk vTop vLm vRows vCols vDown vRight vBound vStrain vPrice vFirm vSums vRays vFalls vSom vHad)) := hD
  refine lv_aload_n hx hb dL_law_937 rfl (lv_at hl 2 rfl) ?_
  refine hz_lawMi (As := []) (rest := [zi vC]) ⟨hx, hb, hml, hown, hts⟩ (c_X8_clear l G y ad _ vThrown vN vC vNow vHaze vCold vHot vPipe vDeg vThaw vTrc vTurb vLeft vLoad vWater vTrips vMissed vBRow vBSum vCell vDirt vAim vErr vCor vBrk vTop vLm vRows vCols vDown vRight vBound vStrain vPrice vFirm vSums vRays vFalls vSom vHad  ) (cwV 0 hts gL_law_X8_clear rfl rfl rfl (by decide +kernel) ⟨Nat.le_of_ble_eq_true rfl, Nat.le_of_ble_eq_true rfl⟩) hP hK hD hS hA 0 9 rfl rfl rfl rfl hl.1 rfl (Nat.le_of_ble_eq_true rfl) dL_law_938 ⟨by show cells + 0 ≤ 601024; omega, by show slots + 0 ≤ 7293034; omega⟩ (fun _ => rfl) (fun u H locs hu hP hD hS => ?_)
  obtain ⟨b_th, b_r, b_nC⟩ := u
  have hM := PLift.up hu
  clear hu
  have hP : va_P G vwCl (((hW ah u y vN 0 vNow vHaze vCold vHot vPipe vDeg cThaw vTrc vTurb vLeft vLoad vWater vTrips vMi1 vMi2 vSz vBs vCell vDirt vAim vErr vCor vBrk vTop vLm vRows vCols vDown vRight vBound vStrain vPrice vFirm vSums vTk vFl1 vFl2 vTe vAw vRo vBe) ++ oW o0 y vO) ++ (mW ad y b_th vN b_nC vNow vHaze vCold vHot vPipe vDeg vThaw vTrc vTurb vLeft vLoad vWater vTrips vMissed vBRow vBSum vCell vDirt vAim vErr vCor vBrk vTop vLm vRows vCols vDown vRight vBound vStrain vPrice vFirm vSums vRays vFalls vSom vHad)) H := hP
  have hD : va_D (fun q : Nat => s.heap.size ≤ q) (((hW ah u y vN 0 vNow vHaze vCold vHot vPipe vDeg cThaw vTrc vTurb vLeft vLoad vWater vTrips vMi1 vMi2 vSz vBs vCell vDirt vAim vErr vCor vBrk vTop vLm vRows vCols vDown vRight vBound vStrain vPrice vFirm vSums vTk vFl1 vFl2 vTe vAw vRo vBe) ++ oW o0 y vO) ++ (mW ad y b_th vN b_nC vNow vHaze vCold vHot vPipe vDeg vThaw vTrc vTurb vLeft vLoad vWater vTrips vMissed vBRow vBSum vCell vDirt vAim vErr vCor vBrk vTop vLm vRows vCols vDown vRight vBound vStrain vPrice vFirm vSums vRays vFalls vSom vHad)) := hD
  have hans : b_r = vC := hM.down.2.1 rfl
  refine hz_tope (z2 := b_r) rfl ?_
  refine hz_icmp_eq (tgt := 1990) hx hb dL_law_941 (by decide) (by omega) (fun _ => ?_) (fun q => absurd (by omega) q)
  have hPz := hP
  have hDz := hD
  have ht_nC := (hM.down.2.2.1 rfl).symm
  subst ht_nC
  have hP : va_P G vwCl (((hW ah u y vN 0 vNow vHaze vCold vHot vPipe vDeg cThaw vTrc vTurb vLeft vLoad vWater vTrips vMi1 vMi2 vSz vBs vCell vDirt vAim vErr vCor vBrk vTop vLm vRows vCols vDown vRight vBound vStrain vPrice vFirm vSums vTk vFl1 vFl2 vTe vAw vRo vBe) ++ oW o0 y vO) ++ (mW ad y b_th vN 0 vNow vHaze vCold vHot vPipe vDeg vThaw vTrc vTurb vLeft vLoad vWater vTrips vMissed vBRow vBSum vCell vDirt vAim vErr vCor vBrk vTop vLm vRows vCols vDown vRight vBound vStrain vPrice vFirm vSums vRays vFalls vSom vHad)) H := hPz
  have hD : va_D (fun q : Nat => s.heap.size ≤ q) (((hW ah u y vN 0 vNow vHaze vCold vHot vPipe vDeg cThaw vTrc vTurb vLeft vLoad vWater vTrips vMi1 vMi2 vSz vBs vCell vDirt vAim vErr vCor vBrk vTop vLm vRows vCols vDown vRight vBound vStrain vPrice vFirm vSums vTk vFl1 vFl2 vTe vAw vRo vBe) ++ oW o0 y vO) ++ (mW ad y b_th vN 0 vNow vHaze vCold vHot vPipe vDeg vThaw vTrc vTurb vLeft vLoad vWater vTrips vMissed vBRow vBSum vCell vDirt vAim vErr vCor vBrk vTop vLm vRows vCols vDown vRight vBound vStrain vPrice vFirm vSums vRays vFalls vSom vHad)) := hDz
  refine W.widen (k := cells + 40) (n := slots + 400) (by omega) (by omega) ?_
  exact K u vN 0 vNow vHaze vCold vHot vPipe vDeg cThaw vThaw vTrc vTurb vLeft vLoad vWater vTrips vMi1 vMi2 vSz vBs b_th vMissed vBRow vBSum vCell vDirt vAim vErr vCor vBrk vTop vLm vRows vCols vDown vRight vBound vStrain vPrice vFirm vSums vTk vFl1 vFl2 vTe vAw vRo vBe vRays vFalls vSom vHad vO H locs ⟨(show LZok u vN 0 from hzz.1), (show LZe u zE from hzz.2), hTk, hN, (show 0 ≤ 0 ∧ 0 ≤ 4 from by omega), hNow, hHaze, hSalt, hPipe, hDeg, hThC, hThM, hThE, hTrc, hTurb, hLeft, hLoad, hWater, hTrips, hCell, hDirt, hAim, hErr, hCor, hBrk, hTop, hLm, hRows, hCols, hDown, hRight, hBound, hStrain, hPrice, hFirm, hE0⟩ hP hD hS ls (lv_sub hl [0, 1, 2, 3, 4] rfl)
set_option maxHeartbeats 16000000 in
set_option maxRecDepth 100000 in
theorem lw_c12 (p : Program) (l : Launch) (e : Env) (s : State) (m : MethodId) (below : List Frame) (meth : Method) (c : Code) (b L : Nat) (xs : Nat → Int32) (G : va_G) (mi zE : Nat) (y : Nat → ClassId) (ah ad : Nat → Nat) (o0 : Nat) (cells slots : Nat) (i : Int) (hQ : LC p l s m meth c b L xs G mi zE y) (hi : 0 ≤ i ∧ i + 7 ≤ L) (hroom : cells + 40 ≤ 601024 ∧ slots + 400 ≤ 7293034) (K : LK p l e s m below meth c b L xs G mi zE y ah ad o0 (cells + 40) (slots + 400) i 1990) : LK p l e s m below meth c b L xs G mi zE y ah ad o0 cells slots i 946 := by
  intro z vN vC vNow vHaze vCold vHot vPipe vDeg cThaw vThaw vTrc vTurb vLeft vLoad vWater vTrips vMi1 vMi2 vSz vBs vThrown vMissed vBRow vBSum vCell vDirt vAim vErr vCor vBrk vTop vLm vRows vCols vDown vRight vBound vStrain vPrice vFirm vSums vTk vFl1 vFl2 vTe vAw vRo vBe vRays vFalls vSom vHad vO H locs hFA hP hD hS ls hl
  obtain ⟨hx, hb, hr, hts, hown, hml, hX0, hbl, hL, hlocks, hK, hGP, hX, hGN, hlt⟩ := hQ
  have hA : ∀ q : Nat, s.heap.size ≤ q → (fun q : Nat => s.heap.size ≤ q) q := fun _ h => h
  have hbA : ¬ (fun q : Nat => s.heap.size ≤ q) b := Nat.not_le.mpr hbl
  have hFA0 := hFA
  obtain ⟨hZ, hZe, hTk, hN, hC, hNow, hHaze, hSalt, hPipe, hDeg, hThC, hThM, hThE, hTrc, hTurb, hLeft, hLoad, hWater, hTrips, hCell, hDirt, hAim, hErr, hCor, hBrk, hTop, hLm, hRows, hCols, hDown, hRight, hBound, hStrain, hPrice, hFirm, hE0⟩ := hFA
  refine lv_aload_n hx hb dL_law_946 rfl (lv_at hl 1 rfl) ?_
  refine lv_aload_n hx hb dL_law_947 rfl (lv_at hl 0 rfl) ?_
  refine lv_iload hx hb dL_law_948 (lv_at hl 4 rfl) ?_
  refine hz_iconst hx hb dL_law_950 ?_
  refine hz_iadd hx hb dL_law_951 ?_
  refine hz_sld hx hb hX0 hbl hbA hS (by omega) (by omega) dL_law_952 ?_
  refine lv_aload_n hx hb dL_law_953 rfl (lv_at hl 0 rfl) ?_
  refine lv_iload hx hb dL_law_954 (lv_at hl 4 rfl) ?_
  refine hz_iconst hx hb dL_law_956 ?_
  refine hz_iadd hx hb dL_law_957 ?_
  refine hz_sld hx hb hX0 hbl hbA hS (by omega) (by omega) dL_law_958 ?_
  refine lv_aload_n hx hb dL_law_959 rfl (lv_at hl 3 rfl) ?_
  refine hz_lawL (As := [.ref (ah 0), zi (sc xs (i + 1)), zi (sc xs (i + 2)), .ref o0]) (rest := []) ⟨hx, hb, hml, hown, hts⟩ (c_L_bound l hlt G ah z mi zE y _ vN vC vNow vHaze vCold vHot vPipe vDeg cThaw vTrc vTurb vLeft vLoad vWater vTrips vMi1 vMi2 vSz vBs vCell vDirt vAim vErr vCor vBrk vTop vLm vRows vCols vDown vRight vBound vStrain vPrice vFirm vSums vTk vFl1 vFl2 vTe vAw vRo vBe o0 vO (sc xs (i + 1)) (sc xs (i + 2)) (sc_rng _ _) (sc_rng _ _)) (vx_cwSW 4 hts gL_law_L_bound rfl rfl rfl (by decide +kernel) ⟨Nat.le_of_ble_eq_true rfl, Nat.le_of_ble_eq_true rfl⟩) hP hK hD hS hA hGP hX hGN rfl hl.1 rfl (Nat.le_of_ble_eq_true rfl) dL_law_960 ⟨by show cells + 2 ≤ 601024; omega, by show slots + 12 ≤ 7293034; omega⟩ (fun r u H locs hu hP hD hS => ?_)
  obtain ⟨a_nBound, a_nO⟩ := u
  obtain ⟨rfl, hu⟩ := hu
  have hU := PLift.up hu
  clear hu
  refine hz_topi (fun kc hkc => ?_)
  have hP : va_P G vwCl (((hW ah z y vN vC vNow vHaze vCold vHot vPipe vDeg cThaw vTrc vTurb vLeft vLoad vWater vTrips vMi1 vMi2 vSz vBs vCell vDirt vAim vErr vCor vBrk vTop vLm vRows vCols vDown vRight a_nBound vStrain vPrice vFirm vSums vTk vFl1 vFl2 vTe vAw vRo vBe) ++ oW o0 y a_nO) ++ (mW ad y vThrown vN vC vNow vHaze vCold vHot vPipe vDeg vThaw vTrc vTurb vLeft vLoad vWater vTrips vMissed vBRow vBSum vCell vDirt vAim vErr vCor vBrk vTop vLm vRows vCols vDown vRight vBound vStrain vPrice vFirm vSums vRays vFalls vSom vHad)) H := hP
  have hD : va_D (fun q : Nat => s.heap.size ≤ q) (((hW ah z y vN vC vNow vHaze vCold vHot vPipe vDeg cThaw vTrc vTurb vLeft vLoad vWater vTrips vMi1 vMi2 vSz vBs vCell vDirt vAim vErr vCor vBrk vTop vLm vRows vCols vDown vRight a_nBound vStrain vPrice vFirm vSums vTk vFl1 vFl2 vTe vAw vRo vBe) ++ oW o0 y a_nO) ++ (mW ad y vThrown vN vC vNow vHaze vCold vHot vPipe vDeg vThaw vTrc vTurb vLeft vLoad vWater vTrips vMissed vBRow vBSum vCell vDirt vAim vErr vCor vBrk vTop vLm vRows vCols vDown vRight vBound vStrain vPrice vFirm vSums vRays vFalls vSom vHad)) := hD
  have hkr : 0 ≤ kc ∧ kc ≤ 3 := by rw [hkc]; first | omega | (split <;> (try split) <;> (try split) <;> omega)
  refine lv_istore (lv' := [(5, zi kc), (0, .ref b), (1, .ref (ah 0)), (2, .ref (ad 0)), (3, .ref o0), (4, zi i)]) hx hb dL_law_963 hl (by decide) rfl (fun ls hl => ?_)
  refine lv_aload_n hx hb dL_law_965 rfl (lv_at hl 3 rfl) ?_
  refine lv_aload_n hx hb dL_law_966 rfl (lv_at hl 1 rfl) ?_
  refine lv_iload hx hb dL_law_967 (lv_at hl 5 rfl) ?_
  refine hz_iconst hx hb dL_law_969 ?_
  refine hz_iadd hx hb dL_law_970 ?_
  refine hz_sld hx hb hX0 hbl hbA hS (by omega) (by omega) dL_law_971 ?_
  refine lv_aload_n hx hb dL_law_972 rfl (lv_at hl 1 rfl) ?_
  refine lv_iload hx hb dL_law_973 (lv_at hl 5 rfl) ?_
  refine hz_iconst hx hb dL_law_975 ?_
  refine hz_iadd hx hb dL_law_976 ?_
  refine hz_sld hx hb hX0 hbl hbA hS (by omega) (by omega) dL_law_977 ?_
  refine hz_lawMi (As := [zi (sc xs (i + 1)), zi (sc xs (i + 2))]) (rest := []) ⟨hx, hb, hml, hown, hts⟩ (c_X8_bound l G y ad _ vThrown vN vC vNow vHaze vCold vHot vPipe vDeg vThaw vTrc vTurb vLeft vLoad vWater vTrips vMissed vBRow vBSum vCell vDirt vAim vErr vCor vBrk vTop vLm vRows vCols vDown vRight vBound vStrain vPrice vFirm vSums vRays vFalls vSom vHad (sc xs (i + 1)) (sc xs (i + 2)) (sc_rng _ _) (sc_rng _ _)) (cwV 2 hts gL_law_X8_bound rfl rfl rfl (by decide +kernel) ⟨Nat.le_of_ble_eq_true rfl, Nat.le_of_ble_eq_true rfl⟩) hP hK hD hS hA 0 9 rfl rfl rfl rfl hl.1 rfl (Nat.le_of_ble_eq_true rfl) dL_law_978 ⟨by show (cells + 2) + 0 ≤ 601024; omega, by show (slots + 12) + 0 ≤ 7293034; omega⟩ (fun _ => rfl) (fun u H locs hu hP hD hS => ?_)
  obtain ⟨b_th, b_r, b_nBound⟩ := u
  have hM := PLift.up hu
  clear hu
  have hP : va_P G vwCl (((hW ah z y vN vC vNow vHaze vCold vHot vPipe vDeg cThaw vTrc vTurb vLeft vLoad vWater vTrips vMi1 vMi2 vSz vBs vCell vDirt vAim vErr vCor vBrk vTop vLm vRows vCols vDown vRight a_nBound vStrain vPrice vFirm vSums vTk vFl1 vFl2 vTe vAw vRo vBe) ++ oW o0 y a_nO) ++ (mW ad y b_th vN vC vNow vHaze vCold vHot vPipe vDeg vThaw vTrc vTurb vLeft vLoad vWater vTrips vMissed vBRow vBSum vCell vDirt vAim vErr vCor vBrk vTop vLm vRows vCols vDown vRight b_nBound vStrain vPrice vFirm vSums vRays vFalls vSom vHad)) H := hP
  have hD : va_D (fun q : Nat => s.heap.size ≤ q) (((hW ah z y vN vC vNow vHaze vCold vHot vPipe vDeg cThaw vTrc vTurb vLeft vLoad vWater vTrips vMi1 vMi2 vSz vBs vCell vDirt vAim vErr vCor vBrk vTop vLm vRows vCols vDown vRight a_nBound vStrain vPrice vFirm vSums vTk vFl1 vFl2 vTe vAw vRo vBe) ++ oW o0 y a_nO) ++ (mW ad y b_th vN vC vNow vHaze vCold vHot vPipe vDeg vThaw vTrc vTurb vLeft vLoad vWater vTrips vMissed vBRow vBSum vCell vDirt vAim vErr vCor vBrk vTop vLm vRows vCols vDown vRight b_nBound vStrain vPrice vFirm vSums vRays vFalls vSom vHad)) := hD
  have hmk : b_th = kc := (hM.down.1).trans hkc.symm
  refine lv_istore (lv' := [(6, zi b_r), (5, zi kc), (0, .ref b), (1, .ref (ah 0)), (2, .ref (ad 0)), (3, .ref o0), (4, zi i)]) hx hb dL_law_981 hl (by decide) rfl (fun ls hl => ?_)
  refine lv_aload_n hx hb dL_law_983 rfl (lv_at hl 4 rfl) ?_
  refine hz_lawMi (As := []) (rest := []) ⟨hx, hb, hml, hown, hts⟩ (c_X8_thrown l G y ad _ b_th vN vC vNow vHaze vCold vHot vPipe vDeg vThaw vTrc vTurb vLeft vLoad vWater vTrips vMissed vBRow vBSum vCell vDirt vAim vErr vCor vBrk vTop vLm vRows vCols vDown vRight b_nBound vStrain vPrice vFirm vSums vRays vFalls vSom vHad) (cwV 0 hts gL_law_X8_thrown rfl rfl rfl (by decide +kernel) ⟨Nat.le_of_ble_eq_true rfl, Nat.le_of_ble_eq_true rfl⟩) hP hK hD hS hA 0 9 rfl rfl rfl rfl hl.1 rfl (Nat.le_of_ble_eq_true rfl) dL_law_984 ⟨by show (cells + 2) + 0 ≤ 601024; omega, by show (slots + 12) + 0 ≤ 7293034; omega⟩ (fun _ => rfl) (fun u H locs hu hP hD hS => ?_)
  have hP : va_P G vwCl (((hW ah z y vN vC vNow vHaze vCold vHot vPipe vDeg cThaw vTrc vTurb vLeft vLoad vWater vTrips vMi1 vMi2 vSz vBs vCell vDirt vAim vErr vCor vBrk vTop vLm vRows vCols vDown vRight a_nBound vStrain vPrice vFirm vSums vTk vFl1 vFl2 vTe vAw vRo vBe) ++ oW o0 y a_nO) ++ (mW ad y b_th vN vC vNow vHaze vCold vHot vPipe vDeg vThaw vTrc vTurb vLeft vLoad vWater vTrips vMissed vBRow vBSum vCell vDirt vAim vErr vCor vBrk vTop vLm vRows vCols vDown vRight b_nBound vStrain vPrice vFirm vSums vRays vFalls vSom vHad)) H := hP
  have hD : va_D (fun q : Nat => s.heap.size ≤ q) (((hW ah z y vN vC vNow vHaze vCold vHot vPipe vDeg cThaw vTrc vTurb vLeft vLoad vWater vTrips vMi1 vMi2 vSz vBs vCell vDirt vAim vErr vCor vBrk vTop vLm vRows vCols vDown vRight a_nBound vStrain vPrice vFirm vSums vTk vFl1 vFl2 vTe vAw vRo vBe) ++ oW o0 y a_nO) ++ (mW ad y b_th vN vC vNow vHaze vCold vHot vPipe vDeg vThaw vTrc vTurb vLeft vLoad vWater vTrips vMissed vBRow vBSum vCell vDirt vAim vErr vCor vBrk vTop vLm vRows vCols vDown vRight b_nBound vStrain vPrice vFirm vSums vRays vFalls vSom vHad)) := hD
  refine lv_iload hx hb dL_law_987 (lv_at hl 1 rfl) ?_
  refine hz_icmp_eq (tgt := 994) hx hb dL_law_989 (by decide) (by omega) (fun _ => ?_) (fun q => absurd (by omega) q)
  refine lv_iload hx hb dL_law_994 (lv_at hl 1 rfl) ?_
  refine hz_if_ne (tgt := 1011) hx hb dL_law_996 (by decide) (by omega) (fun c1 => ?_) (fun c1 => ?_)
  · have h0 : ¬ (if ¬ (0 ≤ (sc xs (i + 1)) ∧ (sc xs (i + 1)) ≤ 5) then (1 : Int) else if ¬ (0 ≤ (sc xs (i + 2)) ∧ (sc xs (i + 2)) ≤ 9999) then 2 else 0) = 0 := fun q => c1 (hkc.trans q)
    have hPz := hP
    have hDz := hD
    have hs_nBound := (hU.down.2.1 h0).symm
    subst hs_nBound
    have ht_nBound := (hM.down.2.2.2 h0).symm
    subst ht_nBound
    have hP : va_P G vwCl (((hW ah z y vN vC vNow vHaze vCold vHot vPipe vDeg cThaw vTrc vTurb vLeft vLoad vWater vTrips vMi1 vMi2 vSz vBs vCell vDirt vAim vErr vCor vBrk vTop vLm vRows vCols vDown vRight vBound vStrain vPrice vFirm vSums vTk vFl1 vFl2 vTe vAw vRo vBe) ++ oW o0 y a_nO) ++ (mW ad y b_th vN vC vNow vHaze vCold vHot vPipe vDeg vThaw vTrc vTurb vLeft vLoad vWater vTrips vMissed vBRow vBSum vCell vDirt vAim vErr vCor vBrk vTop vLm vRows vCols vDown vRight vBound vStrain vPrice vFirm vSums vRays vFalls vSom vHad)) H := hPz
    have hD : va_D (fun q : Nat => s.heap.size ≤ q) (((hW ah z y vN vC vNow vHaze vCold vHot vPipe vDeg cThaw vTrc vTurb vLeft vLoad vWater vTrips vMi1 vMi2 vSz vBs vCell vDirt vAim vErr vCor vBrk vTop vLm vRows vCols vDown vRight vBound vStrain vPrice vFirm vSums vTk vFl1 vFl2 vTe vAw vRo vBe) ++ oW o0 y a_nO) ++ (mW ad y b_th vN vC vNow vHaze vCold vHot vPipe vDeg vThaw vTrc vTurb vLeft vLoad vWater vTrips vMissed vBRow vBSum vCell vDirt vAim vErr vCor vBrk vTop vLm vRows vCols vDown vRight vBound vStrain vPrice vFirm vSums vRays vFalls vSom vHad)) := hDz
    refine lv_goto (tgt := 1990) hx hb dL_law_1011 (by decide) ?_
    refine W.widen (k := cells + 40) (n := slots + 400) (by omega) (by omega) ?_
    exact K z vN vC vNow vHaze vCold vHot vPipe vDeg cThaw vThaw vTrc vTurb vLeft vLoad vWater vTrips vMi1 vMi2 vSz vBs b_th vMissed vBRow vBSum vCell vDirt vAim vErr vCor vBrk vTop vLm vRows vCols vDown vRight vBound vStrain vPrice vFirm vSums vTk vFl1 vFl2 vTe vAw vRo vBe vRays vFalls vSom vHad a_nO H locs hFA0 hP hD hS ls (lv_sub hl [2, 3, 4, 5, 6] rfl)
  · have h0 : (if ¬ (0 ≤ (sc xs (i + 1)) ∧ (sc xs (i + 1)) ≤ 5) then (1 : Int) else if ¬ (0 ≤ (sc xs (i + 2)) ∧ (sc xs (i + 2)) ≤ 9999) then 2 else 0) = 0 := hkc.symm.trans c1
    have hPz := hP
    have hDz := hD
    have hs_nBound := (hU.down.1 h0).symm
    subst hs_nBound
    have hout : a_nO 0 = wI (vBound (sc xs (i + 1))) := hU.down.2.2 h0
    have ht_nBound := (hM.down.2.2.1 h0).symm
    subst ht_nBound
    have hans : b_r = vBound (sc xs (i + 1)) := hM.down.2.1 h0
    have hP : va_P G vwCl (((hW ah z y vN vC vNow vHaze vCold vHot vPipe vDeg cThaw vTrc vTurb vLeft vLoad vWater vTrips vMi1 vMi2 vSz vBs vCell vDirt vAim vErr vCor vBrk vTop vLm vRows vCols vDown vRight (upZ vBound (sc xs (i + 1)) (sc xs (i + 2))) vStrain vPrice vFirm vSums vTk vFl1 vFl2 vTe vAw vRo vBe) ++ oW o0 y a_nO) ++ (mW ad y b_th vN vC vNow vHaze vCold vHot vPipe vDeg vThaw vTrc vTurb vLeft vLoad vWater vTrips vMissed vBRow vBSum vCell vDirt vAim vErr vCor vBrk vTop vLm vRows vCols vDown vRight (upZ vBound (sc xs (i + 1)) (sc xs (i + 2))) vStrain vPrice vFirm vSums vRays vFalls vSom vHad)) H := hPz
    have hD : va_D (fun q : Nat => s.heap.size ≤ q) (((hW ah z y vN vC vNow vHaze vCold vHot vPipe vDeg cThaw vTrc vTurb vLeft vLoad vWater vTrips vMi1 vMi2 vSz vBs vCell vDirt vAim vErr vCor vBrk vTop vLm vRows vCols vDown vRight (upZ vBound (sc xs (i + 1)) (sc xs (i + 2))) vStrain vPrice vFirm vSums vTk vFl1 vFl2 vTe vAw vRo vBe) ++ oW o0 y a_nO) ++ (mW ad y b_th vN vC vNow vHaze vCold vHot vPipe vDeg vThaw vTrc vTurb vLeft vLoad vWater vTrips vMissed vBRow vBSum vCell vDirt vAim vErr vCor vBrk vTop vLm vRows vCols vDown vRight (upZ vBound (sc xs (i + 1)) (sc xs (i + 2))) vStrain vPrice vFirm vSums vRays vFalls vSom vHad)) := hDz
    refine lv_aload_n hx hb dL_law_999 rfl (lv_at hl 5 rfl) ?_
    refine hz_iconst hx hb dL_law_1000 ?_
    refine hz_laldo hx hb hK hP dL_law_1001 ?_
    refine lv_iload hx hb dL_law_1002 (lv_at hl 0 rfl) ?_
    refine hz_i2lw hx hb dL_law_1004 ?_
    refine hz_lcmp hx hb dL_law_1005 (fun v hv => ?_)
    refine lv_if_eq (tgt := 1011) hx hb dL_law_1006 (by decide) (fun _ => ?_) (fun q => absurd (hv.mpr (congrArg zL (hout.trans (congrArg wI hans.symm)))) q)
    refine lv_goto (tgt := 1990) hx hb dL_law_1011 (by decide) ?_
    refine W.widen (k := cells + 40) (n := slots + 400) (by omega) (by omega) ?_
    exact K z vN vC vNow vHaze vCold vHot vPipe vDeg cThaw vThaw vTrc vTurb vLeft vLoad vWater vTrips vMi1 vMi2 vSz vBs b_th vMissed vBRow vBSum vCell vDirt vAim vErr vCor vBrk vTop vLm vRows vCols vDown vRight (upZ vBound (sc xs (i + 1)) (sc xs (i + 2))) vStrain vPrice vFirm vSums vTk vFl1 vFl2 vTe vAw vRo vBe vRays vFalls vSom vHad a_nO H locs ⟨hZ, hZe, hTk, hN, hC, hNow, hHaze, hSalt, hPipe, hDeg, hThC, hThM, hThE, hTrc, hTurb, hLeft, hLoad, hWater, hTrips, hCell, hDirt, hAim, hErr, hCor, hBrk, hTop, hLm, hRows, hCols, hDown, hRight, (show ∀ k : Int, 0 ≤ (upZ vBound (sc xs (i + 1)) (sc xs (i + 2))) k ∧ (upZ vBound (sc xs (i + 1)) (sc xs (i + 2))) k ≤ 9999 from upZ_rng hBound (by omega)), hStrain, hPrice, hFirm, hE0⟩ hP hD hS ls (lv_sub hl [2, 3, 4, 5, 6] rfl)
set_option maxHeartbeats 16000000 in
set_option maxRecDepth 100000 in
theorem lw_c13 (p : Program) (l : Launch) (e : Env) (s : State) (m : MethodId) (below : List Frame) (meth : Method) (c : Code) (b L : Nat) (xs : Nat → Int32) (G : va_G) (mi zE : Nat) (y : Nat → ClassId) (ah ad : Nat → Nat) (o0 : Nat) (cells slots : Nat) (i : Int) (hQ : LC p l s m meth c b L xs G mi zE y) (hi : 0 ≤ i ∧ i + 7 ≤ L) (hroom : cells + 40 ≤ 601024 ∧ slots + 400 ≤ 7293034) (K : LK p l e s m below meth c b L xs G mi zE y ah ad o0 (cells + 40) (slots + 400) i 1990) : LK p l e s m below meth c b L xs G mi zE y ah ad o0 cells slots i 1014 := by
  intro z vN vC vNow vHaze vCold vHot vPipe vDeg cThaw vThaw vTrc vTurb vLeft vLoad vWater vTrips vMi1 vMi2 vSz vBs vThrown vMissed vBRow vBSum vCell vDirt vAim vErr vCor vBrk vTop vLm vRows vCols vDown vRight vBound vStrain vPrice vFirm vSums vTk vFl1 vFl2 vTe vAw vRo vBe vRays vFalls vSom vHad vO H locs hFA hP hD hS ls hl
  obtain ⟨hx, hb, hr, hts, hown, hml, hX0, hbl, hL, hlocks, hK, hGP, hX, hGN, hlt⟩ := hQ
  have hA : ∀ q : Nat, s.heap.size ≤ q → (fun q : Nat => s.heap.size ≤ q) q := fun _ h => h
  have hbA : ¬ (fun q : Nat => s.heap.size ≤ q) b := Nat.not_le.mpr hbl
  have hFA0 := hFA
  obtain ⟨hZ, hZe, hTk, hN, hC, hNow, hHaze, hSalt, hPipe, hDeg, hThC, hThM, hThE, hTrc, hTurb, hLeft, hLoad, hWater, hTrips, hCell, hDirt, hAim, hErr, hCor, hBrk, hTop, hLm, hRows, hCols, hDown, hRight, hBound, hStrain, hPrice, hFirm, hE0⟩ := hFA
  refine lv_aload_n hx hb dL_law_1014 rfl (lv_at hl 1 rfl) ?_
  refine lv_aload_n hx hb dL_law_1015 rfl (lv_at hl 0 rfl) ?_
  refine lv_iload hx hb dL_law_1016 (lv_at hl 4 rfl) ?_
  refine hz_iconst hx hb dL_law_1018 ?_
  refine hz_iadd hx hb dL_law_1019 ?_
  refine hz_sld hx hb hX0 hbl hbA hS (by omega) (by omega) dL_law_1020 ?_
  refine lv_aload_n hx hb dL_law_1021 rfl (lv_at hl 3 rfl) ?_
  refine hz_lawL (As := [.ref (ah 0), zi (sc xs (i + 1)), .ref o0]) (rest := []) ⟨hx, hb, hml, hown, hts⟩ (c_L_flux l hlt G ah z mi zE y _ vN vC vNow vHaze vCold vHot vPipe vDeg cThaw vTrc vTurb vLeft vLoad vWater vTrips vMi1 vMi2 vSz vBs vCell vDirt vAim vErr vCor vBrk vTop vLm vRows vCols vDown vRight vBound vStrain vPrice vFirm vSums vTk vFl1 vFl2 vTe vAw vRo vBe o0 vO (sc xs (i + 1)) hZ hTk hN hC hNow hHaze hCell hDirt hTop hLm hRows hCols hDown hRight hAim hErr hCor (sc_rng _ _)) (vx_cwSW 3 hts gL_law_L_flux rfl rfl rfl (by decide +kernel) ⟨Nat.le_of_ble_eq_true rfl, Nat.le_of_ble_eq_true rfl⟩) hP hK hD hS hA hGP hX hGN rfl hl.1 rfl (Nat.le_of_ble_eq_true rfl) dL_law_1022 ⟨by show cells + 1 ≤ 601024; omega, by show slots + 6 ≤ 7293034; omega⟩ (fun r u H locs hu hP hD hS => ?_)
  obtain ⟨a_f, a_mi, a_nO⟩ := u
  obtain ⟨rfl, hu⟩ := hu
  have hU := PLift.up hu
  clear hu
  refine hz_topi (fun kc hkc => ?_)
  have hP : va_P G vwCl (((hW ah z y vN vC vNow vHaze vCold vHot vPipe vDeg cThaw vTrc vTurb vLeft vLoad vWater vTrips a_mi vMi2 vSz vBs vCell vDirt vAim vErr vCor vBrk vTop vLm vRows vCols vDown vRight vBound vStrain vPrice vFirm vSums vTk a_f vFl2 vTe vAw vRo vBe) ++ oW o0 y a_nO) ++ (mW ad y vThrown vN vC vNow vHaze vCold vHot vPipe vDeg vThaw vTrc vTurb vLeft vLoad vWater vTrips vMissed vBRow vBSum vCell vDirt vAim vErr vCor vBrk vTop vLm vRows vCols vDown vRight vBound vStrain vPrice vFirm vSums vRays vFalls vSom vHad)) H := hP
  have hD : va_D (fun q : Nat => s.heap.size ≤ q) (((hW ah z y vN vC vNow vHaze vCold vHot vPipe vDeg cThaw vTrc vTurb vLeft vLoad vWater vTrips a_mi vMi2 vSz vBs vCell vDirt vAim vErr vCor vBrk vTop vLm vRows vCols vDown vRight vBound vStrain vPrice vFirm vSums vTk a_f vFl2 vTe vAw vRo vBe) ++ oW o0 y a_nO) ++ (mW ad y vThrown vN vC vNow vHaze vCold vHot vPipe vDeg vThaw vTrc vTurb vLeft vLoad vWater vTrips vMissed vBRow vBSum vCell vDirt vAim vErr vCor vBrk vTop vLm vRows vCols vDown vRight vBound vStrain vPrice vFirm vSums vRays vFalls vSom vHad)) := hD
  have hkr : 0 ≤ kc ∧ kc ≤ 3 := by rw [hkc]; first | omega | (split <;> (try split) <;> (try split) <;> omega)
  refine lv_istore (lv' := [(5, zi kc), (0, .ref b), (1, .ref (ah 0)), (2, .ref (ad 0)), (3, .ref o0), (4, zi i)]) hx hb dL_law_1025 hl (by decide) rfl (fun ls hl => ?_)
  refine lv_aload_n hx hb dL_law_1027 rfl (lv_at hl 3 rfl) ?_
  refine lv_aload_n hx hb dL_law_1028 rfl (lv_at hl 1 rfl) ?_
  refine lv_iload hx hb dL_law_1029 (lv_at hl 5 rfl) ?_
  refine hz_iconst hx hb dL_law_1031 ?_
  refine hz_iadd hx hb dL_law_1032 ?_
  refine hz_sld hx hb hX0 hbl hbA hS (by omega) (by omega) dL_law_1033 ?_
  refine hz_lawMi (As := [zi (sc xs (i + 1))]) (rest := []) ⟨hx, hb, hml, hown, hts⟩ (c_X8_flux l G y ad _ vThrown vN vC vNow vHaze vCold vHot vPipe vDeg vThaw vTrc vTurb vLeft vLoad vWater vTrips vMissed vBRow vBSum vCell vDirt vAim vErr vCor vBrk vTop vLm vRows vCols vDown vRight vBound vStrain vPrice vFirm vSums vRays vFalls vSom vHad (sc xs (i + 1)) hN hC hNow hHaze hCell hDirt hTop hLm hRows hCols hDown hRight hAim hErr hCor (sc_rng _ _)) (cwV 1 hts gL_law_X8_flux rfl rfl rfl (by decide +kernel) ⟨Nat.le_of_ble_eq_true rfl, Nat.le_of_ble_eq_true rfl⟩) hP hK hD hS hA 0 9 rfl rfl rfl rfl hl.1 rfl (Nat.le_of_ble_eq_true rfl) dL_law_1034 ⟨by show (cells + 1) + 0 ≤ 601024; omega, by show (slots + 6) + 0 ≤ 7293034; omega⟩ (fun _ => rfl) (fun u H locs hu hP hD hS => ?_)
  obtain ⟨b_th, b_r, b_sRays, b_sFalls, b_sMissed⟩ := u
  have hM := PLift.up hu
  clear hu
  have hP : va_P G vwCl (((hW ah z y vN vC vNow vHaze vCold vHot vPipe vDeg cThaw vTrc vTurb vLeft vLoad vWater vTrips a_mi vMi2 vSz vBs vCell vDirt vAim vErr vCor vBrk vTop vLm vRows vCols vDown vRight vBound vStrain vPrice vFirm vSums vTk a_f vFl2 vTe vAw vRo vBe) ++ oW o0 y a_nO) ++ (mW ad y b_th vN vC vNow vHaze vCold vHot vPipe vDeg vThaw vTrc vTurb vLeft vLoad vWater vTrips b_sMissed vBRow vBSum vCell vDirt vAim vErr vCor vBrk vTop vLm vRows vCols vDown vRight vBound vStrain vPrice vFirm vSums b_sRays b_sFalls vSom vHad)) H := hP
  have hD : va_D (fun q : Nat => s.heap.size ≤ q) (((hW ah z y vN vC vNow vHaze vCold vHot vPipe vDeg cThaw vTrc vTurb vLeft vLoad vWater vTrips a_mi vMi2 vSz vBs vCell vDirt vAim vErr vCor vBrk vTop vLm vRows vCols vDown vRight vBound vStrain vPrice vFirm vSums vTk a_f vFl2 vTe vAw vRo vBe) ++ oW o0 y a_nO) ++ (mW ad y b_th vN vC vNow vHaze vCold vHot vPipe vDeg vThaw vTrc vTurb vLeft vLoad vWater vTrips b_sMissed vBRow vBSum vCell vDirt vAim vErr vCor vBrk vTop vLm vRows vCols vDown vRight vBound vStrain vPrice vFirm vSums b_sRays b_sFalls vSom vHad)) := hD
  have hmk : b_th = kc := (hM.down.1).trans hkc.symm
  refine lv_istore (lv' := [(6, zi b_r), (5, zi kc), (0, .ref b), (1, .ref (ah 0)), (2, .ref (ad 0)), (3, .ref o0), (4, zi i)]) hx hb dL_law_1037 hl (by decide) rfl (fun ls hl => ?_)
  refine lv_aload_n hx hb dL_law_1039 rfl (lv_at hl 4 rfl) ?_
  refine hz_lawMi (As := []) (rest := []) ⟨hx, hb, hml, hown, hts⟩ (c_X8_thrown l G y ad _ b_th vN vC vNow vHaze vCold vHot vPipe vDeg vThaw vTrc vTurb vLeft vLoad vWater vTrips b_sMissed vBRow vBSum vCell vDirt vAim vErr vCor vBrk vTop vLm vRows vCols vDown vRight vBound vStrain vPrice vFirm vSums b_sRays b_sFalls vSom vHad) (cwV 0 hts gL_law_X8_thrown rfl rfl rfl (by decide +kernel) ⟨Nat.le_of_ble_eq_true rfl, Nat.le_of_ble_eq_true rfl⟩) hP hK hD hS hA 0 9 rfl rfl rfl rfl hl.1 rfl (Nat.le_of_ble_eq_true rfl) dL_law_1040 ⟨by show (cells + 1) + 0 ≤ 601024; omega, by show (slots + 6) + 0 ≤ 7293034; omega⟩ (fun _ => rfl) (fun u H locs hu hP hD hS => ?_)
  have hP : va_P G vwCl (((hW ah z y vN vC vNow vHaze vCold vHot vPipe vDeg cThaw vTrc vTurb vLeft vLoad vWater vTrips a_mi vMi2 vSz vBs vCell vDirt vAim vErr vCor vBrk vTop vLm vRows vCols vDown vRight vBound vStrain vPrice vFirm vSums vTk a_f vFl2 vTe vAw vRo vBe) ++ oW o0 y a_nO) ++ (mW ad y b_th vN vC vNow vHaze vCold vHot vPipe vDeg vThaw vTrc vTurb vLeft vLoad vWater vTrips b_sMissed vBRow vBSum vCell vDirt vAim vErr vCor vBrk vTop vLm vRows vCols vDown vRight vBound vStrain vPrice vFirm vSums b_sRays b_sFalls vSom vHad)) H := hP
  have hD : va_D (fun q : Nat => s.heap.size ≤ q) (((hW ah z y vN vC vNow vHaze vCold vHot vPipe vDeg cThaw vTrc vTurb vLeft vLoad vWater vTrips a_mi vMi2 vSz vBs vCell vDirt vAim vErr vCor vBrk vTop vLm vRows vCols vDown vRight vBound vStrain vPrice vFirm vSums vTk a_f vFl2 vTe vAw vRo vBe) ++ oW o0 y a_nO) ++ (mW ad y b_th vN vC vNow vHaze vCold vHot vPipe vDeg vThaw vTrc vTurb vLeft vLoad vWater vTrips b_sMissed vBRow vBSum vCell vDirt vAim vErr vCor vBrk vTop vLm vRows vCols vDown vRight vBound vStrain vPrice vFirm vSums b_sRays b_sFalls vSom vHad)) := hD
  refine lv_iload hx hb dL_law_1043 (lv_at hl 1 rfl) ?_
  refine hz_icmp_eq (tgt := 1050) hx hb dL_law_1045 (by decide) (by omega) (fun _ => ?_) (fun q => absurd (by omega) q)
  refine lv_iload hx hb dL_law_1050 (lv_at hl 1 rfl) ?_
  refine hz_if_ne (tgt := 1067) hx hb dL_law_1052 (by decide) (by omega) (fun c1 => ?_) (fun c1 => ?_)
  · have h0 : ¬ (if ¬ (0 ≤ (sc xs (i + 1)) ∧ (sc xs (i + 1)) ≤ 5) then (1 : Int) else 0) = 0 := fun q => c1 (hkc.trans q)
    have hPz := hP
    have hDz := hD
    have hs_f := (hU.down.1 h0).symm
    subst hs_f
    have hs_mi := (hU.down.2.1 h0).symm
    subst hs_mi
    have hP : va_P G vwCl (((hW ah z y vN vC vNow vHaze vCold vHot vPipe vDeg cThaw vTrc vTurb vLeft vLoad vWater vTrips vMi1 vMi2 vSz vBs vCell vDirt vAim vErr vCor vBrk vTop vLm vRows vCols vDown vRight vBound vStrain vPrice vFirm vSums vTk vFl1 vFl2 vTe vAw vRo vBe) ++ oW o0 y a_nO) ++ (mW ad y b_th vN vC vNow vHaze vCold vHot vPipe vDeg vThaw vTrc vTurb vLeft vLoad vWater vTrips b_sMissed vBRow vBSum vCell vDirt vAim vErr vCor vBrk vTop vLm vRows vCols vDown vRight vBound vStrain vPrice vFirm vSums b_sRays b_sFalls vSom vHad)) H := hPz
    have hD : va_D (fun q : Nat => s.heap.size ≤ q) (((hW ah z y vN vC vNow vHaze vCold vHot vPipe vDeg cThaw vTrc vTurb vLeft vLoad vWater vTrips vMi1 vMi2 vSz vBs vCell vDirt vAim vErr vCor vBrk vTop vLm vRows vCols vDown vRight vBound vStrain vPrice vFirm vSums vTk vFl1 vFl2 vTe vAw vRo vBe) ++ oW o0 y a_nO) ++ (mW ad y b_th vN vC vNow vHaze vCold vHot vPipe vDeg vThaw vTrc vTurb vLeft vLoad vWater vTrips b_sMissed vBRow vBSum vCell vDirt vAim vErr vCor vBrk vTop vLm vRows vCols vDown vRight vBound vStrain vPrice vFirm vSums b_sRays b_sFalls vSom vHad)) := hDz
    refine lv_goto (tgt := 1990) hx hb dL_law_1067 (by decide) ?_
    refine W.widen (k := cells + 40) (n := slots + 400) (by omega) (by omega) ?_
    exact K z vN vC vNow vHaze vCold vHot vPipe vDeg cThaw vThaw vTrc vTurb vLeft vLoad vWater vTrips vMi1 vMi2 vSz vBs b_th b_sMissed vBRow vBSum vCell vDirt vAim vErr vCor vBrk vTop vLm vRows vCols vDown vRight vBound vStrain vPrice vFirm vSums vTk vFl1 vFl2 vTe vAw vRo vBe b_sRays b_sFalls vSom vHad a_nO H locs hFA0 hP hD hS ls (lv_sub hl [2, 3, 4, 5, 6] rfl)
  · have h0 : (if ¬ (0 ≤ (sc xs (i + 1)) ∧ (sc xs (i + 1)) ≤ 5) then (1 : Int) else 0) = 0 := hkc.symm.trans c1
    have hPz := hP
    have hDz := hD
    have hout : a_nO 0 = wI ((flZ vN vAim vErr vCor (ryZ vN vC vNow vHaze vCell vDirt vTop vLm vRows vCols vDown vRight) (-1) 0) (sc xs (i + 1))) := hU.down.2.2 h0
    have hans : b_r = (flZ vN vAim vErr vCor (ryZ vN vC vNow vHaze vCell vDirt vTop vLm vRows vCols vDown vRight) (-1) 0) (sc xs (i + 1)) := hM.down.2 h0
    have hP : va_P G vwCl (((hW ah z y vN vC vNow vHaze vCold vHot vPipe vDeg cThaw vTrc vTurb vLeft vLoad vWater vTrips a_mi vMi2 vSz vBs vCell vDirt vAim vErr vCor vBrk vTop vLm vRows vCols vDown vRight vBound vStrain vPrice vFirm vSums vTk a_f vFl2 vTe vAw vRo vBe) ++ oW o0 y a_nO) ++ (mW ad y b_th vN vC vNow vHaze vCold vHot vPipe vDeg vThaw vTrc vTurb vLeft vLoad vWater vTrips b_sMissed vBRow vBSum vCell vDirt vAim vErr vCor vBrk vTop vLm vRows vCols vDown vRight vBound vStrain vPrice vFirm vSums b_sRays b_sFalls vSom vHad)) H := hPz
    have hD : va_D (fun q : Nat => s.heap.size ≤ q) (((hW ah z y vN vC vNow vHaze vCold vHot vPipe vDeg cThaw vTrc vTurb vLeft vLoad vWater vTrips a_mi vMi2 vSz vBs vCell vDirt vAim vErr vCor vBrk vTop vLm vRows vCols vDown vRight vBound vStrain vPrice vFirm vSums vTk a_f vFl2 vTe vAw vRo vBe) ++ oW o0 y a_nO) ++ (mW ad y b_th vN vC vNow vHaze vCold vHot vPipe vDeg vThaw vTrc vTurb vLeft vLoad vWater vTrips b_sMissed vBRow vBSum vCell vDirt vAim vErr vCor vBrk vTop vLm vRows vCols vDown vRight vBound vStrain vPrice vFirm vSums b_sRays b_sFalls vSom vHad)) := hDz
    refine lv_aload_n hx hb dL_law_1055 rfl (lv_at hl 5 rfl) ?_
    refine hz_iconst hx hb dL_law_1056 ?_
    refine hz_laldo hx hb hK hP dL_law_1057 ?_
    refine lv_iload hx hb dL_law_1058 (lv_at hl 0 rfl) ?_
    refine hz_i2lw hx hb dL_law_1060 ?_
    refine hz_lcmp hx hb dL_law_1061 (fun v hv => ?_)
    refine lv_if_eq (tgt := 1067) hx hb dL_law_1062 (by decide) (fun _ => ?_) (fun q => absurd (hv.mpr (congrArg zL (hout.trans (congrArg wI hans.symm)))) q)
    refine lv_goto (tgt := 1990) hx hb dL_law_1067 (by decide) ?_
    refine W.widen (k := cells + 40) (n := slots + 400) (by omega) (by omega) ?_
    exact K z vN vC vNow vHaze vCold vHot vPipe vDeg cThaw vThaw vTrc vTurb vLeft vLoad vWater vTrips a_mi vMi2 vSz vBs b_th b_sMissed vBRow vBSum vCell vDirt vAim vErr vCor vBrk vTop vLm vRows vCols vDown vRight vBound vStrain vPrice vFirm vSums vTk a_f vFl2 vTe vAw vRo vBe b_sRays b_sFalls vSom vHad a_nO H locs hFA0 hP hD hS ls (lv_sub hl [2, 3, 4, 5, 6] rfl)
set_option maxHeartbeats 16000000 in
set_option maxRecDepth 100000 in
theorem lw_c14 (p : Program) (l : Launch) (e : Env) (s : State) (m : MethodId) (below : List Frame) (meth : Method) (c : Code) (b L : Nat) (xs : Nat → Int32) (G : va_G) (mi zE : Nat) (y : Nat → ClassId) (ah ad : Nat → Nat) (o0 : Nat) (cells slots : Nat) (i : Int) (hQ : LC p l s m meth c b L xs G mi zE y) (hi : 0 ≤ i ∧ i + 7 ≤ L) (hroom : cells + 40 ≤ 601024 ∧ slots + 400 ≤ 7293034) (K : LK p l e s m below meth c b L xs G mi zE y ah ad o0 (cells + 40) (slots + 400) i 1990) : LK p l e s m below meth c b L xs G mi zE y ah ad o0 cells slots i 1070 := by
  intro z vN vC vNow vHaze vCold vHot vPipe vDeg cThaw vThaw vTrc vTurb vLeft vLoad vWater vTrips vMi1 vMi2 vSz vBs vThrown vMissed vBRow vBSum vCell vDirt vAim vErr vCor vBrk vTop vLm vRows vCols vDown vRight vBound vStrain vPrice vFirm vSums vTk vFl1 vFl2 vTe vAw vRo vBe vRays vFalls vSom vHad vO H locs hFA hP hD hS ls hl
  obtain ⟨hx, hb, hr, hts, hown, hml, hX0, hbl, hL, hlocks, hK, hGP, hX, hGN, hlt⟩ := hQ
  have hA : ∀ q : Nat, s.heap.size ≤ q → (fun q : Nat => s.heap.size ≤ q) q := fun _ h => h
  have hbA : ¬ (fun q : Nat => s.heap.size ≤ q) b := Nat.not_le.mpr hbl
  have hFA0 := hFA
  obtain ⟨hZ, hZe, hTk, hN, hC, hNow, hHaze, hSalt, hPipe, hDeg, hThC, hThM, hThE, hTrc, hTurb, hLeft, hLoad, hWater, hTrips, hCell, hDirt, hAim, hErr, hCor, hBrk, hTop, hLm, hRows, hCols, hDown, hRight, hBound, hStrain, hPrice, hFirm, hE0⟩ := hFA
  refine lv_aload_n hx hb dL_law_1070 rfl (lv_at hl 1 rfl) ?_
  refine lv_aload_n hx hb dL_law_1071 rfl (lv_at hl 0 rfl) ?_
  refine lv_iload hx hb dL_law_1072 (lv_at hl 4 rfl) ?_
  refine hz_iconst hx hb dL_law_1074 ?_
  refine hz_iadd hx hb dL_law_1075 ?_
  refine hz_sld hx hb hX0 hbl hbA hS (by omega) (by omega) dL_law_1076 ?_
  refine lv_aload_n hx hb dL_law_1077 rfl (lv_at hl 3 rfl) ?_
  refine hz_lawL (As := [.ref (ah 0), zi (sc xs (i + 1)), .ref o0]) (rest := []) ⟨hx, hb, hml, hown, hts⟩ (c_L_fluxAnew l hlt G ah z mi zE y _ vN vC vNow vHaze vCold vHot vPipe vDeg cThaw vTrc vTurb vLeft vLoad vWater vTrips vMi1 vMi2 vSz vBs vCell vDirt vAim vErr vCor vBrk vTop vLm vRows vCols vDown vRight vBound vStrain vPrice vFirm vSums vTk vFl1 vFl2 vTe vAw vRo vBe o0 vO (sc xs (i + 1)) hZ hTk hN hC hNow hHaze hCell hDirt hTop hLm hRows hCols hDown hRight hAim hErr hCor (sc_rng _ _)) (vx_cwSW 3 hts gL_law_L_fluxAnew rfl rfl rfl (by decide +kernel) ⟨Nat.le_of_ble_eq_true rfl, Nat.le_of_ble_eq_true rfl⟩) hP hK hD hS hA hGP hX hGN rfl hl.1 rfl (Nat.le_of_ble_eq_true rfl) dL_law_1078 ⟨by show cells + 1 ≤ 601024; omega, by show slots + 6 ≤ 7293034; omega⟩ (fun r u H locs hu hP hD hS => ?_)
  obtain ⟨a_nO, heq9⟩ : ∃ z9, z9 = u := ⟨_, rfl⟩
  subst heq9
  obtain ⟨rfl, hu⟩ := hu
  have hU := PLift.up hu
  clear hu
  refine hz_topi (fun kc hkc => ?_)
  have hP : va_P G vwCl (((hW ah z y vN vC vNow vHaze vCold vHot vPipe vDeg cThaw vTrc vTurb vLeft vLoad vWater vTrips vMi1 vMi2 vSz vBs vCell vDirt vAim vErr vCor vBrk vTop vLm vRows vCols vDown vRight vBound vStrain vPrice vFirm vSums vTk vFl1 vFl2 vTe vAw vRo vBe) ++ oW o0 y a_nO) ++ (mW ad y vThrown vN vC vNow vHaze vCold vHot vPipe vDeg vThaw vTrc vTurb vLeft vLoad vWater vTrips vMissed vBRow vBSum vCell vDirt vAim vErr vCor vBrk vTop vLm vRows vCols vDown vRight vBound vStrain vPrice vFirm vSums vRays vFalls vSom vHad)) H := hP
  have hD : va_D (fun q : Nat => s.heap.size ≤ q) (((hW ah z y vN vC vNow vHaze vCold vHot vPipe vDeg cThaw vTrc vTurb vLeft vLoad vWater vTrips vMi1 vMi2 vSz vBs vCell vDirt vAim vErr vCor vBrk vTop vLm vRows vCols vDown vRight vBound vStrain vPrice vFirm vSums vTk vFl1 vFl2 vTe vAw vRo vBe) ++ oW o0 y a_nO) ++ (mW ad y vThrown vN vC vNow vHaze vCold vHot vPipe vDeg vThaw vTrc vTurb vLeft vLoad vWater vTrips vMissed vBRow vBSum vCell vDirt vAim vErr vCor vBrk vTop vLm vRows vCols vDown vRight vBound vStrain vPrice vFirm vSums vRays vFalls vSom vHad)) := hD
  have hkr : 0 ≤ kc ∧ kc ≤ 3 := by rw [hkc]; first | omega | (split <;> (try split) <;> (try split) <;> omega)
  refine lv_istore (lv' := [(5, zi kc), (0, .ref b), (1, .ref (ah 0)), (2, .ref (ad 0)), (3, .ref o0), (4, zi i)]) hx hb dL_law_1081 hl (by decide) rfl (fun ls hl => ?_)
  refine lv_aload_n hx hb dL_law_1083 rfl (lv_at hl 3 rfl) ?_
  refine lv_aload_n hx hb dL_law_1084 rfl (lv_at hl 1 rfl) ?_
  refine lv_iload hx hb dL_law_1085 (lv_at hl 5 rfl) ?_
  refine hz_iconst hx hb dL_law_1087 ?_
  refine hz_iadd hx hb dL_law_1088 ?_
  refine hz_sld hx hb hX0 hbl hbA hS (by omega) (by omega) dL_law_1089 ?_
  refine hz_lawMi (As := [zi (sc xs (i + 1))]) (rest := []) ⟨hx, hb, hml, hown, hts⟩ (c_X8_fluxAnew l G y ad _ vThrown vN vC vNow vHaze vCold vHot vPipe vDeg vThaw vTrc vTurb vLeft vLoad vWater vTrips vMissed vBRow vBSum vCell vDirt vAim vErr vCor vBrk vTop vLm vRows vCols vDown vRight vBound vStrain vPrice vFirm vSums vRays vFalls vSom vHad (sc xs (i + 1)) hN hC hNow hHaze hCell hDirt hTop hLm hRows hCols hDown hRight hAim hErr hCor (sc_rng _ _)) (cwV 1 hts gL_law_X8_fluxAnew rfl rfl rfl (by decide +kernel) ⟨Nat.le_of_ble_eq_true rfl, Nat.le_of_ble_eq_true rfl⟩) hP hK hD hS hA 0 9 rfl rfl rfl rfl hl.1 rfl (Nat.le_of_ble_eq_true rfl) dL_law_1090 ⟨by show (cells + 1) + 0 ≤ 601024; omega, by show (slots + 6) + 0 ≤ 7293034; omega⟩ (fun _ => rfl) (fun u H locs hu hP hD hS => ?_)
  obtain ⟨b_th, b_r, b_sRays, b_sFalls, b_sMissed⟩ := u
  have hM := PLift.up hu
  clear hu
  have hP : va_P G vwCl (((hW ah z y vN vC vNow vHaze vCold vHot vPipe vDeg cThaw vTrc vTurb vLeft vLoad vWater vTrips vMi1 vMi2 vSz vBs vCell vDirt vAim vErr vCor vBrk vTop vLm vRows vCols vDown vRight vBound vStrain vPrice vFirm vSums vTk vFl1 vFl2 vTe vAw vRo vBe) ++ oW o0 y a_nO) ++ (mW ad y b_th vN vC vNow vHaze vCold vHot vPipe vDeg vThaw vTrc vTurb vLeft vLoad vWater vTrips b_sMissed vBRow vBSum vCell vDirt vAim vErr vCor vBrk vTop vLm vRows vCols vDown vRight vBound vStrain vPrice vFirm vSums b_sRays b_sFalls vSom vHad)) H := hP
  have hD : va_D (fun q : Nat => s.heap.size ≤ q) (((hW ah z y vN vC vNow vHaze vCold vHot vPipe vDeg cThaw vTrc vTurb vLeft vLoad vWater vTrips vMi1 vMi2 vSz vBs vCell vDirt vAim vErr vCor vBrk vTop vLm vRows vCols vDown vRight vBound vStrain vPrice vFirm vSums vTk vFl1 vFl2 vTe vAw vRo vBe) ++ oW o0 y a_nO) ++ (mW ad y b_th vN vC vNow vHaze vCold vHot vPipe vDeg vThaw vTrc vTurb vLeft vLoad vWater vTrips b_sMissed vBRow vBSum vCell vDirt vAim vErr vCor vBrk vTop vLm vRows vCols vDown vRight vBound vStrain vPrice vFirm vSums b_sRays b_sFalls vSom vHad)) := hD
  have hmk : b_th = kc := (hM.down.1).trans hkc.symm
  refine lv_istore (lv' := [(6, zi b_r), (5, zi kc), (0, .ref b), (1, .ref (ah 0)), (2, .ref (ad 0)), (3, .ref o0), (4, zi i)]) hx hb dL_law_1093 hl (by decide) rfl (fun ls hl => ?_)
  refine lv_aload_n hx hb dL_law_1095 rfl (lv_at hl 4 rfl) ?_
  refine hz_lawMi (As := []) (rest := []) ⟨hx, hb, hml, hown, hts⟩ (c_X8_thrown l G y ad _ b_th vN vC vNow vHaze vCold vHot vPipe vDeg vThaw vTrc vTurb vLeft vLoad vWater vTrips b_sMissed vBRow vBSum vCell vDirt vAim vErr vCor vBrk vTop vLm vRows vCols vDown vRight vBound vStrain vPrice vFirm vSums b_sRays b_sFalls vSom vHad) (cwV 0 hts gL_law_X8_thrown rfl rfl rfl (by decide +kernel) ⟨Nat.le_of_ble_eq_true rfl, Nat.le_of_ble_eq_true rfl⟩) hP hK hD hS hA 0 9 rfl rfl rfl rfl hl.1 rfl (Nat.le_of_ble_eq_true rfl) dL_law_1096 ⟨by show (cells + 1) + 0 ≤ 601024; omega, by show (slots + 6) + 0 ≤ 7293034; omega⟩ (fun _ => rfl) (fun u H locs hu hP hD hS => ?_)
  have hP : va_P G vwCl (((hW ah z y vN vC vNow vHaze vCold vHot vPipe vDeg cThaw vTrc vTurb vLeft vLoad vWater vTrips vMi1 vMi2 vSz vBs vCell vDirt vAim vErr vCor vBrk vTop vLm vRows vCols vDown vRight vBound vStrain vPrice vFirm vSums vTk vFl1 vFl2 vTe vAw vRo vBe) ++ oW o0 y a_nO) ++ (mW ad y b_th vN vC vNow vHaze vCold vHot vPipe vDeg vThaw vTrc vTurb vLeft vLoad vWater vTrips b_sMissed vBRow vBSum vCell vDirt vAim vErr vCor vBrk vTop vLm vRows vCols vDown vRight vBound vStrain vPrice vFirm vSums b_sRays b_sFalls vSom vHad)) H := hP
  have hD : va_D (fun q : Nat => s.heap.size ≤ q) (((hW ah z y vN vC vNow vHaze vCold vHot vPipe vDeg cThaw vTrc vTurb vLeft vLoad vWater vTrips vMi1 vMi2 vSz vBs vCell vDirt vAim vErr vCor vBrk vTop vLm vRows vCols vDown vRight vBound vStrain vPrice vFirm vSums vTk vFl1 vFl2 vTe vAw vRo vBe) ++ oW o0 y a_nO) ++ (mW ad y b_th vN vC vNow vHaze vCold vHot vPipe vDeg vThaw vTrc vTurb vLeft vLoad vWater vTrips b_sMissed vBRow vBSum vCell vDirt vAim vErr vCor vBrk vTop vLm vRows vCols vDown vRight vBound vStrain vPrice vFirm vSums b_sRays b_sFalls vSom vHad)) := hD
  refine lv_iload hx hb dL_law_1099 (lv_at hl 1 rfl) ?_
  refine hz_icmp_eq (tgt := 1106) hx hb dL_law_1101 (by decide) (by omega) (fun _ => ?_) (fun q => absurd (by omega) q)
  refine lv_iload hx hb dL_law_1106 (lv_at hl 1 rfl) ?_
  refine hz_if_ne (tgt := 1123) hx hb dL_law_1108 (by decide) (by omega) (fun c1 => ?_) (fun c1 => ?_)
  · have h0 : ¬ (if ¬ (0 ≤ (sc xs (i + 1)) ∧ (sc xs (i + 1)) ≤ 5) then (1 : Int) else 0) = 0 := fun q => c1 (hkc.trans q)
    have hPz := hP
    have hDz := hD
    have hP : va_P G vwCl (((hW ah z y vN vC vNow vHaze vCold vHot vPipe vDeg cThaw vTrc vTurb vLeft vLoad vWater vTrips vMi1 vMi2 vSz vBs vCell vDirt vAim vErr vCor vBrk vTop vLm vRows vCols vDown vRight vBound vStrain vPrice vFirm vSums vTk vFl1 vFl2 vTe vAw vRo vBe) ++ oW o0 y a_nO) ++ (mW ad y b_th vN vC vNow vHaze vCold vHot vPipe vDeg vThaw vTrc vTurb vLeft vLoad vWater vTrips b_sMissed vBRow vBSum vCell vDirt vAim vErr vCor vBrk vTop vLm vRows vCols vDown vRight vBound vStrain vPrice vFirm vSums b_sRays b_sFalls vSom vHad)) H := hPz
    have hD : va_D (fun q : Nat => s.heap.size ≤ q) (((hW ah z y vN vC vNow vHaze vCold vHot vPipe vDeg cThaw vTrc vTurb vLeft vLoad vWater vTrips vMi1 vMi2 vSz vBs vCell vDirt vAim vErr vCor vBrk vTop vLm vRows vCols vDown vRight vBound vStrain vPrice vFirm vSums vTk vFl1 vFl2 vTe vAw vRo vBe) ++ oW o0 y a_nO) ++ (mW ad y b_th vN vC vNow vHaze vCold vHot vPipe vDeg vThaw vTrc vTurb vLeft vLoad vWater vTrips b_sMissed vBRow vBSum vCell vDirt vAim vErr vCor vBrk vTop vLm vRows vCols vDown vRight vBound vStrain vPrice vFirm vSums b_sRays b_sFalls vSom vHad)) := hDz
    refine lv_goto (tgt := 1990) hx hb dL_law_1123 (by decide) ?_
    refine W.widen (k := cells + 40) (n := slots + 400) (by omega) (by omega) ?_
    exact K z vN vC vNow vHaze vCold vHot vPipe vDeg cThaw vThaw vTrc vTurb vLeft vLoad vWater vTrips vMi1 vMi2 vSz vBs b_th b_sMissed vBRow vBSum vCell vDirt vAim vErr vCor vBrk vTop vLm vRows vCols vDown vRight vBound vStrain vPrice vFirm vSums vTk vFl1 vFl2 vTe vAw vRo vBe b_sRays b_sFalls vSom vHad a_nO H locs hFA0 hP hD hS ls (lv_sub hl [2, 3, 4, 5, 6] rfl)
  · have h0 : (if ¬ (0 ≤ (sc xs (i + 1)) ∧ (sc xs (i + 1)) ≤ 5) then (1 : Int) else 0) = 0 := hkc.symm.trans c1
    have hPz := hP
    have hDz := hD
    have hout : a_nO 0 = wI ((flZ vN vAim vErr vCor (ryZ vN vC vNow vHaze vCell vDirt vTop vLm vRows vCols vDown vRight) (-1) 0) (sc xs (i + 1))) := hU.down h0
    have hans : b_r = (flZ vN vAim vErr vCor (ryZ vN vC vNow vHaze vCell vDirt vTop vLm vRows vCols vDown vRight) (-1) 0) (sc xs (i + 1)) := hM.down.2 h0
    have hP : va_P G vwCl (((hW ah z y vN vC vNow vHaze vCold vHot vPipe vDeg cThaw vTrc vTurb vLeft vLoad vWater vTrips vMi1 vMi2 vSz vBs vCell vDirt vAim vErr vCor vBrk vTop vLm vRows vCols vDown vRight vBound vStrain vPrice vFirm vSums vTk vFl1 vFl2 vTe vAw vRo vBe) ++ oW o0 y a_nO) ++ (mW ad y b_th vN vC vNow vHaze vCold vHot vPipe vDeg vThaw vTrc vTurb vLeft vLoad vWater vTrips b_sMissed vBRow vBSum vCell vDirt vAim vErr vCor vBrk vTop vLm vRows vCols vDown vRight vBound vStrain vPrice vFirm vSums b_sRays b_sFalls vSom vHad)) H := hPz
    have hD : va_D (fun q : Nat => s.heap.size ≤ q) (((hW ah z y vN vC vNow vHaze vCold vHot vPipe vDeg cThaw vTrc vTurb vLeft vLoad vWater vTrips vMi1 vMi2 vSz vBs vCell vDirt vAim vErr vCor vBrk vTop vLm vRows vCols vDown vRight vBound vStrain vPrice vFirm vSums vTk vFl1 vFl2 vTe vAw vRo vBe) ++ oW o0 y a_nO) ++ (mW ad y b_th vN vC vNow vHaze vCold vHot vPipe vDeg vThaw vTrc vTurb vLeft vLoad vWater vTrips b_sMissed vBRow vBSum vCell vDirt vAim vErr vCor vBrk vTop vLm vRows vCols vDown vRight vBound vStrain vPrice vFirm vSums b_sRays b_sFalls vSom vHad)) := hDz
    refine lv_aload_n hx hb dL_law_1111 rfl (lv_at hl 5 rfl) ?_
    refine hz_iconst hx hb dL_law_1112 ?_
    refine hz_laldo hx hb hK hP dL_law_1113 ?_
    refine lv_iload hx hb dL_law_1114 (lv_at hl 0 rfl) ?_
    refine hz_i2lw hx hb dL_law_1116 ?_
    refine hz_lcmp hx hb dL_law_1117 (fun v hv => ?_)
    refine lv_if_eq (tgt := 1123) hx hb dL_law_1118 (by decide) (fun _ => ?_) (fun q => absurd (hv.mpr (congrArg zL (hout.trans (congrArg wI hans.symm)))) q)
    refine lv_goto (tgt := 1990) hx hb dL_law_1123 (by decide) ?_
    refine W.widen (k := cells + 40) (n := slots + 400) (by omega) (by omega) ?_
    exact K z vN vC vNow vHaze vCold vHot vPipe vDeg cThaw vThaw vTrc vTurb vLeft vLoad vWater vTrips vMi1 vMi2 vSz vBs b_th b_sMissed vBRow vBSum vCell vDirt vAim vErr vCor vBrk vTop vLm vRows vCols vDown vRight vBound vStrain vPrice vFirm vSums vTk vFl1 vFl2 vTe vAw vRo vBe b_sRays b_sFalls vSom vHad a_nO H locs hFA0 hP hD hS ls (lv_sub hl [2, 3, 4, 5, 6] rfl)
set_option maxHeartbeats 16000000 in
set_option maxRecDepth 100000 in
theorem lw_c15 (p : Program) (l : Launch) (e : Env) (s : State) (m : MethodId) (below : List Frame) (meth : Method) (c : Code) (b L : Nat) (xs : Nat → Int32) (G : va_G) (mi zE : Nat) (y : Nat → ClassId) (ah ad : Nat → Nat) (o0 : Nat) (cells slots : Nat) (i : Int) (hQ : LC p l s m meth c b L xs G mi zE y) (hi : 0 ≤ i ∧ i + 7 ≤ L) (hroom : cells + 40 ≤ 601024 ∧ slots + 400 ≤ 7293034) (K : LK p l e s m below meth c b L xs G mi zE y ah ad o0 (cells + 40) (slots + 400) i 1990) : LK p l e s m below meth c b L xs G mi zE y ah ad o0 cells slots i 1126 := by
  intro z vN vC vNow vHaze vCold vHot vPipe vDeg cThaw vThaw vTrc vTurb vLeft vLoad vWater vTrips vMi1 vMi2 vSz vBs vThrown vMissed vBRow vBSum vCell vDirt vAim vErr vCor vBrk vTop vLm vRows vCols vDown vRight vBound vStrain vPrice vFirm vSums vTk vFl1 vFl2 vTe vAw vRo vBe vRays vFalls vSom vHad vO H locs hFA hP hD hS ls hl
  obtain ⟨hx, hb, hr, hts, hown, hml, hX0, hbl, hL, hlocks, hK, hGP, hX, hGN, hlt⟩ := hQ
  have hA : ∀ q : Nat, s.heap.size ≤ q → (fun q : Nat => s.heap.size ≤ q) q := fun _ h => h
  have hbA : ¬ (fun q : Nat => s.heap.size ≤ q) b := Nat.not_le.mpr hbl
  have hFA0 := hFA
  obtain ⟨hZ, hZe, hTk, hN, hC, hNow, hHaze, hSalt, hPipe, hDeg, hThC, hThM, hThE, hTrc, hTurb, hLeft, hLoad, hWater, hTrips, hCell, hDirt, hAim, hErr, hCor, hBrk, hTop, hLm, hRows, hCols, hDown, hRight, hBound, hStrain, hPrice, hFirm, hE0⟩ := hFA
  refine lv_aload_n hx hb dL_law_1126 rfl (lv_at hl 1 rfl) ?_
  refine lv_aload_n hx hb dL_law_1127 rfl (lv_at hl 0 rfl) ?_
  refine lv_iload hx hb dL_law_1128 (lv_at hl 4 rfl) ?_
  refine hz_iconst hx hb dL_law_1130 ?_
  refine hz_iadd hx hb dL_law_1131 ?_
  refine hz_sld hx hb hX0 hbl hbA hS (by omega) (by omega) dL_law_1132 ?_
  refine lv_aload_n hx hb dL_law_1133 rfl (lv_at hl 3 rfl) ?_
  refine hz_lawL (As := [.ref (ah 0), zi (sc xs (i + 1)), .ref o0]) (rest := []) ⟨hx, hb, hml, hown, hts⟩ (c_L_strain l hlt G ah z mi zE y _ vN vC vNow vHaze vCold vHot vPipe vDeg cThaw vTrc vTurb vLeft vLoad vWater vTrips vMi1 vMi2 vSz vBs vCell vDirt vAim vErr vCor vBrk vTop vLm vRows vCols vDown vRight vBound vStrain vPrice vFirm vSums vTk vFl1 vFl2 vTe vAw vRo vBe o0 vO (sc xs (i + 1)) (sc_rng _ _)) (vx_cwSW 3 hts gL_law_L_strain rfl rfl rfl (by decide +kernel) ⟨Nat.le_of_ble_eq_true rfl, Nat.le_of_ble_eq_true rfl⟩) hP hK hD hS hA hGP hX hGN rfl hl.1 rfl (Nat.le_of_ble_eq_true rfl) dL_law_1134 ⟨by show cells + 1 ≤ 601024; omega, by show slots + 6 ≤ 7293034; omega⟩ (fun r u H locs hu hP hD hS => ?_)
  obtain ⟨a_nO, heq9⟩ : ∃ z9, z9 = u := ⟨_, rfl⟩
  subst heq9
  obtain ⟨rfl, hu⟩ := hu
  have hU := PLift.up hu
  clear hu
  refine hz_topi (fun kc hkc => ?_)
  have hP : va_P G vwCl (((hW ah z y vN vC vNow vHaze vCold vHot vPipe vDeg cThaw vTrc vTurb vLeft vLoad vWater vTrips vMi1 vMi2 vSz vBs vCell vDirt vAim vErr vCor vBrk vTop vLm vRows vCols vDown vRight vBound vStrain vPrice vFirm vSums vTk vFl1 vFl2 vTe vAw vRo vBe) ++ oW o0 y a_nO) ++ (mW ad y vThrown vN vC vNow vHaze vCold vHot vPipe vDeg vThaw vTrc vTurb vLeft vLoad vWater vTrips vMissed vBRow vBSum vCell vDirt vAim vErr vCor vBrk vTop vLm vRows vCols vDown vRight vBound vStrain vPrice vFirm vSums vRays vFalls vSom vHad)) H := hP
  have hD : va_D (fun q : Nat => s.heap.size ≤ q) (((hW ah z y vN vC vNow vHaze vCold vHot vPipe vDeg cThaw vTrc vTurb vLeft vLoad vWater vTrips vMi1 vMi2 vSz vBs vCell vDirt vAim vErr vCor vBrk vTop vLm vRows vCols vDown vRight vBound vStrain vPrice vFirm vSums vTk vFl1 vFl2 vTe vAw vRo vBe) ++ oW o0 y a_nO) ++ (mW ad y vThrown vN vC vNow vHaze vCold vHot vPipe vDeg vThaw vTrc vTurb vLeft vLoad vWater vTrips vMissed vBRow vBSum vCell vDirt vAim vErr vCor vBrk vTop vLm vRows vCols vDown vRight vBound vStrain vPrice vFirm vSums vRays vFalls vSom vHad)) := hD
  have hkr : 0 ≤ kc ∧ kc ≤ 3 := by rw [hkc]; first | omega | (split <;> (try split) <;> (try split) <;> omega)
  refine lv_istore (lv' := [(5, zi kc), (0, .ref b), (1, .ref (ah 0)), (2, .ref (ad 0)), (3, .ref o0), (4, zi i)]) hx hb dL_law_1137 hl (by decide) rfl (fun ls hl => ?_)
  refine lv_aload_n hx hb dL_law_1139 rfl (lv_at hl 3 rfl) ?_
  refine lv_aload_n hx hb dL_law_1140 rfl (lv_at hl 1 rfl) ?_
  refine lv_iload hx hb dL_law_1141 (lv_at hl 5 rfl) ?_
  refine hz_iconst hx hb dL_law_1143 ?_
  refine hz_iadd hx hb dL_law_1144 ?_
  refine hz_sld hx hb hX0 hbl hbA hS (by omega) (by omega) dL_law_1145 ?_
  refine hz_lawMi (As := [zi (sc xs (i + 1))]) (rest := []) ⟨hx, hb, hml, hown, hts⟩ (c_X8_strain l G y ad _ vThrown vN vC vNow vHaze vCold vHot vPipe vDeg vThaw vTrc vTurb vLeft vLoad vWater vTrips vMissed vBRow vBSum vCell vDirt vAim vErr vCor vBrk vTop vLm vRows vCols vDown vRight vBound vStrain vPrice vFirm vSums vRays vFalls vSom vHad (sc xs (i + 1)) (sc_rng _ _)) (cwV 1 hts gL_law_X8_strain rfl rfl rfl (by decide +kernel) ⟨Nat.le_of_ble_eq_true rfl, Nat.le_of_ble_eq_true rfl⟩) hP hK hD hS hA 0 9 rfl rfl rfl rfl hl.1 rfl (Nat.le_of_ble_eq_true rfl) dL_law_1146 ⟨by show (cells + 1) + 0 ≤ 601024; omega, by show (slots + 6) + 0 ≤ 7293034; omega⟩ (fun _ => rfl) (fun u H locs hu hP hD hS => ?_)
  obtain ⟨b_th, b_r⟩ := u
  have hM := PLift.up hu
  clear hu
  have hP : va_P G vwCl (((hW ah z y vN vC vNow vHaze vCold vHot vPipe vDeg cThaw vTrc vTurb vLeft vLoad vWater vTrips vMi1 vMi2 vSz vBs vCell vDirt vAim vErr vCor vBrk vTop vLm vRows vCols vDown vRight vBound vStrain vPrice vFirm vSums vTk vFl1 vFl2 vTe vAw vRo vBe) ++ oW o0 y a_nO) ++ (mW ad y b_th vN vC vNow vHaze vCold vHot vPipe vDeg vThaw vTrc vTurb vLeft vLoad vWater vTrips vMissed vBRow vBSum vCell vDirt vAim vErr vCor vBrk vTop vLm vRows vCols vDown vRight vBound vStrain vPrice vFirm vSums vRays vFalls vSom vHad)) H := hP
  have hD : va_D (fun q : Nat => s.heap.size ≤ q) (((hW ah z y vN vC vNow vHaze vCold vHot vPipe vDeg cThaw vTrc vTurb vLeft vLoad vWater vTrips vMi1 vMi2 vSz vBs vCell vDirt vAim vErr vCor vBrk vTop vLm vRows vCols vDown vRight vBound vStrain vPrice vFirm vSums vTk vFl1 vFl2 vTe vAw vRo vBe) ++ oW o0 y a_nO) ++ (mW ad y b_th vN vC vNow vHaze vCold vHot vPipe vDeg vThaw vTrc vTurb vLeft vLoad vWater vTrips vMissed vBRow vBSum vCell vDirt vAim vErr vCor vBrk vTop vLm vRows vCols vDown vRight vBound vStrain vPrice vFirm vSums vRays vFalls vSom vHad)) := hD
  have hmk : b_th = kc := (hM.down.1).trans hkc.symm
  refine lv_istore (lv' := [(6, zi b_r), (5, zi kc), (0, .ref b), (1, .ref (ah 0)), (2, .ref (ad 0)), (3, .ref o0), (4, zi i)]) hx hb dL_law_1149 hl (by decide) rfl (fun ls hl => ?_)
  refine lv_aload_n hx hb dL_law_1151 rfl (lv_at hl 4 rfl) ?_
  refine hz_lawMi (As := []) (rest := []) ⟨hx, hb, hml, hown, hts⟩ (c_X8_thrown l G y ad _ b_th vN vC vNow vHaze vCold vHot vPipe vDeg vThaw vTrc vTurb vLeft vLoad vWater vTrips vMissed vBRow vBSum vCell vDirt vAim vErr vCor vBrk vTop vLm vRows vCols vDown vRight vBound vStrain vPrice vFirm vSums vRays vFalls vSom vHad) (cwV 0 hts gL_law_X8_thrown rfl rfl rfl (by decide +kernel) ⟨Nat.le_of_ble_eq_true rfl, Nat.le_of_ble_eq_true rfl⟩) hP hK hD hS hA 0 9 rfl rfl rfl rfl hl.1 rfl (Nat.le_of_ble_eq_true rfl) dL_law_1152 ⟨by show (cells + 1) + 0 ≤ 601024; omega, by show (slots + 6) + 0 ≤ 7293034; omega⟩ (fun _ => rfl) (fun u H locs hu hP hD hS => ?_)
  have hP : va_P G vwCl (((hW ah z y vN vC vNow vHaze vCold vHot vPipe vDeg cThaw vTrc vTurb vLeft vLoad vWater vTrips vMi1 vMi2 vSz vBs vCell vDirt vAim vErr vCor vBrk vTop vLm vRows vCols vDown vRight vBound vStrain vPrice vFirm vSums vTk vFl1 vFl2 vTe vAw vRo vBe) ++ oW o0 y a_nO) ++ (mW ad y b_th vN vC vNow vHaze vCold vHot vPipe vDeg vThaw vTrc vTurb vLeft vLoad vWater vTrips vMissed vBRow vBSum vCell vDirt vAim vErr vCor vBrk vTop vLm vRows vCols vDown vRight vBound vStrain vPrice vFirm vSums vRays vFalls vSom vHad)) H := hP
  have hD : va_D (fun q : Nat => s.heap.size ≤ q) (((hW ah z y vN vC vNow vHaze vCold vHot vPipe vDeg cThaw vTrc vTurb vLeft vLoad vWater vTrips vMi1 vMi2 vSz vBs vCell vDirt vAim vErr vCor vBrk vTop vLm vRows vCols vDown vRight vBound vStrain vPrice vFirm vSums vTk vFl1 vFl2 vTe vAw vRo vBe) ++ oW o0 y a_nO) ++ (mW ad y b_th vN vC vNow vHaze vCold vHot vPipe vDeg vThaw vTrc vTurb vLeft vLoad vWater vTrips vMissed vBRow vBSum vCell vDirt vAim vErr vCor vBrk vTop vLm vRows vCols vDown vRight vBound vStrain vPrice vFirm vSums vRays vFalls vSom vHad)) := hD
  refine lv_iload hx hb dL_law_1155 (lv_at hl 1 rfl) ?_
  refine hz_icmp_eq (tgt := 1162) hx hb dL_law_1157 (by decide) (by omega) (fun _ => ?_) (fun q => absurd (by omega) q)
  refine lv_iload hx hb dL_law_1162 (lv_at hl 1 rfl) ?_
  refine hz_if_ne (tgt := 1179) hx hb dL_law_1164 (by decide) (by omega) (fun c1 => ?_) (fun c1 => ?_)
  · have h0 : ¬ (if ¬ (0 ≤ (sc xs (i + 1)) ∧ (sc xs (i + 1)) ≤ 5) then (1 : Int) else 0) = 0 := fun q => c1 (hkc.trans q)
    have hPz := hP
    have hDz := hD
    have hP : va_P G vwCl (((hW ah z y vN vC vNow vHaze vCold vHot vPipe vDeg cThaw vTrc vTurb vLeft vLoad vWater vTrips vMi1 vMi2 vSz vBs vCell vDirt vAim vErr vCor vBrk vTop vLm vRows vCols vDown vRight vBound vStrain vPrice vFirm vSums vTk vFl1 vFl2 vTe vAw vRo vBe) ++ oW o0 y a_nO) ++ (mW ad y b_th vN vC vNow vHaze vCold vHot vPipe vDeg vThaw vTrc vTurb vLeft vLoad vWater vTrips vMissed vBRow vBSum vCell vDirt vAim vErr vCor vBrk vTop vLm vRows vCols vDown vRight vBound vStrain vPrice vFirm vSums vRays vFalls vSom vHad)) H := hPz
    have hD : va_D (fun q : Nat => s.heap.size ≤ q) (((hW ah z y vN vC vNow vHaze vCold vHot vPipe vDeg cThaw vTrc vTurb vLeft vLoad vWater vTrips vMi1 vMi2 vSz vBs vCell vDirt vAim vErr vCor vBrk vTop vLm vRows vCols vDown vRight vBound vStrain vPrice vFirm vSums vTk vFl1 vFl2 vTe vAw vRo vBe) ++ oW o0 y a_nO) ++ (mW ad y b_th vN vC vNow vHaze vCold vHot vPipe vDeg vThaw vTrc vTurb vLeft vLoad vWater vTrips vMissed vBRow vBSum vCell vDirt vAim vErr vCor vBrk vTop vLm vRows vCols vDown vRight vBound vStrain vPrice vFirm vSums vRays vFalls vSom vHad)) := hDz
    refine lv_goto (tgt := 1990) hx hb dL_law_1179 (by decide) ?_
    refine W.widen (k := cells + 40) (n := slots + 400) (by omega) (by omega) ?_
    exact K z vN vC vNow vHaze vCold vHot vPipe vDeg cThaw vThaw vTrc vTurb vLeft vLoad vWater vTrips vMi1 vMi2 vSz vBs b_th vMissed vBRow vBSum vCell vDirt vAim vErr vCor vBrk vTop vLm vRows vCols vDown vRight vBound vStrain vPrice vFirm vSums vTk vFl1 vFl2 vTe vAw vRo vBe vRays vFalls vSom vHad a_nO H locs hFA0 hP hD hS ls (lv_sub hl [2, 3, 4, 5, 6] rfl)
  · have h0 : (if ¬ (0 ≤ (sc xs (i + 1)) ∧ (sc xs (i + 1)) ≤ 5) then (1 : Int) else 0) = 0 := hkc.symm.trans c1
    have hPz := hP
    have hDz := hD
    have hout : a_nO 0 = wI (vStrain (sc xs (i + 1))) := hU.down h0
    have hans : b_r = vStrain (sc xs (i + 1)) := hM.down.2 h0
    have hP : va_P G vwCl (((hW ah z y vN vC vNow vHaze vCold vHot vPipe vDeg cThaw vTrc vTurb vLeft vLoad vWater vTrips vMi1 vMi2 vSz vBs vCell vDirt vAim vErr vCor vBrk vTop vLm vRows vCols vDown vRight vBound vStrain vPrice vFirm vSums vTk vFl1 vFl2 vTe vAw vRo vBe) ++ oW o0 y a_nO) ++ (mW ad y b_th vN vC vNow vHaze vCold vHot vPipe vDeg vThaw vTrc vTurb vLeft vLoad vWater vTrips vMissed vBRow vBSum vCell vDirt vAim vErr vCor vBrk vTop vLm vRows vCols vDown vRight vBound vStrain vPrice vFirm vSums vRays vFalls vSom vHad)) H := hPz
    have hD : va_D (fun q : Nat => s.heap.size ≤ q) (((hW ah z y vN vC vNow vHaze vCold vHot vPipe vDeg cThaw vTrc vTurb vLeft vLoad vWater vTrips vMi1 vMi2 vSz vBs vCell vDirt vAim vErr vCor vBrk vTop vLm vRows vCols vDown vRight vBound vStrain vPrice vFirm vSums vTk vFl1 vFl2 vTe vAw vRo vBe) ++ oW o0 y a_nO) ++ (mW ad y b_th vN vC vNow vHaze vCold vHot vPipe vDeg vThaw vTrc vTurb vLeft vLoad vWater vTrips vMissed vBRow vBSum vCell vDirt vAim vErr vCor vBrk vTop vLm vRows vCols vDown vRight vBound vStrain vPrice vFirm vSums vRays vFalls vSom vHad)) := hDz
    refine lv_aload_n hx hb dL_law_1167 rfl (lv_at hl 5 rfl) ?_
    refine hz_iconst hx hb dL_law_1168 ?_
    refine hz_laldo hx hb hK hP dL_law_1169 ?_
    refine lv_iload hx hb dL_law_1170 (lv_at hl 0 rfl) ?_
    refine hz_i2lw hx hb dL_law_1172 ?_
    refine hz_lcmp hx hb dL_law_1173 (fun v hv => ?_)
    refine lv_if_eq (tgt := 1179) hx hb dL_law_1174 (by decide) (fun _ => ?_) (fun q => absurd (hv.mpr (congrArg zL (hout.trans (congrArg wI hans.symm)))) q)
    refine lv_goto (tgt := 1990) hx hb dL_law_1179 (by decide) ?_
    refine W.widen (k := cells + 40) (n := slots + 400) (by omega) (by omega) ?_
    exact K z vN vC vNow vHaze vCold vHot vPipe vDeg cThaw vThaw vTrc vTurb vLeft vLoad vWater vTrips vMi1 vMi2 vSz vBs b_th vMissed vBRow vBSum vCell vDirt vAim vErr vCor vBrk vTop vLm vRows vCols vDown vRight vBound vStrain vPrice vFirm vSums vTk vFl1 vFl2 vTe vAw vRo vBe vRays vFalls vSom vHad a_nO H locs hFA0 hP hD hS ls (lv_sub hl [2, 3, 4, 5, 6] rfl)
set_option maxHeartbeats 16000000 in
set_option maxRecDepth 100000 in
theorem lw_c16 (p : Program) (l : Launch) (e : Env) (s : State) (m : MethodId) (below : List Frame) (meth : Method) (c : Code) (b L : Nat) (xs : Nat → Int32) (G : va_G) (mi zE : Nat) (y : Nat → ClassId) (ah ad : Nat → Nat) (o0 : Nat) (cells slots : Nat) (i : Int) (hQ : LC p l s m meth c b L xs G mi zE y) (hi : 0 ≤ i ∧ i + 7 ≤ L) (hroom : cells + 40 ≤ 601024 ∧ slots + 400 ≤ 7293034) (K : LK p l e s m below meth c b L xs G mi zE y ah ad o0 (cells + 40) (slots + 400) i 1990) : LK p l e s m below meth c b L xs G mi zE y ah ad o0 cells slots i 1182 := by
  intro z vN vC vNow vHaze vCold vHot vPipe vDeg cThaw vThaw vTrc vTurb vLeft vLoad vWater vTrips vMi1 vMi2 vSz vBs vThrown vMissed vBRow vBSum vCell vDirt vAim vErr vCor vBrk vTop vLm vRows vCols vDown vRight vBound vStrain vPrice vFirm vSums vTk vFl1 vFl2 vTe vAw vRo vBe vRays vFalls vSom vHad vO H locs hFA hP hD hS ls hl
  obtain ⟨hx, hb, hr, hts, hown, hml, hX0, hbl, hL, hlocks, hK, hGP, hX, hGN, hlt⟩ := hQ
  have hA : ∀ q : Nat, s.heap.size ≤ q → (fun q : Nat => s.heap.size ≤ q) q := fun _ h => h
  have hbA : ¬ (fun q : Nat => s.heap.size ≤ q) b := Nat.not_le.mpr hbl
  have hFA0 := hFA
  obtain ⟨hZ, hZe, hTk, hN, hC, hNow, hHaze, hSalt, hPipe, hDeg, hThC, hThM, hThE, hTrc, hTurb, hLeft, hLoad, hWater, hTrips, hCell, hDirt, hAim, hErr, hCor, hBrk, hTop, hLm, hRows, hCols, hDown, hRight, hBound, hStrain, hPrice, hFirm, hE0⟩ := hFA
  refine lv_aload_n hx hb dL_law_1182 rfl (lv_at hl 1 rfl) ?_
  refine hz_lawFi (As := []) (rest := []) ⟨hx, hb, hml, hown, hts⟩ (c_X7_isSafe l G ah z zE y _ vN vC vNow vHaze vCold vHot vPipe vDeg cThaw vTrc vTurb vLeft vLoad vWater vTrips vMi1 vMi2 vSz vBs vCell vDirt vAim vErr vCor vBrk vTop vLm vRows vCols vDown vRight vBound vStrain vPrice vFirm vSums vTk vFl1 vFl2 vTe vAw vRo vBe  hZ hTk hN hC hNow hHaze hCell hDirt hTop hLm hRows hCols hDown hRight hAim hErr hCor hBound) (cwV 0 hts gL_law_X7_isSafe rfl rfl rfl (by decide +kernel) ⟨Nat.le_of_ble_eq_true rfl, Nat.le_of_ble_eq_true rfl⟩) hP hK hD hS hA hGP 0 8 rfl rfl rfl rfl hl.1 rfl (Nat.le_of_ble_eq_true rfl) dL_law_1183 ⟨by show cells + 0 ≤ 601024; omega, by show slots + 0 ≤ 7293034; omega⟩ (fun _ => hW_fst) (fun u H locs hu hP hD hS => ?_)
  obtain ⟨a_f, a_mi⟩ := u
  refine hz_topi (fun ka hka => ?_)
  have hP : va_P G vwCl (((hW ah z y vN vC vNow vHaze vCold vHot vPipe vDeg cThaw vTrc vTurb vLeft vLoad vWater vTrips a_mi vMi2 vSz vBs vCell vDirt vAim vErr vCor vBrk vTop vLm vRows vCols vDown vRight vBound vStrain vPrice vFirm vSums vTk a_f vFl2 vTe vAw vRo vBe) ++ oW o0 y vO) ++ (mW ad y vThrown vN vC vNow vHaze vCold vHot vPipe vDeg vThaw vTrc vTurb vLeft vLoad vWater vTrips vMissed vBRow vBSum vCell vDirt vAim vErr vCor vBrk vTop vLm vRows vCols vDown vRight vBound vStrain vPrice vFirm vSums vRays vFalls vSom vHad)) H := hP
  have hD : va_D (fun q : Nat => s.heap.size ≤ q) (((hW ah z y vN vC vNow vHaze vCold vHot vPipe vDeg cThaw vTrc vTurb vLeft vLoad vWater vTrips a_mi vMi2 vSz vBs vCell vDirt vAim vErr vCor vBrk vTop vLm vRows vCols vDown vRight vBound vStrain vPrice vFirm vSums vTk a_f vFl2 vTe vAw vRo vBe) ++ oW o0 y vO) ++ (mW ad y vThrown vN vC vNow vHaze vCold vHot vPipe vDeg vThaw vTrc vTurb vLeft vLoad vWater vTrips vMissed vBRow vBSum vCell vDirt vAim vErr vCor vBrk vTop vLm vRows vCols vDown vRight vBound vStrain vPrice vFirm vSums vRays vFalls vSom vHad)) := hD
  refine lv_aload_n hx hb dL_law_1186 rfl (lv_at hl 2 rfl) ?_
  refine hz_lawMi (As := []) (rest := [zi ka]) ⟨hx, hb, hml, hown, hts⟩ (c_X8_isSafe l G y ad _ vThrown vN vC vNow vHaze vCold vHot vPipe vDeg vThaw vTrc vTurb vLeft vLoad vWater vTrips vMissed vBRow vBSum vCell vDirt vAim vErr vCor vBrk vTop vLm vRows vCols vDown vRight vBound vStrain vPrice vFirm vSums vRays vFalls vSom vHad  hN hC hNow hHaze hCell hDirt hTop hLm hRows hCols hDown hRight hAim hErr hCor hBound) (cwV 0 hts gL_law_X8_isSafe rfl rfl rfl (by decide +kernel) ⟨Nat.le_of_ble_eq_true rfl, Nat.le_of_ble_eq_true rfl⟩) hP hK hD hS hA 0 9 rfl rfl rfl rfl hl.1 rfl (Nat.le_of_ble_eq_true rfl) dL_law_1187 ⟨by show cells + 0 ≤ 601024; omega, by show slots + 0 ≤ 7293034; omega⟩ (fun _ => rfl) (fun u H locs hu hP hD hS => ?_)
  obtain ⟨b_th, b_r, b_sRays, b_sFalls, b_sMissed⟩ := u
  have hM := PLift.up hu
  clear hu
  have hP : va_P G vwCl (((hW ah z y vN vC vNow vHaze vCold vHot vPipe vDeg cThaw vTrc vTurb vLeft vLoad vWater vTrips a_mi vMi2 vSz vBs vCell vDirt vAim vErr vCor vBrk vTop vLm vRows vCols vDown vRight vBound vStrain vPrice vFirm vSums vTk a_f vFl2 vTe vAw vRo vBe) ++ oW o0 y vO) ++ (mW ad y b_th vN vC vNow vHaze vCold vHot vPipe vDeg vThaw vTrc vTurb vLeft vLoad vWater vTrips b_sMissed vBRow vBSum vCell vDirt vAim vErr vCor vBrk vTop vLm vRows vCols vDown vRight vBound vStrain vPrice vFirm vSums b_sRays b_sFalls vSom vHad)) H := hP
  have hD : va_D (fun q : Nat => s.heap.size ≤ q) (((hW ah z y vN vC vNow vHaze vCold vHot vPipe vDeg cThaw vTrc vTurb vLeft vLoad vWater vTrips a_mi vMi2 vSz vBs vCell vDirt vAim vErr vCor vBrk vTop vLm vRows vCols vDown vRight vBound vStrain vPrice vFirm vSums vTk a_f vFl2 vTe vAw vRo vBe) ++ oW o0 y vO) ++ (mW ad y b_th vN vC vNow vHaze vCold vHot vPipe vDeg vThaw vTrc vTurb vLeft vLoad vWater vTrips b_sMissed vBRow vBSum vCell vDirt vAim vErr vCor vBrk vTop vLm vRows vCols vDown vRight vBound vStrain vPrice vFirm vSums b_sRays b_sFalls vSom vHad)) := hD
  have hans : b_r = sfZ vN vAim vErr vCor (ryZ vN vC vNow vHaze vCell vDirt vTop vLm vRows vCols vDown vRight) vBound := hM.down.2.1 rfl
  have hrz : b_r = 0 ∨ b_r = 1 := hM.down.2.2
  refine hz_tope (z2 := b_r) rfl ?_
  refine hz_icmp_eq (tgt := 1990) hx hb dL_law_1190 (by decide) (by omega) (fun _ => ?_) (fun q => absurd (by omega) q)
  have hPz := hP
  have hDz := hD
  have hP : va_P G vwCl (((hW ah z y vN vC vNow vHaze vCold vHot vPipe vDeg cThaw vTrc vTurb vLeft vLoad vWater vTrips a_mi vMi2 vSz vBs vCell vDirt vAim vErr vCor vBrk vTop vLm vRows vCols vDown vRight vBound vStrain vPrice vFirm vSums vTk a_f vFl2 vTe vAw vRo vBe) ++ oW o0 y vO) ++ (mW ad y b_th vN vC vNow vHaze vCold vHot vPipe vDeg vThaw vTrc vTurb vLeft vLoad vWater vTrips b_sMissed vBRow vBSum vCell vDirt vAim vErr vCor vBrk vTop vLm vRows vCols vDown vRight vBound vStrain vPrice vFirm vSums b_sRays b_sFalls vSom vHad)) H := hPz
  have hD : va_D (fun q : Nat => s.heap.size ≤ q) (((hW ah z y vN vC vNow vHaze vCold vHot vPipe vDeg cThaw vTrc vTurb vLeft vLoad vWater vTrips a_mi vMi2 vSz vBs vCell vDirt vAim vErr vCor vBrk vTop vLm vRows vCols vDown vRight vBound vStrain vPrice vFirm vSums vTk a_f vFl2 vTe vAw vRo vBe) ++ oW o0 y vO) ++ (mW ad y b_th vN vC vNow vHaze vCold vHot vPipe vDeg vThaw vTrc vTurb vLeft vLoad vWater vTrips b_sMissed vBRow vBSum vCell vDirt vAim vErr vCor vBrk vTop vLm vRows vCols vDown vRight vBound vStrain vPrice vFirm vSums b_sRays b_sFalls vSom vHad)) := hDz
  refine W.widen (k := cells + 40) (n := slots + 400) (by omega) (by omega) ?_
  exact K z vN vC vNow vHaze vCold vHot vPipe vDeg cThaw vThaw vTrc vTurb vLeft vLoad vWater vTrips a_mi vMi2 vSz vBs b_th b_sMissed vBRow vBSum vCell vDirt vAim vErr vCor vBrk vTop vLm vRows vCols vDown vRight vBound vStrain vPrice vFirm vSums vTk a_f vFl2 vTe vAw vRo vBe b_sRays b_sFalls vSom vHad vO H locs hFA0 hP hD hS ls (lv_sub hl [0, 1, 2, 3, 4] rfl)
set_option maxHeartbeats 16000000 in
set_option maxRecDepth 100000 in
theorem lw_c17 (p : Program) (l : Launch) (e : Env) (s : State) (m : MethodId) (below : List Frame) (meth : Method) (c : Code) (b L : Nat) (xs : Nat → Int32) (G : va_G) (mi zE : Nat) (y : Nat → ClassId) (ah ad : Nat → Nat) (o0 : Nat) (cells slots : Nat) (i : Int) (hQ : LC p l s m meth c b L xs G mi zE y) (hi : 0 ≤ i ∧ i + 7 ≤ L) (hroom : cells + 40 ≤ 601024 ∧ slots + 400 ≤ 7293034) (K : LK p l e s m below meth c b L xs G mi zE y ah ad o0 (cells + 40) (slots + 400) i 1990) : LK p l e s m below meth c b L xs G mi zE y ah ad o0 cells slots i 1195 := by
  intro z vN vC vNow vHaze vCold vHot vPipe vDeg cThaw vThaw vTrc vTurb vLeft vLoad vWater vTrips vMi1 vMi2 vSz vBs vThrown vMissed vBRow vBSum vCell vDirt vAim vErr vCor vBrk vTop vLm vRows vCols vDown vRight vBound vStrain vPrice vFirm vSums vTk vFl1 vFl2 vTe vAw vRo vBe vRays vFalls vSom vHad vO H locs hFA hP hD hS ls hl
  obtain ⟨hx, hb, hr, hts, hown, hml, hX0, hbl, hL, hlocks, hK, hGP, hX, hGN, hlt⟩ := hQ
  have hA : ∀ q : Nat, s.heap.size ≤ q → (fun q : Nat => s.heap.size ≤ q) q := fun _ h => h
  have hbA : ¬ (fun q : Nat => s.heap.size ≤ q) b := Nat.not_le.mpr hbl
  have hFA0 := hFA
  obtain ⟨hZ, hZe, hTk, hN, hC, hNow, hHaze, hSalt, hPipe, hDeg, hThC, hThM, hThE, hTrc, hTurb, hLeft, hLoad, hWater, hTrips, hCell, hDirt, hAim, hErr, hCor, hBrk, hTop, hLm, hRows, hCols, hDown, hRight, hBound, hStrain, hPrice, hFirm, hE0⟩ := hFA
  refine lv_aload_n hx hb dL_law_1195 rfl (lv_at hl 1 rfl) ?_
  refine lv_aload_n hx hb dL_law_1196 rfl (lv_at hl 0 rfl) ?_
  refine lv_iload hx hb dL_law_1197 (lv_at hl 4 rfl) ?_
  refine hz_iconst hx hb dL_law_1199 ?_
  refine hz_iadd hx hb dL_law_1200 ?_
  refine hz_sld hx hb hX0 hbl hbA hS (by omega) (by omega) dL_law_1201 ?_
  refine lv_aload_n hx hb dL_law_1202 rfl (lv_at hl 0 rfl) ?_
  refine lv_iload hx hb dL_law_1203 (lv_at hl 4 rfl) ?_
  refine hz_iconst hx hb dL_law_1205 ?_
  refine hz_iadd hx hb dL_law_1206 ?_
  refine hz_sld hx hb hX0 hbl hbA hS (by omega) (by omega) dL_law_1207 ?_
  refine lv_aload_n hx hb dL_law_1208 rfl (lv_at hl 3 rfl) ?_
  refine hz_lawL (As := [.ref (ah 0), zi (sc xs (i + 1)), zi (sc xs (i + 2)), .ref o0]) (rest := []) ⟨hx, hb, hml, hown, hts⟩ (c_L_best l hlt G ah z mi zE y _ vN vC vNow vHaze vCold vHot vPipe vDeg cThaw vTrc vTurb vLeft vLoad vWater vTrips vMi1 vMi2 vSz vBs vCell vDirt vAim vErr vCor vBrk vTop vLm vRows vCols vDown vRight vBound vStrain vPrice vFirm vSums vTk vFl1 vFl2 vTe vAw vRo vBe o0 vO (sc xs (i + 1)) (sc xs (i + 2)) hZ hTk hN hC hNow hHaze hCell hDirt hTop hLm hRows hCols hDown hRight hAim hErr hCor hBrk hBound (sc_rng _ _) (sc_rng _ _)) (vx_cwSW 4 hts gL_law_L_best rfl rfl rfl (by decide +kernel) ⟨Nat.le_of_ble_eq_true rfl, Nat.le_of_ble_eq_true rfl⟩) hP hK hD hS hA hGP hX hGN rfl hl.1 rfl (Nat.le_of_ble_eq_true rfl) dL_law_1209 ⟨by show cells + 3 ≤ 601024; omega, by show slots + 18 ≤ 7293034; omega⟩ (fun r u H locs hu hP hD hS => ?_)
  obtain ⟨a_sF2, a_sM2, a_sTe, a_sAw, a_sRo, a_sBe, a_sSz, a_sBs, a_nO⟩ := u
  obtain ⟨rfl, hu⟩ := hu
  have hU := PLift.up hu
  clear hu
  refine hz_topi (fun kc hkc => ?_)
  have hP : va_P G vwCl (((hW ah z y vN vC vNow vHaze vCold vHot vPipe vDeg cThaw vTrc vTurb vLeft vLoad vWater vTrips vMi1 a_sM2 a_sSz a_sBs vCell vDirt vAim vErr vCor vBrk vTop vLm vRows vCols vDown vRight vBound vStrain vPrice vFirm vSums vTk vFl1 a_sF2 a_sTe a_sAw a_sRo a_sBe) ++ oW o0 y a_nO) ++ (mW ad y vThrown vN vC vNow vHaze vCold vHot vPipe vDeg vThaw vTrc vTurb vLeft vLoad vWater vTrips vMissed vBRow vBSum vCell vDirt vAim vErr vCor vBrk vTop vLm vRows vCols vDown vRight vBound vStrain vPrice vFirm vSums vRays vFalls vSom vHad)) H := hP
  have hD : va_D (fun q : Nat => s.heap.size ≤ q) (((hW ah z y vN vC vNow vHaze vCold vHot vPipe vDeg cThaw vTrc vTurb vLeft vLoad vWater vTrips vMi1 a_sM2 a_sSz a_sBs vCell vDirt vAim vErr vCor vBrk vTop vLm vRows vCols vDown vRight vBound vStrain vPrice vFirm vSums vTk vFl1 a_sF2 a_sTe a_sAw a_sRo a_sBe) ++ oW o0 y a_nO) ++ (mW ad y vThrown vN vC vNow vHaze vCold vHot vPipe vDeg vThaw vTrc vTurb vLeft vLoad vWater vTrips vMissed vBRow vBSum vCell vDirt vAim vErr vCor vBrk vTop vLm vRows vCols vDown vRight vBound vStrain vPrice vFirm vSums vRays vFalls vSom vHad)) := hD
  have hkr : 0 ≤ kc ∧ kc ≤ 3 := by rw [hkc]; first | omega | (split <;> (try split) <;> (try split) <;> omega)
  refine lv_istore (lv' := [(5, zi kc), (0, .ref b), (1, .ref (ah 0)), (2, .ref (ad 0)), (3, .ref o0), (4, zi i)]) hx hb dL_law_1212 hl (by decide) rfl (fun ls hl => ?_)
  refine lv_aload_n hx hb dL_law_1214 rfl (lv_at hl 3 rfl) ?_
  refine lv_aload_n hx hb dL_law_1215 rfl (lv_at hl 1 rfl) ?_
  refine lv_iload hx hb dL_law_1216 (lv_at hl 5 rfl) ?_
  refine hz_iconst hx hb dL_law_1218 ?_
  refine hz_iadd hx hb dL_law_1219 ?_
  refine hz_sld hx hb hX0 hbl hbA hS (by omega) (by omega) dL_law_1220 ?_
  refine lv_aload_n hx hb dL_law_1221 rfl (lv_at hl 1 rfl) ?_
  refine lv_iload hx hb dL_law_1222 (lv_at hl 5 rfl) ?_
  refine hz_iconst hx hb dL_law_1224 ?_
  refine hz_iadd hx hb dL_law_1225 ?_
  refine hz_sld hx hb hX0 hbl hbA hS (by omega) (by omega) dL_law_1226 ?_
  refine hz_lawMi (As := [zi (sc xs (i + 1)), zi (sc xs (i + 2))]) (rest := []) ⟨hx, hb, hml, hown, hts⟩ (c_X8_best l G y ad _ vThrown vN vC vNow vHaze vCold vHot vPipe vDeg vThaw vTrc vTurb vLeft vLoad vWater vTrips vMissed vBRow vBSum vCell vDirt vAim vErr vCor vBrk vTop vLm vRows vCols vDown vRight vBound vStrain vPrice vFirm vSums vRays vFalls vSom vHad (sc xs (i + 1)) (sc xs (i + 2)) hN hC hNow hHaze hCell hDirt hTop hLm hRows hCols hDown hRight hAim hErr hCor hBrk hBound (sc_rng _ _) (sc_rng _ _)) (cwV 2 hts gL_law_X8_best rfl rfl rfl (by decide +kernel) ⟨Nat.le_of_ble_eq_true rfl, Nat.le_of_ble_eq_true rfl⟩) hP hK hD hS hA 0 9 rfl rfl rfl rfl hl.1 rfl (Nat.le_of_ble_eq_true rfl) dL_law_1227 ⟨by show (cells + 3) + 0 ≤ 601024; omega, by show (slots + 18) + 0 ≤ 7293034; omega⟩ (fun _ => rfl) (fun u H locs hu hP hD hS => ?_)
  obtain ⟨b_th, b_r, b_sRays, b_sFalls, b_sMissed, b_sSom, b_sHad, b_sBRow, b_sBSum⟩ := u
  have hM := PLift.up hu
  clear hu
  have hP : va_P G vwCl (((hW ah z y vN vC vNow vHaze vCold vHot vPipe vDeg cThaw vTrc vTurb vLeft vLoad vWater vTrips vMi1 a_sM2 a_sSz a_sBs vCell vDirt vAim vErr vCor vBrk vTop vLm vRows vCols vDown vRight vBound vStrain vPrice vFirm vSums vTk vFl1 a_sF2 a_sTe a_sAw a_sRo a_sBe) ++ oW o0 y a_nO) ++ (mW ad y b_th vN vC vNow vHaze vCold vHot vPipe vDeg vThaw vTrc vTurb vLeft vLoad vWater vTrips b_sMissed b_sBRow b_sBSum vCell vDirt vAim vErr vCor vBrk vTop vLm vRows vCols vDown vRight vBound vStrain vPrice vFirm vSums b_sRays b_sFalls b_sSom b_sHad)) H := hP
  have hD : va_D (fun q : Nat => s.heap.size ≤ q) (((hW ah z y vN vC vNow vHaze vCold vHot vPipe vDeg cThaw vTrc vTurb vLeft vLoad vWater vTrips vMi1 a_sM2 a_sSz a_sBs vCell vDirt vAim vErr vCor vBrk vTop vLm vRows vCols vDown vRight vBound vStrain vPrice vFirm vSums vTk vFl1 a_sF2 a_sTe a_sAw a_sRo a_sBe) ++ oW o0 y a_nO) ++ (mW ad y b_th vN vC vNow vHaze vCold vHot vPipe vDeg vThaw vTrc vTurb vLeft vLoad vWater vTrips b_sMissed b_sBRow b_sBSum vCell vDirt vAim vErr vCor vBrk vTop vLm vRows vCols vDown vRight vBound vStrain vPrice vFirm vSums b_sRays b_sFalls b_sSom b_sHad)) := hD
  have hmk : b_th = kc := (hM.down.1).trans hkc.symm
  refine lv_istore (lv' := [(6, zi b_r), (5, zi kc), (0, .ref b), (1, .ref (ah 0)), (2, .ref (ad 0)), (3, .ref o0), (4, zi i)]) hx hb dL_law_1230 hl (by decide) rfl (fun ls hl => ?_)
  refine lv_aload_n hx hb dL_law_1232 rfl (lv_at hl 4 rfl) ?_
  refine hz_lawMi (As := []) (rest := []) ⟨hx, hb, hml, hown, hts⟩ (c_X8_thrown l G y ad _ b_th vN vC vNow vHaze vCold vHot vPipe vDeg vThaw vTrc vTurb vLeft vLoad vWater vTrips b_sMissed b_sBRow b_sBSum vCell vDirt vAim vErr vCor vBrk vTop vLm vRows vCols vDown vRight vBound vStrain vPrice vFirm vSums b_sRays b_sFalls b_sSom b_sHad) (cwV 0 hts gL_law_X8_thrown rfl rfl rfl (by decide +kernel) ⟨Nat.le_of_ble_eq_true rfl, Nat.le_of_ble_eq_true rfl⟩) hP hK hD hS hA 0 9 rfl rfl rfl rfl hl.1 rfl (Nat.le_of_ble_eq_true rfl) dL_law_1233 ⟨by show (cells + 3) + 0 ≤ 601024; omega, by show (slots + 18) + 0 ≤ 7293034; omega⟩ (fun _ => rfl) (fun u H locs hu hP hD hS => ?_)
  have hP : va_P G vwCl (((hW ah z y vN vC vNow vHaze vCold vHot vPipe vDeg cThaw vTrc vTurb vLeft vLoad vWater vTrips vMi1 a_sM2 a_sSz a_sBs vCell vDirt vAim vErr vCor vBrk vTop vLm vRows vCols vDown vRight vBound vStrain vPrice vFirm vSums vTk vFl1 a_sF2 a_sTe a_sAw a_sRo a_sBe) ++ oW o0 y a_nO) ++ (mW ad y b_th vN vC vNow vHaze vCold vHot vPipe vDeg vThaw vTrc vTurb vLeft vLoad vWater vTrips b_sMissed b_sBRow b_sBSum vCell vDirt vAim vErr vCor vBrk vTop vLm vRows vCols vDown vRight vBound vStrain vPrice vFirm vSums b_sRays b_sFalls b_sSom b_sHad)) H := hP
  have hD : va_D (fun q : Nat => s.heap.size ≤ q) (((hW ah z y vN vC vNow vHaze vCold vHot vPipe vDeg cThaw vTrc vTurb vLeft vLoad vWater vTrips vMi1 a_sM2 a_sSz a_sBs vCell vDirt vAim vErr vCor vBrk vTop vLm vRows vCols vDown vRight vBound vStrain vPrice vFirm vSums vTk vFl1 a_sF2 a_sTe a_sAw a_sRo a_sBe) ++ oW o0 y a_nO) ++ (mW ad y b_th vN vC vNow vHaze vCold vHot vPipe vDeg vThaw vTrc vTurb vLeft vLoad vWater vTrips b_sMissed b_sBRow b_sBSum vCell vDirt vAim vErr vCor vBrk vTop vLm vRows vCols vDown vRight vBound vStrain vPrice vFirm vSums b_sRays b_sFalls b_sSom b_sHad)) := hD
  refine lv_iload hx hb dL_law_1236 (lv_at hl 1 rfl) ?_
  refine hz_icmp_eq (tgt := 1243) hx hb dL_law_1238 (by decide) (by omega) (fun _ => ?_) (fun q => absurd (by omega) q)
  refine lv_iload hx hb dL_law_1243 (lv_at hl 1 rfl) ?_
  refine hz_if_ne (tgt := 1260) hx hb dL_law_1245 (by decide) (by omega) (fun c1 => ?_) (fun c1 => ?_)
  · have h0 : ¬ (if ¬ (okZ (sc xs (i + 1)) vN vBrk = 1 ∧ -1 ≤ (sc xs (i + 2)) ∧ (sc xs (i + 2)) < cntZ (sc xs (i + 1)) vN) then (1 : Int) else if (bstZ (sc xs (i + 1)) vN vAim vErr vCor (ryZ vN vC vNow vHaze vCell vDirt vTop vLm vRows vCols vDown vRight) vBound).1 = -1 then 2 else 0) = 0 := fun q => c1 (hkc.trans q)
    have hPz := hP
    have hDz := hD
    have hP : va_P G vwCl (((hW ah z y vN vC vNow vHaze vCold vHot vPipe vDeg cThaw vTrc vTurb vLeft vLoad vWater vTrips vMi1 a_sM2 a_sSz a_sBs vCell vDirt vAim vErr vCor vBrk vTop vLm vRows vCols vDown vRight vBound vStrain vPrice vFirm vSums vTk vFl1 a_sF2 a_sTe a_sAw a_sRo a_sBe) ++ oW o0 y a_nO) ++ (mW ad y b_th vN vC vNow vHaze vCold vHot vPipe vDeg vThaw vTrc vTurb vLeft vLoad vWater vTrips b_sMissed b_sBRow b_sBSum vCell vDirt vAim vErr vCor vBrk vTop vLm vRows vCols vDown vRight vBound vStrain vPrice vFirm vSums b_sRays b_sFalls b_sSom b_sHad)) H := hPz
    have hD : va_D (fun q : Nat => s.heap.size ≤ q) (((hW ah z y vN vC vNow vHaze vCold vHot vPipe vDeg cThaw vTrc vTurb vLeft vLoad vWater vTrips vMi1 a_sM2 a_sSz a_sBs vCell vDirt vAim vErr vCor vBrk vTop vLm vRows vCols vDown vRight vBound vStrain vPrice vFirm vSums vTk vFl1 a_sF2 a_sTe a_sAw a_sRo a_sBe) ++ oW o0 y a_nO) ++ (mW ad y b_th vN vC vNow vHaze vCold vHot vPipe vDeg vThaw vTrc vTurb vLeft vLoad vWater vTrips b_sMissed b_sBRow b_sBSum vCell vDirt vAim vErr vCor vBrk vTop vLm vRows vCols vDown vRight vBound vStrain vPrice vFirm vSums b_sRays b_sFalls b_sSom b_sHad)) := hDz
    refine lv_goto (tgt := 1990) hx hb dL_law_1260 (by decide) ?_
    refine W.widen (k := cells + 40) (n := slots + 400) (by omega) (by omega) ?_
    exact K z vN vC vNow vHaze vCold vHot vPipe vDeg cThaw vThaw vTrc vTurb vLeft vLoad vWater vTrips vMi1 a_sM2 a_sSz a_sBs b_th b_sMissed b_sBRow b_sBSum vCell vDirt vAim vErr vCor vBrk vTop vLm vRows vCols vDown vRight vBound vStrain vPrice vFirm vSums vTk vFl1 a_sF2 a_sTe a_sAw a_sRo a_sBe b_sRays b_sFalls b_sSom b_sHad a_nO H locs hFA0 hP hD hS ls (lv_sub hl [2, 3, 4, 5, 6] rfl)
  · have h0 : (if ¬ (okZ (sc xs (i + 1)) vN vBrk = 1 ∧ -1 ≤ (sc xs (i + 2)) ∧ (sc xs (i + 2)) < cntZ (sc xs (i + 1)) vN) then (1 : Int) else if (bstZ (sc xs (i + 1)) vN vAim vErr vCor (ryZ vN vC vNow vHaze vCell vDirt vTop vLm vRows vCols vDown vRight) vBound).1 = -1 then 2 else 0) = 0 := hkc.symm.trans c1
    have hPz := hP
    have hDz := hD
    have hout : a_nO 0 = wI ((if (sc xs (i + 2)) = -1 then (bstZ (sc xs (i + 1)) vN vAim vErr vCor (ryZ vN vC vNow vHaze vCell vDirt vTop vLm vRows vCols vDown vRight) vBound).2 else rwZ (cntZ (sc xs (i + 1)) vN) (bstZ (sc xs (i + 1)) vN vAim vErr vCor (ryZ vN vC vNow vHaze vCell vDirt vTop vLm vRows vCols vDown vRight) vBound).1 (sc xs (i + 2)))) := hU.down h0
    have hans : b_r = (if (sc xs (i + 2)) = -1 then (bstZ (sc xs (i + 1)) vN vAim vErr vCor (ryZ vN vC vNow vHaze vCell vDirt vTop vLm vRows vCols vDown vRight) vBound).2 else rwZ (cntZ (sc xs (i + 1)) vN) (bstZ (sc xs (i + 1)) vN vAim vErr vCor (ryZ vN vC vNow vHaze vCell vDirt vTop vLm vRows vCols vDown vRight) vBound).1 (sc xs (i + 2))) := hM.down.2 h0
    have hP : va_P G vwCl (((hW ah z y vN vC vNow vHaze vCold vHot vPipe vDeg cThaw vTrc vTurb vLeft vLoad vWater vTrips vMi1 a_sM2 a_sSz a_sBs vCell vDirt vAim vErr vCor vBrk vTop vLm vRows vCols vDown vRight vBound vStrain vPrice vFirm vSums vTk vFl1 a_sF2 a_sTe a_sAw a_sRo a_sBe) ++ oW o0 y a_nO) ++ (mW ad y b_th vN vC vNow vHaze vCold vHot vPipe vDeg vThaw vTrc vTurb vLeft vLoad vWater vTrips b_sMissed b_sBRow b_sBSum vCell vDirt vAim vErr vCor vBrk vTop vLm vRows vCols vDown vRight vBound vStrain vPrice vFirm vSums b_sRays b_sFalls b_sSom b_sHad)) H := hPz
    have hD : va_D (fun q : Nat => s.heap.size ≤ q) (((hW ah z y vN vC vNow vHaze vCold vHot vPipe vDeg cThaw vTrc vTurb vLeft vLoad vWater vTrips vMi1 a_sM2 a_sSz a_sBs vCell vDirt vAim vErr vCor vBrk vTop vLm vRows vCols vDown vRight vBound vStrain vPrice vFirm vSums vTk vFl1 a_sF2 a_sTe a_sAw a_sRo a_sBe) ++ oW o0 y a_nO) ++ (mW ad y b_th vN vC vNow vHaze vCold vHot vPipe vDeg vThaw vTrc vTurb vLeft vLoad vWater vTrips b_sMissed b_sBRow b_sBSum vCell vDirt vAim vErr vCor vBrk vTop vLm vRows vCols vDown vRight vBound vStrain vPrice vFirm vSums b_sRays b_sFalls b_sSom b_sHad)) := hDz
    refine lv_aload_n hx hb dL_law_1248 rfl (lv_at hl 5 rfl) ?_
    refine hz_iconst hx hb dL_law_1249 ?_
    refine hz_laldo hx hb hK hP dL_law_1250 ?_
    refine lv_iload hx hb dL_law_1251 (lv_at hl 0 rfl) ?_
    refine hz_i2lw hx hb dL_law_1253 ?_
    refine hz_lcmp hx hb dL_law_1254 (fun v hv => ?_)
    refine lv_if_eq (tgt := 1260) hx hb dL_law_1255 (by decide) (fun _ => ?_) (fun q => absurd (hv.mpr (congrArg zL (hout.trans (congrArg wI hans.symm)))) q)
    refine lv_goto (tgt := 1990) hx hb dL_law_1260 (by decide) ?_
    refine W.widen (k := cells + 40) (n := slots + 400) (by omega) (by omega) ?_
    exact K z vN vC vNow vHaze vCold vHot vPipe vDeg cThaw vThaw vTrc vTurb vLeft vLoad vWater vTrips vMi1 a_sM2 a_sSz a_sBs b_th b_sMissed b_sBRow b_sBSum vCell vDirt vAim vErr vCor vBrk vTop vLm vRows vCols vDown vRight vBound vStrain vPrice vFirm vSums vTk vFl1 a_sF2 a_sTe a_sAw a_sRo a_sBe b_sRays b_sFalls b_sSom b_sHad a_nO H locs hFA0 hP hD hS ls (lv_sub hl [2, 3, 4, 5, 6] rfl)
set_option maxHeartbeats 16000000 in
set_option maxRecDepth 100000 in
theorem lw_c18 (p : Program) (l : Launch) (e : Env) (s : State) (m : MethodId) (below : List Frame) (meth : Method) (c : Code) (b L : Nat) (xs : Nat → Int32) (G : va_G) (mi zE : Nat) (y : Nat → ClassId) (ah ad : Nat → Nat) (o0 : Nat) (cells slots : Nat) (i : Int) (hQ : LC p l s m meth c b L xs G mi zE y) (hi : 0 ≤ i ∧ i + 7 ≤ L) (hroom : cells + 40 ≤ 601024 ∧ slots + 400 ≤ 7293034) (K : LK p l e s m below meth c b L xs G mi zE y ah ad o0 (cells + 40) (slots + 400) i 1990) : LK p l e s m below meth c b L xs G mi zE y ah ad o0 cells slots i 1263 := by
  intro z vN vC vNow vHaze vCold vHot vPipe vDeg cThaw vThaw vTrc vTurb vLeft vLoad vWater vTrips vMi1 vMi2 vSz vBs vThrown vMissed vBRow vBSum vCell vDirt vAim vErr vCor vBrk vTop vLm vRows vCols vDown vRight vBound vStrain vPrice vFirm vSums vTk vFl1 vFl2 vTe vAw vRo vBe vRays vFalls vSom vHad vO H locs hFA hP hD hS ls hl
  obtain ⟨hx, hb, hr, hts, hown, hml, hX0, hbl, hL, hlocks, hK, hGP, hX, hGN, hlt⟩ := hQ
  have hA : ∀ q : Nat, s.heap.size ≤ q → (fun q : Nat => s.heap.size ≤ q) q := fun _ h => h
  have hbA : ¬ (fun q : Nat => s.heap.size ≤ q) b := Nat.not_le.mpr hbl
  have hFA0 := hFA
  obtain ⟨hZ, hZe, hTk, hN, hC, hNow, hHaze, hSalt, hPipe, hDeg, hThC, hThM, hThE, hTrc, hTurb, hLeft, hLoad, hWater, hTrips, hCell, hDirt, hAim, hErr, hCor, hBrk, hTop, hLm, hRows, hCols, hDown, hRight, hBound, hStrain, hPrice, hFirm, hE0⟩ := hFA
  refine lv_aload_n hx hb dL_law_1263 rfl (lv_at hl 1 rfl) ?_
  refine lv_aload_n hx hb dL_law_1264 rfl (lv_at hl 0 rfl) ?_
  refine lv_iload hx hb dL_law_1265 (lv_at hl 4 rfl) ?_
  refine hz_iconst hx hb dL_law_1267 ?_
  refine hz_iadd hx hb dL_law_1268 ?_
  refine hz_sld hx hb hX0 hbl hbA hS (by omega) (by omega) dL_law_1269 ?_
  refine lv_aload_n hx hb dL_law_1270 rfl (lv_at hl 3 rfl) ?_
  refine hz_lawL (As := [.ref (ah 0), zi (sc xs (i + 1)), .ref o0]) (rest := []) ⟨hx, hb, hml, hown, hts⟩ (c_L_bestAnew l hlt G ah z mi zE y _ vN vC vNow vHaze vCold vHot vPipe vDeg cThaw vTrc vTurb vLeft vLoad vWater vTrips vMi1 vMi2 vSz vBs vCell vDirt vAim vErr vCor vBrk vTop vLm vRows vCols vDown vRight vBound vStrain vPrice vFirm vSums vTk vFl1 vFl2 vTe vAw vRo vBe o0 vO (sc xs (i + 1)) hZ hTk hN hC hNow hHaze hCell hDirt hTop hLm hRows hCols hDown hRight hAim hErr hCor hBrk hBound (sc_rng _ _)) (vx_cwSW 3 hts gL_law_L_bestAnew rfl rfl rfl (by decide +kernel) ⟨Nat.le_of_ble_eq_true rfl, Nat.le_of_ble_eq_true rfl⟩) hP hK hD hS hA hGP hX hGN rfl hl.1 rfl (Nat.le_of_ble_eq_true rfl) dL_law_1271 ⟨by show cells + 2 ≤ 601024; omega, by show slots + 12 ≤ 7293034; omega⟩ (fun r u H locs hu hP hD hS => ?_)
  obtain ⟨a_sF2, a_sM2, a_sTe, a_sAw, a_sRo, a_sBe, a_sSz, a_sBs, a_nO⟩ := u
  obtain ⟨rfl, hu⟩ := hu
  have hU := PLift.up hu
  clear hu
  refine hz_topi (fun kc hkc => ?_)
  have hP : va_P G vwCl (((hW ah z y vN vC vNow vHaze vCold vHot vPipe vDeg cThaw vTrc vTurb vLeft vLoad vWater vTrips vMi1 a_sM2 a_sSz a_sBs vCell vDirt vAim vErr vCor vBrk vTop vLm vRows vCols vDown vRight vBound vStrain vPrice vFirm vSums vTk vFl1 a_sF2 a_sTe a_sAw a_sRo a_sBe) ++ oW o0 y a_nO) ++ (mW ad y vThrown vN vC vNow vHaze vCold vHot vPipe vDeg vThaw vTrc vTurb vLeft vLoad vWater vTrips vMissed vBRow vBSum vCell vDirt vAim vErr vCor vBrk vTop vLm vRows vCols vDown vRight vBound vStrain vPrice vFirm vSums vRays vFalls vSom vHad)) H := hP
  have hD : va_D (fun q : Nat => s.heap.size ≤ q) (((hW ah z y vN vC vNow vHaze vCold vHot vPipe vDeg cThaw vTrc vTurb vLeft vLoad vWater vTrips vMi1 a_sM2 a_sSz a_sBs vCell vDirt vAim vErr vCor vBrk vTop vLm vRows vCols vDown vRight vBound vStrain vPrice vFirm vSums vTk vFl1 a_sF2 a_sTe a_sAw a_sRo a_sBe) ++ oW o0 y a_nO) ++ (mW ad y vThrown vN vC vNow vHaze vCold vHot vPipe vDeg vThaw vTrc vTurb vLeft vLoad vWater vTrips vMissed vBRow vBSum vCell vDirt vAim vErr vCor vBrk vTop vLm vRows vCols vDown vRight vBound vStrain vPrice vFirm vSums vRays vFalls vSom vHad)) := hD
  have hkr : 0 ≤ kc ∧ kc ≤ 3 := by rw [hkc]; first | omega | (split <;> (try split) <;> (try split) <;> omega)
  refine lv_istore (lv' := [(5, zi kc), (0, .ref b), (1, .ref (ah 0)), (2, .ref (ad 0)), (3, .ref o0), (4, zi i)]) hx hb dL_law_1274 hl (by decide) rfl (fun ls hl => ?_)
  refine lv_aload_n hx hb dL_law_1276 rfl (lv_at hl 3 rfl) ?_
  refine lv_aload_n hx hb dL_law_1277 rfl (lv_at hl 1 rfl) ?_
  refine lv_iload hx hb dL_law_1278 (lv_at hl 5 rfl) ?_
  refine hz_iconst hx hb dL_law_1280 ?_
  refine hz_iadd hx hb dL_law_1281 ?_
  refine hz_sld hx hb hX0 hbl hbA hS (by omega) (by omega) dL_law_1282 ?_
  refine hz_lawMi (As := [zi (sc xs (i + 1))]) (rest := []) ⟨hx, hb, hml, hown, hts⟩ (c_X8_bestAnew l G y ad _ vThrown vN vC vNow vHaze vCold vHot vPipe vDeg vThaw vTrc vTurb vLeft vLoad vWater vTrips vMissed vBRow vBSum vCell vDirt vAim vErr vCor vBrk vTop vLm vRows vCols vDown vRight vBound vStrain vPrice vFirm vSums vRays vFalls vSom vHad (sc xs (i + 1)) hN hC hNow hHaze hCell hDirt hTop hLm hRows hCols hDown hRight hAim hErr hCor hBrk hBound (sc_rng _ _)) (cwV 1 hts gL_law_X8_bestAnew rfl rfl rfl (by decide +kernel) ⟨Nat.le_of_ble_eq_true rfl, Nat.le_of_ble_eq_true rfl⟩) hP hK hD hS hA 0 9 rfl rfl rfl rfl hl.1 rfl (Nat.le_of_ble_eq_true rfl) dL_law_1283 ⟨by show (cells + 2) + 0 ≤ 601024; omega, by show (slots + 12) + 0 ≤ 7293034; omega⟩ (fun _ => rfl) (fun u H locs hu hP hD hS => ?_)
  obtain ⟨b_th, b_r, b_sRays, b_sFalls, b_sMissed, b_sSom, b_sHad, b_sBRow, b_sBSum⟩ := u
  have hM := PLift.up hu
  clear hu
  have hP : va_P G vwCl (((hW ah z y vN vC vNow vHaze vCold vHot vPipe vDeg cThaw vTrc vTurb vLeft vLoad vWater vTrips vMi1 a_sM2 a_sSz a_sBs vCell vDirt vAim vErr vCor vBrk vTop vLm vRows vCols vDown vRight vBound vStrain vPrice vFirm vSums vTk vFl1 a_sF2 a_sTe a_sAw a_sRo a_sBe) ++ oW o0 y a_nO) ++ (mW ad y b_th vN vC vNow vHaze vCold vHot vPipe vDeg vThaw vTrc vTurb vLeft vLoad vWater vTrips b_sMissed b_sBRow b_sBSum vCell vDirt vAim vErr vCor vBrk vTop vLm vRows vCols vDown vRight vBound vStrain vPrice vFirm vSums b_sRays b_sFalls b_sSom b_sHad)) H := hP
  have hD : va_D (fun q : Nat => s.heap.size ≤ q) (((hW ah z y vN vC vNow vHaze vCold vHot vPipe vDeg cThaw vTrc vTurb vLeft vLoad vWater vTrips vMi1 a_sM2 a_sSz a_sBs vCell vDirt vAim vErr vCor vBrk vTop vLm vRows vCols vDown vRight vBound vStrain vPrice vFirm vSums vTk vFl1 a_sF2 a_sTe a_sAw a_sRo a_sBe) ++ oW o0 y a_nO) ++ (mW ad y b_th vN vC vNow vHaze vCold vHot vPipe vDeg vThaw vTrc vTurb vLeft vLoad vWater vTrips b_sMissed b_sBRow b_sBSum vCell vDirt vAim vErr vCor vBrk vTop vLm vRows vCols vDown vRight vBound vStrain vPrice vFirm vSums b_sRays b_sFalls b_sSom b_sHad)) := hD
  have hmk : b_th = kc := (hM.down.1).trans hkc.symm
  refine lv_istore (lv' := [(6, zi b_r), (5, zi kc), (0, .ref b), (1, .ref (ah 0)), (2, .ref (ad 0)), (3, .ref o0), (4, zi i)]) hx hb dL_law_1286 hl (by decide) rfl (fun ls hl => ?_)
  refine lv_aload_n hx hb dL_law_1288 rfl (lv_at hl 4 rfl) ?_
  refine hz_lawMi (As := []) (rest := []) ⟨hx, hb, hml, hown, hts⟩ (c_X8_thrown l G y ad _ b_th vN vC vNow vHaze vCold vHot vPipe vDeg vThaw vTrc vTurb vLeft vLoad vWater vTrips b_sMissed b_sBRow b_sBSum vCell vDirt vAim vErr vCor vBrk vTop vLm vRows vCols vDown vRight vBound vStrain vPrice vFirm vSums b_sRays b_sFalls b_sSom b_sHad) (cwV 0 hts gL_law_X8_thrown rfl rfl rfl (by decide +kernel) ⟨Nat.le_of_ble_eq_true rfl, Nat.le_of_ble_eq_true rfl⟩) hP hK hD hS hA 0 9 rfl rfl rfl rfl hl.1 rfl (Nat.le_of_ble_eq_true rfl) dL_law_1289 ⟨by show (cells + 2) + 0 ≤ 601024; omega, by show (slots + 12) + 0 ≤ 7293034; omega⟩ (fun _ => rfl) (fun u H locs hu hP hD hS => ?_)
  have hP : va_P G vwCl (((hW ah z y vN vC vNow vHaze vCold vHot vPipe vDeg cThaw vTrc vTurb vLeft vLoad vWater vTrips vMi1 a_sM2 a_sSz a_sBs vCell vDirt vAim vErr vCor vBrk vTop vLm vRows vCols vDown vRight vBound vStrain vPrice vFirm vSums vTk vFl1 a_sF2 a_sTe a_sAw a_sRo a_sBe) ++ oW o0 y a_nO) ++ (mW ad y b_th vN vC vNow vHaze vCold vHot vPipe vDeg vThaw vTrc vTurb vLeft vLoad vWater vTrips b_sMissed b_sBRow b_sBSum vCell vDirt vAim vErr vCor vBrk vTop vLm vRows vCols vDown vRight vBound vStrain vPrice vFirm vSums b_sRays b_sFalls b_sSom b_sHad)) H := hP
  have hD : va_D (fun q : Nat => s.heap.size ≤ q) (((hW ah z y vN vC vNow vHaze vCold vHot vPipe vDeg cThaw vTrc vTurb vLeft vLoad vWater vTrips vMi1 a_sM2 a_sSz a_sBs vCell vDirt vAim vErr vCor vBrk vTop vLm vRows vCols vDown vRight vBound vStrain vPrice vFirm vSums vTk vFl1 a_sF2 a_sTe a_sAw a_sRo a_sBe) ++ oW o0 y a_nO) ++ (mW ad y b_th vN vC vNow vHaze vCold vHot vPipe vDeg vThaw vTrc vTurb vLeft vLoad vWater vTrips b_sMissed b_sBRow b_sBSum vCell vDirt vAim vErr vCor vBrk vTop vLm vRows vCols vDown vRight vBound vStrain vPrice vFirm vSums b_sRays b_sFalls b_sSom b_sHad)) := hD
  refine lv_iload hx hb dL_law_1292 (lv_at hl 1 rfl) ?_
  refine hz_icmp_eq (tgt := 1299) hx hb dL_law_1294 (by decide) (by omega) (fun _ => ?_) (fun q => absurd (by omega) q)
  refine lv_iload hx hb dL_law_1299 (lv_at hl 1 rfl) ?_
  refine hz_if_ne (tgt := 1316) hx hb dL_law_1301 (by decide) (by omega) (fun c1 => ?_) (fun c1 => ?_)
  · have h0 : ¬ (if ¬ okZ (sc xs (i + 1)) vN vBrk = 1 then (1 : Int) else if (bstZ (sc xs (i + 1)) vN vAim vErr vCor (ryZ vN vC vNow vHaze vCell vDirt vTop vLm vRows vCols vDown vRight) vBound).1 = -1 then 2 else 0) = 0 := fun q => c1 (hkc.trans q)
    have hPz := hP
    have hDz := hD
    have hP : va_P G vwCl (((hW ah z y vN vC vNow vHaze vCold vHot vPipe vDeg cThaw vTrc vTurb vLeft vLoad vWater vTrips vMi1 a_sM2 a_sSz a_sBs vCell vDirt vAim vErr vCor vBrk vTop vLm vRows vCols vDown vRight vBound vStrain vPrice vFirm vSums vTk vFl1 a_sF2 a_sTe a_sAw a_sRo a_sBe) ++ oW o0 y a_nO) ++ (mW ad y b_th vN vC vNow vHaze vCold vHot vPipe vDeg vThaw vTrc vTurb vLeft vLoad vWater vTrips b_sMissed b_sBRow b_sBSum vCell vDirt vAim vErr vCor vBrk vTop vLm vRows vCols vDown vRight vBound vStrain vPrice vFirm vSums b_sRays b_sFalls b_sSom b_sHad)) H := hPz
    have hD : va_D (fun q : Nat => s.heap.size ≤ q) (((hW ah z y vN vC vNow vHaze vCold vHot vPipe vDeg cThaw vTrc vTurb vLeft vLoad vWater vTrips vMi1 a_sM2 a_sSz a_sBs vCell vDirt vAim vErr vCor vBrk vTop vLm vRows vCols vDown vRight vBound vStrain vPrice vFirm vSums vTk vFl1 a_sF2 a_sTe a_sAw a_sRo a_sBe) ++ oW o0 y a_nO) ++ (mW ad y b_th vN vC vNow vHaze vCold vHot vPipe vDeg vThaw vTrc vTurb vLeft vLoad vWater vTrips b_sMissed b_sBRow b_sBSum vCell vDirt vAim vErr vCor vBrk vTop vLm vRows vCols vDown vRight vBound vStrain vPrice vFirm vSums b_sRays b_sFalls b_sSom b_sHad)) := hDz
    refine lv_goto (tgt := 1990) hx hb dL_law_1316 (by decide) ?_
    refine W.widen (k := cells + 40) (n := slots + 400) (by omega) (by omega) ?_
    exact K z vN vC vNow vHaze vCold vHot vPipe vDeg cThaw vThaw vTrc vTurb vLeft vLoad vWater vTrips vMi1 a_sM2 a_sSz a_sBs b_th b_sMissed b_sBRow b_sBSum vCell vDirt vAim vErr vCor vBrk vTop vLm vRows vCols vDown vRight vBound vStrain vPrice vFirm vSums vTk vFl1 a_sF2 a_sTe a_sAw a_sRo a_sBe b_sRays b_sFalls b_sSom b_sHad a_nO H locs hFA0 hP hD hS ls (lv_sub hl [2, 3, 4, 5, 6] rfl)
  · have h0 : (if ¬ okZ (sc xs (i + 1)) vN vBrk = 1 then (1 : Int) else if (bstZ (sc xs (i + 1)) vN vAim vErr vCor (ryZ vN vC vNow vHaze vCell vDirt vTop vLm vRows vCols vDown vRight) vBound).1 = -1 then 2 else 0) = 0 := hkc.symm.trans c1
    have hPz := hP
    have hDz := hD
    have hout : a_nO 0 = wI ((bstZ (sc xs (i + 1)) vN vAim vErr vCor (ryZ vN vC vNow vHaze vCell vDirt vTop vLm vRows vCols vDown vRight) vBound).2) := hU.down h0
    have hans : b_r = (bstZ (sc xs (i + 1)) vN vAim vErr vCor (ryZ vN vC vNow vHaze vCell vDirt vTop vLm vRows vCols vDown vRight) vBound).2 := hM.down.2 h0
    have hP : va_P G vwCl (((hW ah z y vN vC vNow vHaze vCold vHot vPipe vDeg cThaw vTrc vTurb vLeft vLoad vWater vTrips vMi1 a_sM2 a_sSz a_sBs vCell vDirt vAim vErr vCor vBrk vTop vLm vRows vCols vDown vRight vBound vStrain vPrice vFirm vSums vTk vFl1 a_sF2 a_sTe a_sAw a_sRo a_sBe) ++ oW o0 y a_nO) ++ (mW ad y b_th vN vC vNow vHaze vCold vHot vPipe vDeg vThaw vTrc vTurb vLeft vLoad vWater vTrips b_sMissed b_sBRow b_sBSum vCell vDirt vAim vErr vCor vBrk vTop vLm vRows vCols vDown vRight vBound vStrain vPrice vFirm vSums b_sRays b_sFalls b_sSom b_sHad)) H := hPz
    have hD : va_D (fun q : Nat => s.heap.size ≤ q) (((hW ah z y vN vC vNow vHaze vCold vHot vPipe vDeg cThaw vTrc vTurb vLeft vLoad vWater vTrips vMi1 a_sM2 a_sSz a_sBs vCell vDirt vAim vErr vCor vBrk vTop vLm vRows vCols vDown vRight vBound vStrain vPrice vFirm vSums vTk vFl1 a_sF2 a_sTe a_sAw a_sRo a_sBe) ++ oW o0 y a_nO) ++ (mW ad y b_th vN vC vNow vHaze vCold vHot vPipe vDeg vThaw vTrc vTurb vLeft vLoad vWater vTrips b_sMissed b_sBRow b_sBSum vCell vDirt vAim vErr vCor vBrk vTop vLm vRows vCols vDown vRight vBound vStrain vPrice vFirm vSums b_sRays b_sFalls b_sSom b_sHad)) := hDz
    refine lv_aload_n hx hb dL_law_1304 rfl (lv_at hl 5 rfl) ?_
    refine hz_iconst hx hb dL_law_1305 ?_
    refine hz_laldo hx hb hK hP dL_law_1306 ?_
    refine lv_iload hx hb dL_law_1307 (lv_at hl 0 rfl) ?_
    refine hz_i2lw hx hb dL_law_1309 ?_
    refine hz_lcmp hx hb dL_law_1310 (fun v hv => ?_)
    refine lv_if_eq (tgt := 1316) hx hb dL_law_1311 (by decide) (fun _ => ?_) (fun q => absurd (hv.mpr (congrArg zL (hout.trans (congrArg wI hans.symm)))) q)
    refine lv_goto (tgt := 1990) hx hb dL_law_1316 (by decide) ?_
    refine W.widen (k := cells + 40) (n := slots + 400) (by omega) (by omega) ?_
    exact K z vN vC vNow vHaze vCold vHot vPipe vDeg cThaw vThaw vTrc vTurb vLeft vLoad vWater vTrips vMi1 a_sM2 a_sSz a_sBs b_th b_sMissed b_sBRow b_sBSum vCell vDirt vAim vErr vCor vBrk vTop vLm vRows vCols vDown vRight vBound vStrain vPrice vFirm vSums vTk vFl1 a_sF2 a_sTe a_sAw a_sRo a_sBe b_sRays b_sFalls b_sSom b_sHad a_nO H locs hFA0 hP hD hS ls (lv_sub hl [2, 3, 4, 5, 6] rfl)
set_option maxHeartbeats 16000000 in
set_option maxRecDepth 100000 in
theorem lw_c19 (p : Program) (l : Launch) (e : Env) (s : State) (m : MethodId) (below : List Frame) (meth : Method) (c : Code) (b L : Nat) (xs : Nat → Int32) (G : va_G) (mi zE : Nat) (y : Nat → ClassId) (ah ad : Nat → Nat) (o0 : Nat) (cells slots : Nat) (i : Int) (hQ : LC p l s m meth c b L xs G mi zE y) (hi : 0 ≤ i ∧ i + 7 ≤ L) (hroom : cells + 40 ≤ 601024 ∧ slots + 400 ≤ 7293034) (K : LK p l e s m below meth c b L xs G mi zE y ah ad o0 (cells + 40) (slots + 400) i 1990) : LK p l e s m below meth c b L xs G mi zE y ah ad o0 cells slots i 1319 := by
  intro z vN vC vNow vHaze vCold vHot vPipe vDeg cThaw vThaw vTrc vTurb vLeft vLoad vWater vTrips vMi1 vMi2 vSz vBs vThrown vMissed vBRow vBSum vCell vDirt vAim vErr vCor vBrk vTop vLm vRows vCols vDown vRight vBound vStrain vPrice vFirm vSums vTk vFl1 vFl2 vTe vAw vRo vBe vRays vFalls vSom vHad vO H locs hFA hP hD hS ls hl
  obtain ⟨hx, hb, hr, hts, hown, hml, hX0, hbl, hL, hlocks, hK, hGP, hX, hGN, hlt⟩ := hQ
  have hA : ∀ q : Nat, s.heap.size ≤ q → (fun q : Nat => s.heap.size ≤ q) q := fun _ h => h
  have hbA : ¬ (fun q : Nat => s.heap.size ≤ q) b := Nat.not_le.mpr hbl
  have hFA0 := hFA
  obtain ⟨hZ, hZe, hTk, hN, hC, hNow, hHaze, hSalt, hPipe, hDeg, hThC, hThM, hThE, hTrc, hTurb, hLeft, hLoad, hWater, hTrips, hCell, hDirt, hAim, hErr, hCor, hBrk, hTop, hLm, hRows, hCols, hDown, hRight, hBound, hStrain, hPrice, hFirm, hE0⟩ := hFA
  refine lv_aload_n hx hb dL_law_1319 rfl (lv_at hl 1 rfl) ?_
  refine lv_aload_n hx hb dL_law_1320 rfl (lv_at hl 0 rfl) ?_
  refine lv_iload hx hb dL_law_1321 (lv_at hl 4 rfl) ?_
  refine hz_iconst hx hb dL_law_1323 ?_
  refine hz_iadd hx hb dL_law_1324 ?_
  refine hz_sld hx hb hX0 hbl hbA hS (by omega) (by omega) dL_law_1325 ?_
  refine lv_aload_n hx hb dL_law_1326 rfl (lv_at hl 3 rfl) ?_
  refine hz_lawL (As := [.ref (ah 0), zi (sc xs (i + 1)), .ref o0]) (rest := []) ⟨hx, hb, hml, hown, hts⟩ (c_L_salt l hlt G ah z mi zE y _ vN vC vNow vHaze vCold vHot vPipe vDeg cThaw vTrc vTurb vLeft vLoad vWater vTrips vMi1 vMi2 vSz vBs vCell vDirt vAim vErr vCor vBrk vTop vLm vRows vCols vDown vRight vBound vStrain vPrice vFirm vSums vTk vFl1 vFl2 vTe vAw vRo vBe o0 vO (sc xs (i + 1)) hSalt (sc_rng _ _)) (vx_cwSW 3 hts gL_law_L_salt rfl rfl rfl (by decide +kernel) ⟨Nat.le_of_ble_eq_true rfl, Nat.le_of_ble_eq_true rfl⟩) hP hK hD hS hA hGP hX hGN rfl hl.1 rfl (Nat.le_of_ble_eq_true rfl) dL_law_1327 ⟨by show cells + 2 ≤ 601024; omega, by show slots + 12 ≤ 7293034; omega⟩ (fun r u H locs hu hP hD hS => ?_)
  obtain ⟨a_nCold, a_nO⟩ := u
  obtain ⟨rfl, hu⟩ := hu
  have hU := PLift.up hu
  clear hu
  refine hz_topi (fun kc hkc => ?_)
  have hP : va_P G vwCl (((hW ah z y vN vC vNow vHaze a_nCold vHot vPipe vDeg cThaw vTrc vTurb vLeft vLoad vWater vTrips vMi1 vMi2 vSz vBs vCell vDirt vAim vErr vCor vBrk vTop vLm vRows vCols vDown vRight vBound vStrain vPrice vFirm vSums vTk vFl1 vFl2 vTe vAw vRo vBe) ++ oW o0 y a_nO) ++ (mW ad y vThrown vN vC vNow vHaze vCold vHot vPipe vDeg vThaw vTrc vTurb vLeft vLoad vWater vTrips vMissed vBRow vBSum vCell vDirt vAim vErr vCor vBrk vTop vLm vRows vCols vDown vRight vBound vStrain vPrice vFirm vSums vRays vFalls vSom vHad)) H := hP
  have hD : va_D (fun q : Nat => s.heap.size ≤ q) (((hW ah z y vN vC vNow vHaze a_nCold vHot vPipe vDeg cThaw vTrc vTurb vLeft vLoad vWater vTrips vMi1 vMi2 vSz vBs vCell vDirt vAim vErr vCor vBrk vTop vLm vRows vCols vDown vRight vBound vStrain vPrice vFirm vSums vTk vFl1 vFl2 vTe vAw vRo vBe) ++ oW o0 y a_nO) ++ (mW ad y vThrown vN vC vNow vHaze vCold vHot vPipe vDeg vThaw vTrc vTurb vLeft vLoad vWater vTrips vMissed vBRow vBSum vCell vDirt vAim vErr vCor vBrk vTop vLm vRows vCols vDown vRight vBound vStrain vPrice vFirm vSums vRays vFalls vSom vHad)) := hD
  have hkr : 0 ≤ kc ∧ kc ≤ 3 := by rw [hkc]; first | omega | (split <;> (try split) <;> (try split) <;> omega)
  refine lv_istore (lv' := [(5, zi kc), (0, .ref b), (1, .ref (ah 0)), (2, .ref (ad 0)), (3, .ref o0), (4, zi i)]) hx hb dL_law_1330 hl (by decide) rfl (fun ls hl => ?_)
  refine lv_aload_n hx hb dL_law_1332 rfl (lv_at hl 3 rfl) ?_
  refine lv_aload_n hx hb dL_law_1333 rfl (lv_at hl 1 rfl) ?_
  refine lv_iload hx hb dL_law_1334 (lv_at hl 5 rfl) ?_
  refine hz_iconst hx hb dL_law_1336 ?_
  refine hz_iadd hx hb dL_law_1337 ?_
  refine hz_sld hx hb hX0 hbl hbA hS (by omega) (by omega) dL_law_1338 ?_
  refine hz_lawMi (As := [zi (sc xs (i + 1))]) (rest := []) ⟨hx, hb, hml, hown, hts⟩ (c_X8_salt l G y ad _ vThrown vN vC vNow vHaze vCold vHot vPipe vDeg vThaw vTrc vTurb vLeft vLoad vWater vTrips vMissed vBRow vBSum vCell vDirt vAim vErr vCor vBrk vTop vLm vRows vCols vDown vRight vBound vStrain vPrice vFirm vSums vRays vFalls vSom vHad (sc xs (i + 1)) hSalt (sc_rng _ _)) (cwV 1 hts gL_law_X8_salt rfl rfl rfl (by decide +kernel) ⟨Nat.le_of_ble_eq_true rfl, Nat.le_of_ble_eq_true rfl⟩) hP hK hD hS hA 0 9 rfl rfl rfl rfl hl.1 rfl (Nat.le_of_ble_eq_true rfl) dL_law_1339 ⟨by show (cells + 2) + 0 ≤ 601024; omega, by show (slots + 12) + 0 ≤ 7293034; omega⟩ (fun _ => rfl) (fun u H locs hu hP hD hS => ?_)
  obtain ⟨b_th, b_r, b_nCold⟩ := u
  have hM := PLift.up hu
  clear hu
  have hP : va_P G vwCl (((hW ah z y vN vC vNow vHaze a_nCold vHot vPipe vDeg cThaw vTrc vTurb vLeft vLoad vWater vTrips vMi1 vMi2 vSz vBs vCell vDirt vAim vErr vCor vBrk vTop vLm vRows vCols vDown vRight vBound vStrain vPrice vFirm vSums vTk vFl1 vFl2 vTe vAw vRo vBe) ++ oW o0 y a_nO) ++ (mW ad y b_th vN vC vNow vHaze b_nCold vHot vPipe vDeg vThaw vTrc vTurb vLeft vLoad vWater vTrips vMissed vBRow vBSum vCell vDirt vAim vErr vCor vBrk vTop vLm vRows vCols vDown vRight vBound vStrain vPrice vFirm vSums vRays vFalls vSom vHad)) H := hP
  have hD : va_D (fun q : Nat => s.heap.size ≤ q) (((hW ah z y vN vC vNow vHaze a_nCold vHot vPipe vDeg cThaw vTrc vTurb vLeft vLoad vWater vTrips vMi1 vMi2 vSz vBs vCell vDirt vAim vErr vCor vBrk vTop vLm vRows vCols vDown vRight vBound vStrain vPrice vFirm vSums vTk vFl1 vFl2 vTe vAw vRo vBe) ++ oW o0 y a_nO) ++ (mW ad y b_th vN vC vNow vHaze b_nCold vHot vPipe vDeg vThaw vTrc vTurb vLeft vLoad vWater vTrips vMissed vBRow vBSum vCell vDirt vAim vErr vCor vBrk vTop vLm vRows vCols vDown vRight vBound vStrain vPrice vFirm vSums vRays vFalls vSom vHad)) := hD
  have hmk : b_th = kc := (hM.down.1).trans hkc.symm
  refine lv_istore (lv' := [(6, zi b_r), (5, zi kc), (0, .ref b), (1, .ref (ah 0)), (2, .ref (ad 0)), (3, .ref o0), (4, zi i)]) hx hb dL_law_1342 hl (by decide) rfl (fun ls hl => ?_)
  refine lv_aload_n hx hb dL_law_1344 rfl (lv_at hl 4 rfl) ?_
  refine hz_lawMi (As := []) (rest := []) ⟨hx, hb, hml, hown, hts⟩ (c_X8_thrown l G y ad _ b_th vN vC vNow vHaze b_nCold vHot vPipe vDeg vThaw vTrc vTurb vLeft vLoad vWater vTrips vMissed vBRow vBSum vCell vDirt vAim vErr vCor vBrk vTop vLm vRows vCols vDown vRight vBound vStrain vPrice vFirm vSums vRays vFalls vSom vHad) (cwV 0 hts gL_law_X8_thrown rfl rfl rfl (by decide +kernel) ⟨Nat.le_of_ble_eq_true rfl, Nat.le_of_ble_eq_true rfl⟩) hP hK hD hS hA 0 9 rfl rfl rfl rfl hl.1 rfl (Nat.le_of_ble_eq_true rfl) dL_law_1345 ⟨by show (cells + 2) + 0 ≤ 601024; omega, by show (slots + 12) + 0 ≤ 7293034; omega⟩ (fun _ => rfl) (fun u H locs hu hP hD hS => ?_)
  have hP : va_P G vwCl (((hW ah z y vN vC vNow vHaze a_nCold vHot vPipe vDeg cThaw vTrc vTurb vLeft vLoad vWater vTrips vMi1 vMi2 vSz vBs vCell vDirt vAim vErr vCor vBrk vTop vLm vRows vCols vDown vRight vBound vStrain vPrice vFirm vSums vTk vFl1 vFl2 vTe vAw vRo vBe) ++ oW o0 y a_nO) ++ (mW ad y b_th vN vC vNow vHaze b_nCold vHot vPipe vDeg vThaw vTrc vTurb vLeft vLoad vWater vTrips vMissed vBRow vBSum vCell vDirt vAim vErr vCor vBrk vTop vLm vRows vCols vDown vRight vBound vStrain vPrice vFirm vSums vRays vFalls vSom vHad)) H := hP
  have hD : va_D (fun q : Nat => s.heap.size ≤ q) (((hW ah z y vN vC vNow vHaze a_nCold vHot vPipe vDeg cThaw vTrc vTurb vLeft vLoad vWater vTrips vMi1 vMi2 vSz vBs vCell vDirt vAim vErr vCor vBrk vTop vLm vRows vCols vDown vRight vBound vStrain vPrice vFirm vSums vTk vFl1 vFl2 vTe vAw vRo vBe) ++ oW o0 y a_nO) ++ (mW ad y b_th vN vC vNow vHaze b_nCold vHot vPipe vDeg vThaw vTrc vTurb vLeft vLoad vWater vTrips vMissed vBRow vBSum vCell vDirt vAim vErr vCor vBrk vTop vLm vRows vCols vDown vRight vBound vStrain vPrice vFirm vSums vRays vFalls vSom vHad)) := hD
  refine lv_iload hx hb dL_law_1348 (lv_at hl 1 rfl) ?_
  refine hz_icmp_eq (tgt := 1355) hx hb dL_law_1350 (by decide) (by omega) (fun _ => ?_) (fun q => absurd (by omega) q)
  refine lv_iload hx hb dL_law_1355 (lv_at hl 1 rfl) ?_
  refine hz_if_ne (tgt := 1372) hx hb dL_law_1357 (by decide) (by omega) (fun c1 => ?_) (fun c1 => ?_)
  · have h0 : ¬ (if ¬ (1 ≤ (sc xs (i + 1)) ∧ (sc xs (i + 1)) ≤ 500) then (1 : Int) else if 1000 < vCold + vHot + (sc xs (i + 1)) then 2 else 0) = 0 := fun q => c1 (hkc.trans q)
    have hPz := hP
    have hDz := hD
    have hs_nCold := (hU.down.2.1 h0).symm
    subst hs_nCold
    have ht_nCold := (hM.down.2.2.2 h0).symm
    subst ht_nCold
    have hP : va_P G vwCl (((hW ah z y vN vC vNow vHaze vCold vHot vPipe vDeg cThaw vTrc vTurb vLeft vLoad vWater vTrips vMi1 vMi2 vSz vBs vCell vDirt vAim vErr vCor vBrk vTop vLm vRows vCols vDown vRight vBound vStrain vPrice vFirm vSums vTk vFl1 vFl2 vTe vAw vRo vBe) ++ oW o0 y a_nO) ++ (mW ad y b_th vN vC vNow vHaze vCold vHot vPipe vDeg vThaw vTrc vTurb vLeft vLoad vWater vTrips vMissed vBRow vBSum vCell vDirt vAim vErr vCor vBrk vTop vLm vRows vCols vDown vRight vBound vStrain vPrice vFirm vSums vRays vFalls vSom vHad)) H := hPz
    have hD : va_D (fun q : Nat => s.heap.size ≤ q) (((hW ah z y vN vC vNow vHaze vCold vHot vPipe vDeg cThaw vTrc vTurb vLeft vLoad vWater vTrips vMi1 vMi2 vSz vBs vCell vDirt vAim vErr vCor vBrk vTop vLm vRows vCols vDown vRight vBound vStrain vPrice vFirm vSums vTk vFl1 vFl2 vTe vAw vRo vBe) ++ oW o0 y a_nO) ++ (mW ad y b_th vN vC vNow vHaze vCold vHot vPipe vDeg vThaw vTrc vTurb vLeft vLoad vWater vTrips vMissed vBRow vBSum vCell vDirt vAim vErr vCor vBrk vTop vLm vRows vCols vDown vRight vBound vStrain vPrice vFirm vSums vRays vFalls vSom vHad)) := hDz
    refine lv_goto (tgt := 1990) hx hb dL_law_1372 (by decide) ?_
    refine W.widen (k := cells + 40) (n := slots + 400) (by omega) (by omega) ?_
    exact K z vN vC vNow vHaze vCold vHot vPipe vDeg cThaw vThaw vTrc vTurb vLeft vLoad vWater vTrips vMi1 vMi2 vSz vBs b_th vMissed vBRow vBSum vCell vDirt vAim vErr vCor vBrk vTop vLm vRows vCols vDown vRight vBound vStrain vPrice vFirm vSums vTk vFl1 vFl2 vTe vAw vRo vBe vRays vFalls vSom vHad a_nO H locs hFA0 hP hD hS ls (lv_sub hl [2, 3, 4, 5, 6] rfl)
  · have h0 : (if ¬ (1 ≤ (sc xs (i + 1)) ∧ (sc xs (i + 1)) ≤ 500) then (1 : Int) else if 1000 < vCold + vHot + (sc xs (i + 1)) then 2 else 0) = 0 := hkc.symm.trans c1
    have hPz := hP
    have hDz := hD
    have hs_nCold := (hU.down.1 h0).symm
    subst hs_nCold
    have hout : a_nO 0 = wI (vCold + (sc xs (i + 1))) := hU.down.2.2 h0
    have ht_nCold := (hM.down.2.2.1 h0).symm
    subst ht_nCold
    have hans : b_r = vCold + (sc xs (i + 1)) := hM.down.2.1 h0
    have hP : va_P G vwCl (((hW ah z y vN vC vNow vHaze (vCold + (sc xs (i + 1))) vHot vPipe vDeg cThaw vTrc vTurb vLeft vLoad vWater vTrips vMi1 vMi2 vSz vBs vCell vDirt vAim vErr vCor vBrk vTop vLm vRows vCols vDown vRight vBound vStrain vPrice vFirm vSums vTk vFl1 vFl2 vTe vAw vRo vBe) ++ oW o0 y a_nO) ++ (mW ad y b_th vN vC vNow vHaze (vCold + (sc xs (i + 1))) vHot vPipe vDeg vThaw vTrc vTurb vLeft vLoad vWater vTrips vMissed vBRow vBSum vCell vDirt vAim vErr vCor vBrk vTop vLm vRows vCols vDown vRight vBound vStrain vPrice vFirm vSums vRays vFalls vSom vHad)) H := hPz
    have hD : va_D (fun q : Nat => s.heap.size ≤ q) (((hW ah z y vN vC vNow vHaze (vCold + (sc xs (i + 1))) vHot vPipe vDeg cThaw vTrc vTurb vLeft vLoad vWater vTrips vMi1 vMi2 vSz vBs vCell vDirt vAim vErr vCor vBrk vTop vLm vRows vCols vDown vRight vBound vStrain vPrice vFirm vSums vTk vFl1 vFl2 vTe vAw vRo vBe) ++ oW o0 y a_nO) ++ (mW ad y b_th vN vC vNow vHaze (vCold + (sc xs (i + 1))) vHot vPipe vDeg vThaw vTrc vTurb vLeft vLoad vWater vTrips vMissed vBRow vBSum vCell vDirt vAim vErr vCor vBrk vTop vLm vRows vCols vDown vRight vBound vStrain vPrice vFirm vSums vRays vFalls vSom vHad)) := hDz
    refine lv_aload_n hx hb dL_law_1360 rfl (lv_at hl 5 rfl) ?_
    refine hz_iconst hx hb dL_law_1361 ?_
    refine hz_laldo hx hb hK hP dL_law_1362 ?_
    refine lv_iload hx hb dL_law_1363 (lv_at hl 0 rfl) ?_
    refine hz_i2lw hx hb dL_law_1365 ?_
    refine hz_lcmp hx hb dL_law_1366 (fun v hv => ?_)
    refine lv_if_eq (tgt := 1372) hx hb dL_law_1367 (by decide) (fun _ => ?_) (fun q => absurd (hv.mpr (congrArg zL (hout.trans (congrArg wI hans.symm)))) q)
    refine lv_goto (tgt := 1990) hx hb dL_law_1372 (by decide) ?_
    refine W.widen (k := cells + 40) (n := slots + 400) (by omega) (by omega) ?_
    exact K z vN vC vNow vHaze (vCold + (sc xs (i + 1))) vHot vPipe vDeg cThaw vThaw vTrc vTurb vLeft vLoad vWater vTrips vMi1 vMi2 vSz vBs b_th vMissed vBRow vBSum vCell vDirt vAim vErr vCor vBrk vTop vLm vRows vCols vDown vRight vBound vStrain vPrice vFirm vSums vTk vFl1 vFl2 vTe vAw vRo vBe vRays vFalls vSom vHad a_nO H locs ⟨hZ, hZe, hTk, hN, hC, hNow, hHaze, (show 0 ≤ (vCold + (sc xs (i + 1))) ∧ 0 ≤ vHot ∧ (vCold + (sc xs (i + 1))) + vHot ≤ 1000 from by omega), hPipe, hDeg, hThC, hThM, hThE, hTrc, hTurb, hLeft, hLoad, hWater, hTrips, hCell, hDirt, hAim, hErr, hCor, hBrk, hTop, hLm, hRows, hCols, hDown, hRight, hBound, hStrain, hPrice, hFirm, hE0⟩ hP hD hS ls (lv_sub hl [2, 3, 4, 5, 6] rfl)
set_option maxHeartbeats 16000000 in
set_option maxRecDepth 100000 in
theorem lw_c20 (p : Program) (l : Launch) (e : Env) (s : State) (m : MethodId) (below : List Frame) (meth : Method) (c : Code) (b L : Nat) (xs : Nat → Int32) (G : va_G) (mi zE : Nat) (y : Nat → ClassId) (ah ad : Nat → Nat) (o0 : Nat) (cells slots : Nat) (i : Int) (hQ : LC p l s m meth c b L xs G mi zE y) (hi : 0 ≤ i ∧ i + 7 ≤ L) (hroom : cells + 40 ≤ 601024 ∧ slots + 400 ≤ 7293034) (K : LK p l e s m below meth c b L xs G mi zE y ah ad o0 (cells + 40) (slots + 400) i 1990) : LK p l e s m below meth c b L xs G mi zE y ah ad o0 cells slots i 1375 := by
  intro z vN vC vNow vHaze vCold vHot vPipe vDeg cThaw vThaw vTrc vTurb vLeft vLoad vWater vTrips vMi1 vMi2 vSz vBs vThrown vMissed vBRow vBSum vCell vDirt vAim vErr vCor vBrk vTop vLm vRows vCols vDown vRight vBound vStrain vPrice vFirm vSums vTk vFl1 vFl2 vTe vAw vRo vBe vRays vFalls vSom vHad vO H locs hFA hP hD hS ls hl
  obtain ⟨hx, hb, hr, hts, hown, hml, hX0, hbl, hL, hlocks, hK, hGP, hX, hGN, hlt⟩ := hQ
  have hA : ∀ q : Nat, s.heap.size ≤ q → (fun q : Nat => s.heap.size ≤ q) q := fun _ h => h
  have hbA : ¬ (fun q : Nat => s.heap.size ≤ q) b := Nat.not_le.mpr hbl
  have hFA0 := hFA
  obtain ⟨hZ, hZe, hTk, hN, hC, hNow, hHaze, hSalt, hPipe, hDeg, hThC, hThM, hThE, hTrc, hTurb, hLeft, hLoad, hWater, hTrips, hCell, hDirt, hAim, hErr, hCor, hBrk, hTop, hLm, hRows, hCols, hDown, hRight, hBound, hStrain, hPrice, hFirm, hE0⟩ := hFA
  refine lv_aload_n hx hb dL_law_1375 rfl (lv_at hl 1 rfl) ?_
  refine lv_aload_n hx hb dL_law_1376 rfl (lv_at hl 0 rfl) ?_
  refine lv_iload hx hb dL_law_1377 (lv_at hl 4 rfl) ?_
  refine hz_iconst hx hb dL_law_1379 ?_
  refine hz_iadd hx hb dL_law_1380 ?_
  refine hz_sld hx hb hX0 hbl hbA hS (by omega) (by omega) dL_law_1381 ?_
  refine hz_if_eq (tgt := 1389) hx hb dL_law_1382 (by decide) (sc_rng _ _) (fun c2 => ?_) (fun c2 => ?_)
  · refine hz_iconst hx hb dL_law_1389 ?_
    refine lv_aload_n hx hb dL_law_1390 rfl (lv_at hl 3 rfl) ?_
    refine hz_lawL (As := [.ref (ah 0), zi 0, .ref o0]) (rest := []) ⟨hx, hb, hml, hown, hts⟩ (c_L_pipe l hlt G ah z mi zE y _ vN vC vNow vHaze vCold vHot vPipe vDeg cThaw vTrc vTurb vLeft vLoad vWater vTrips vMi1 vMi2 vSz vBs vCell vDirt vAim vErr vCor vBrk vTop vLm vRows vCols vDown vRight vBound vStrain vPrice vFirm vSums vTk vFl1 vFl2 vTe vAw vRo vBe o0 vO (0 : Int) hPipe (by omega)) (vx_cwSW 3 hts gL_law_L_pipe rfl rfl rfl (by decide +kernel) ⟨Nat.le_of_ble_eq_true rfl, Nat.le_of_ble_eq_true rfl⟩) hP hK hD hS hA hGP hX hGN rfl hl.1 rfl (Nat.le_of_ble_eq_true rfl) dL_law_1391 ⟨by show cells + 1 ≤ 601024; omega, by show slots + 6 ≤ 7293034; omega⟩ (fun r u H locs hu hP hD hS => ?_)
    obtain ⟨a_nPipe, a_nDeg, a_nO⟩ := u
    obtain ⟨rfl, hu⟩ := hu
    have hU := PLift.up hu
    clear hu
    refine hz_topi (fun kc hkc => ?_)
    have hP : va_P G vwCl (((hW ah z y vN vC vNow vHaze vCold vHot a_nPipe a_nDeg cThaw vTrc vTurb vLeft vLoad vWater vTrips vMi1 vMi2 vSz vBs vCell vDirt vAim vErr vCor vBrk vTop vLm vRows vCols vDown vRight vBound vStrain vPrice vFirm vSums vTk vFl1 vFl2 vTe vAw vRo vBe) ++ oW o0 y a_nO) ++ (mW ad y vThrown vN vC vNow vHaze vCold vHot vPipe vDeg vThaw vTrc vTurb vLeft vLoad vWater vTrips vMissed vBRow vBSum vCell vDirt vAim vErr vCor vBrk vTop vLm vRows vCols vDown vRight vBound vStrain vPrice vFirm vSums vRays vFalls vSom vHad)) H := hP
    have hD : va_D (fun q : Nat => s.heap.size ≤ q) (((hW ah z y vN vC vNow vHaze vCold vHot a_nPipe a_nDeg cThaw vTrc vTurb vLeft vLoad vWater vTrips vMi1 vMi2 vSz vBs vCell vDirt vAim vErr vCor vBrk vTop vLm vRows vCols vDown vRight vBound vStrain vPrice vFirm vSums vTk vFl1 vFl2 vTe vAw vRo vBe) ++ oW o0 y a_nO) ++ (mW ad y vThrown vN vC vNow vHaze vCold vHot vPipe vDeg vThaw vTrc vTurb vLeft vLoad vWater vTrips vMissed vBRow vBSum vCell vDirt vAim vErr vCor vBrk vTop vLm vRows vCols vDown vRight vBound vStrain vPrice vFirm vSums vRays vFalls vSom vHad)) := hD
    have hkr : 0 ≤ kc ∧ kc ≤ 3 := by rw [hkc]; first | omega | (split <;> (try split) <;> (try split) <;> omega)
    refine lv_istore (lv' := [(5, zi kc), (0, .ref b), (1, .ref (ah 0)), (2, .ref (ad 0)), (3, .ref o0), (4, zi i)]) hx hb dL_law_1394 hl (by decide) rfl (fun ls hl => ?_)
    refine lv_aload_n hx hb dL_law_1396 rfl (lv_at hl 3 rfl) ?_
    refine lv_aload_n hx hb dL_law_1397 rfl (lv_at hl 1 rfl) ?_
    refine lv_iload hx hb dL_law_1398 (lv_at hl 5 rfl) ?_
    refine hz_iconst hx hb dL_law_1400 ?_
    refine hz_iadd hx hb dL_law_1401 ?_
    refine hz_sld hx hb hX0 hbl hbA hS (by omega) (by omega) dL_law_1402 ?_
    refine hz_if_eq (tgt := 1410) hx hb dL_law_1403 (by decide) (sc_rng _ _) (fun _ => ?_) (fun q => absurd c2 q)
    refine hz_iconst hx hb dL_law_1410 ?_
    refine hz_lawMi (As := [zi 0]) (rest := []) ⟨hx, hb, hml, hown, hts⟩ (c_X8_pipe l G y ad _ vThrown vN vC vNow vHaze vCold vHot vPipe vDeg vThaw vTrc vTurb vLeft vLoad vWater vTrips vMissed vBRow vBSum vCell vDirt vAim vErr vCor vBrk vTop vLm vRows vCols vDown vRight vBound vStrain vPrice vFirm vSums vRays vFalls vSom vHad (0 : Int) hPipe (by omega)) (cwV 1 hts gL_law_X8_pipe rfl rfl rfl (by decide +kernel) ⟨Nat.le_of_ble_eq_true rfl, Nat.le_of_ble_eq_true rfl⟩) hP hK hD hS hA 0 9 rfl rfl rfl rfl hl.1 rfl (Nat.le_of_ble_eq_true rfl) dL_law_1411 ⟨by show (cells + 1) + 0 ≤ 601024; omega, by show (slots + 6) + 0 ≤ 7293034; omega⟩ (fun _ => rfl) (fun u H locs hu hP hD hS => ?_)
    obtain ⟨b_th, b_r, b_nPipe, b_nDeg⟩ := u
    have hM := PLift.up hu
    clear hu
    have hP : va_P G vwCl (((hW ah z y vN vC vNow vHaze vCold vHot a_nPipe a_nDeg cThaw vTrc vTurb vLeft vLoad vWater vTrips vMi1 vMi2 vSz vBs vCell vDirt vAim vErr vCor vBrk vTop vLm vRows vCols vDown vRight vBound vStrain vPrice vFirm vSums vTk vFl1 vFl2 vTe vAw vRo vBe) ++ oW o0 y a_nO) ++ (mW ad y b_th vN vC vNow vHaze vCold vHot b_nPipe b_nDeg vThaw vTrc vTurb vLeft vLoad vWater vTrips vMissed vBRow vBSum vCell vDirt vAim vErr vCor vBrk vTop vLm vRows vCols vDown vRight vBound vStrain vPrice vFirm vSums vRays vFalls vSom vHad)) H := hP
    have hD : va_D (fun q : Nat => s.heap.size ≤ q) (((hW ah z y vN vC vNow vHaze vCold vHot a_nPipe a_nDeg cThaw vTrc vTurb vLeft vLoad vWater vTrips vMi1 vMi2 vSz vBs vCell vDirt vAim vErr vCor vBrk vTop vLm vRows vCols vDown vRight vBound vStrain vPrice vFirm vSums vTk vFl1 vFl2 vTe vAw vRo vBe) ++ oW o0 y a_nO) ++ (mW ad y b_th vN vC vNow vHaze vCold vHot b_nPipe b_nDeg vThaw vTrc vTurb vLeft vLoad vWater vTrips vMissed vBRow vBSum vCell vDirt vAim vErr vCor vBrk vTop vLm vRows vCols vDown vRight vBound vStrain vPrice vFirm vSums vRays vFalls vSom vHad)) := hD
    have hmk : b_th = kc := (hM.down.1).trans hkc.symm
    refine lv_istore (lv' := [(6, zi b_r), (5, zi kc), (0, .ref b), (1, .ref (ah 0)), (2, .ref (ad 0)), (3, .ref o0), (4, zi i)]) hx hb dL_law_1414 hl (by decide) rfl (fun ls hl => ?_)
    refine lv_aload_n hx hb dL_law_1416 rfl (lv_at hl 4 rfl) ?_
    refine hz_lawMi (As := []) (rest := []) ⟨hx, hb, hml, hown, hts⟩ (c_X8_thrown l G y ad _ b_th vN vC vNow vHaze vCold vHot b_nPipe b_nDeg vThaw vTrc vTurb vLeft vLoad vWater vTrips vMissed vBRow vBSum vCell vDirt vAim vErr vCor vBrk vTop vLm vRows vCols vDown vRight vBound vStrain vPrice vFirm vSums vRays vFalls vSom vHad) (cwV 0 hts gL_law_X8_thrown rfl rfl rfl (by decide +kernel) ⟨Nat.le_of_ble_eq_true rfl, Nat.le_of_ble_eq_true rfl⟩) hP hK hD hS hA 0 9 rfl rfl rfl rfl hl.1 rfl (Nat.le_of_ble_eq_true rfl) dL_law_1417 ⟨by show (cells + 1) + 0 ≤ 601024; omega, by show (slots + 6) + 0 ≤ 7293034; omega⟩ (fun _ => rfl) (fun u H locs hu hP hD hS => ?_)
    have hP : va_P G vwCl (((hW ah z y vN vC vNow vHaze vCold vHot a_nPipe a_nDeg cThaw vTrc vTurb vLeft vLoad vWater vTrips vMi1 vMi2 vSz vBs vCell vDirt vAim vErr vCor vBrk vTop vLm vRows vCols vDown vRight vBound vStrain vPrice vFirm vSums vTk vFl1 vFl2 vTe vAw vRo vBe) ++ oW o0 y a_nO) ++ (mW ad y b_th vN vC vNow vHaze vCold vHot b_nPipe b_nDeg vThaw vTrc vTurb vLeft vLoad vWater vTrips vMissed vBRow vBSum vCell vDirt vAim vErr vCor vBrk vTop vLm vRows vCols vDown vRight vBound vStrain vPrice vFirm vSums vRays vFalls vSom vHad)) H := hP
    have hD : va_D (fun q : Nat => s.heap.size ≤ q) (((hW ah z y vN vC vNow vHaze vCold vHot a_nPipe a_nDeg cThaw vTrc vTurb vLeft vLoad vWater vTrips vMi1 vMi2 vSz vBs vCell vDirt vAim vErr vCor vBrk vTop vLm vRows vCols vDown vRight vBound vStrain vPrice vFirm vSums vTk vFl1 vFl2 vTe vAw vRo vBe) ++ oW o0 y a_nO) ++ (mW ad y b_th vN vC vNow vHaze vCold vHot b_nPipe b_nDeg vThaw vTrc vTurb vLeft vLoad vWater vTrips vMissed vBRow vBSum vCell vDirt vAim vErr vCor vBrk vTop vLm vRows vCols vDown vRight vBound vStrain vPrice vFirm vSums vRays vFalls vSom vHad)) := hD
    refine lv_iload hx hb dL_law_1420 (lv_at hl 1 rfl) ?_
    refine hz_icmp_eq (tgt := 1427) hx hb dL_law_1422 (by decide) (by omega) (fun _ => ?_) (fun q => absurd (by omega) q)
    refine lv_iload hx hb dL_law_1427 (lv_at hl 1 rfl) ?_
    refine hz_if_ne (tgt := 1444) hx hb dL_law_1429 (by decide) (by omega) (fun c1 => ?_) (fun c1 => ?_)
    · have h0 : ¬ (if vPipe = 2 ∨ ((0 : Int) = 1 ∧ vPipe = 1) ∨ ((0 : Int) = 0 ∧ ¬ vPipe = 1) then (1 : Int) else 0) = 0 := fun q => c1 (hkc.trans q)
      have hPz := hP
      have hDz := hD
      have hs_nPipe := (hU.down.2.2.1 h0).symm
      subst hs_nPipe
      have hs_nDeg := (hU.down.2.2.2.1 h0).symm
      subst hs_nDeg
      have ht_nPipe := (hM.down.2.2.2.1 h0).symm
      subst ht_nPipe
      have ht_nDeg := (hM.down.2.2.2.2.2 h0).symm
      subst ht_nDeg
      have hP : va_P G vwCl (((hW ah z y vN vC vNow vHaze vCold vHot vPipe vDeg cThaw vTrc vTurb vLeft vLoad vWater vTrips vMi1 vMi2 vSz vBs vCell vDirt vAim vErr vCor vBrk vTop vLm vRows vCols vDown vRight vBound vStrain vPrice vFirm vSums vTk vFl1 vFl2 vTe vAw vRo vBe) ++ oW o0 y a_nO) ++ (mW ad y b_th vN vC vNow vHaze vCold vHot vPipe vDeg vThaw vTrc vTurb vLeft vLoad vWater vTrips vMissed vBRow vBSum vCell vDirt vAim vErr vCor vBrk vTop vLm vRows vCols vDown vRight vBound vStrain vPrice vFirm vSums vRays vFalls vSom vHad)) H := hPz
      have hD : va_D (fun q : Nat => s.heap.size ≤ q) (((hW ah z y vN vC vNow vHaze vCold vHot vPipe vDeg cThaw vTrc vTurb vLeft vLoad vWater vTrips vMi1 vMi2 vSz vBs vCell vDirt vAim vErr vCor vBrk vTop vLm vRows vCols vDown vRight vBound vStrain vPrice vFirm vSums vTk vFl1 vFl2 vTe vAw vRo vBe) ++ oW o0 y a_nO) ++ (mW ad y b_th vN vC vNow vHaze vCold vHot vPipe vDeg vThaw vTrc vTurb vLeft vLoad vWater vTrips vMissed vBRow vBSum vCell vDirt vAim vErr vCor vBrk vTop vLm vRows vCols vDown vRight vBound vStrain vPrice vFirm vSums vRays vFalls vSom vHad)) := hDz
      refine lv_goto (tgt := 1990) hx hb dL_law_1444 (by decide) ?_
      refine W.widen (k := cells + 40) (n := slots + 400) (by omega) (by omega) ?_
      exact K z vN vC vNow vHaze vCold vHot vPipe vDeg cThaw vThaw vTrc vTurb vLeft vLoad vWater vTrips vMi1 vMi2 vSz vBs b_th vMissed vBRow vBSum vCell vDirt vAim vErr vCor vBrk vTop vLm vRows vCols vDown vRight vBound vStrain vPrice vFirm vSums vTk vFl1 vFl2 vTe vAw vRo vBe vRays vFalls vSom vHad a_nO H locs hFA0 hP hD hS ls (lv_sub hl [2, 3, 4, 5, 6] rfl)
    · have h0 : (if vPipe = 2 ∨ ((0 : Int) = 1 ∧ vPipe = 1) ∨ ((0 : Int) = 0 ∧ ¬ vPipe = 1) then (1 : Int) else 0) = 0 := hkc.symm.trans c1
      have hPz := hP
      have hDz := hD
      have hout : a_nO 0 = wI ((if (0 : Int) = 1 then 30 else 0)) := hU.down.2.2.2.2 h0
      have hs_nPipe := (hU.down.1 h0).symm
      subst hs_nPipe
      have hs_nDeg := (hU.down.2.1 h0).symm
      subst hs_nDeg
      have ht_nPipe := (hM.down.2.2.1 h0).symm
      subst ht_nPipe
      have ht_nDeg := (hM.down.2.2.2.2.1 h0).symm
      subst ht_nDeg
      have hans : b_r = (if (0 : Int) = 1 then 30 else 0) := hM.down.2.1 h0
      have hP : va_P G vwCl (((hW ah z y vN vC vNow vHaze vCold vHot (if (0 : Int) = 1 then 1 else 0) (if (0 : Int) = 1 then 30 else 0) cThaw vTrc vTurb vLeft vLoad vWater vTrips vMi1 vMi2 vSz vBs vCell vDirt vAim vErr vCor vBrk vTop vLm vRows vCols vDown vRight vBound vStrain vPrice vFirm vSums vTk vFl1 vFl2 vTe vAw vRo vBe) ++ oW o0 y a_nO) ++ (mW ad y b_th vN vC vNow vHaze vCold vHot (if (0 : Int) = 1 then 1 else 0) (if (0 : Int) = 1 then 30 else 0) vThaw vTrc vTurb vLeft vLoad vWater vTrips vMissed vBRow vBSum vCell vDirt vAim vErr vCor vBrk vTop vLm vRows vCols vDown vRight vBound vStrain vPrice vFirm vSums vRays vFalls vSom vHad)) H := hPz
      have hD : va_D (fun q : Nat => s.heap.size ≤ q) (((hW ah z y vN vC vNow vHaze vCold vHot (if (0 : Int) = 1 then 1 else 0) (if (0 : Int) = 1 then 30 else 0) cThaw vTrc vTurb vLeft vLoad vWater vTrips vMi1 vMi2 vSz vBs vCell vDirt vAim vErr vCor vBrk vTop vLm vRows vCols vDown vRight vBound vStrain vPrice vFirm vSums vTk vFl1 vFl2 vTe vAw vRo vBe) ++ oW o0 y a_nO) ++ (mW ad y b_th vN vC vNow vHaze vCold vHot (if (0 : Int) = 1 then 1 else 0) (if (0 : Int) = 1 then 30 else 0) vThaw vTrc vTurb vLeft vLoad vWater vTrips vMissed vBRow vBSum vCell vDirt vAim vErr vCor vBrk vTop vLm vRows vCols vDown vRight vBound vStrain vPrice vFirm vSums vRays vFalls vSom vHad)) := hDz
      refine lv_aload_n hx hb dL_law_1432 rfl (lv_at hl 5 rfl) ?_
      refine hz_iconst hx hb dL_law_1433 ?_
      refine hz_laldo hx hb hK hP dL_law_1434 ?_
      refine lv_iload hx hb dL_law_1435 (lv_at hl 0 rfl) ?_
      refine hz_i2lw hx hb dL_law_1437 ?_
      refine hz_lcmp hx hb dL_law_1438 (fun v hv => ?_)
      refine lv_if_eq (tgt := 1444) hx hb dL_law_1439 (by decide) (fun _ => ?_) (fun q => absurd (hv.mpr (congrArg zL (hout.trans (congrArg wI hans.symm)))) q)
      refine lv_goto (tgt := 1990) hx hb dL_law_1444 (by decide) ?_
      refine W.widen (k := cells + 40) (n := slots + 400) (by omega) (by omega) ?_
      exact K z vN vC vNow vHaze vCold vHot (if (0 : Int) = 1 then 1 else 0) (if (0 : Int) = 1 then 30 else 0) cThaw vThaw vTrc vTurb vLeft vLoad vWater vTrips vMi1 vMi2 vSz vBs b_th vMissed vBRow vBSum vCell vDirt vAim vErr vCor vBrk vTop vLm vRows vCols vDown vRight vBound vStrain vPrice vFirm vSums vTk vFl1 vFl2 vTe vAw vRo vBe vRays vFalls vSom vHad a_nO H locs ⟨hZ, hZe, hTk, hN, hC, hNow, hHaze, hSalt, (show 0 ≤ (if (0 : Int) = 1 then 1 else 0) ∧ (if (0 : Int) = 1 then 1 else 0) ≤ 2 from by omega), (show 0 ≤ (if (0 : Int) = 1 then 30 else 0) ∧ (if (0 : Int) = 1 then 30 else 0) ≤ 40 ∧ ((if (0 : Int) = 1 then 1 else 0) = 1 → 20 ≤ (if (0 : Int) = 1 then 30 else 0)) from by omega), (show (if (0 : Int) = 1 then 1 else 0) = 2 → 0 ≤ cThaw ∧ cThaw ≤ 2 from fun q => by exfalso; omega), (show 0 ≤ vThaw ∧ vThaw ≤ 3 ∧ ((if (0 : Int) = 1 then 1 else 0) = 2 → vThaw ≤ 2) from ⟨hThM.1, hThM.2.1, fun q => by exfalso; omega⟩), (show (if (0 : Int) = 1 then 1 else 0) = 2 → cThaw = vThaw from fun q => by exfalso; omega), hTrc, hTurb, hLeft, hLoad, hWater, hTrips, hCell, hDirt, hAim, hErr, hCor, hBrk, hTop, hLm, hRows, hCols, hDown, hRight, hBound, hStrain, hPrice, hFirm, hE0⟩ hP hD hS ls (lv_sub hl [2, 3, 4, 5, 6] rfl)
  · refine hz_iconst hx hb dL_law_1385 ?_
    refine lv_goto (tgt := 1390) hx hb dL_law_1386 (by decide) ?_
    refine lv_aload_n hx hb dL_law_1390 rfl (lv_at hl 3 rfl) ?_
    refine hz_lawL (As := [.ref (ah 0), zi 1, .ref o0]) (rest := []) ⟨hx, hb, hml, hown, hts⟩ (c_L_pipe l hlt G ah z mi zE y _ vN vC vNow vHaze vCold vHot vPipe vDeg cThaw vTrc vTurb vLeft vLoad vWater vTrips vMi1 vMi2 vSz vBs vCell vDirt vAim vErr vCor vBrk vTop vLm vRows vCols vDown vRight vBound vStrain vPrice vFirm vSums vTk vFl1 vFl2 vTe vAw vRo vBe o0 vO (1 : Int) hPipe (by omega)) (vx_cwSW 3 hts gL_law_L_pipe rfl rfl rfl (by decide +kernel) ⟨Nat.le_of_ble_eq_true rfl, Nat.le_of_ble_eq_true rfl⟩) hP hK hD hS hA hGP hX hGN rfl hl.1 rfl (Nat.le_of_ble_eq_true rfl) dL_law_1391 ⟨by show cells + 1 ≤ 601024; omega, by show slots + 6 ≤ 7293034; omega⟩ (fun r u H locs hu hP hD hS => ?_)
    obtain ⟨a_nPipe, a_nDeg, a_nO⟩ := u
    obtain ⟨rfl, hu⟩ := hu
    have hU := PLift.up hu
    clear hu
    refine hz_topi (fun kc hkc => ?_)
    have hP : va_P G vwCl (((hW ah z y vN vC vNow vHaze vCold vHot a_nPipe a_nDeg cThaw vTrc vTurb vLeft vLoad vWater vTrips vMi1 vMi2 vSz vBs vCell vDirt vAim vErr vCor vBrk vTop vLm vRows vCols vDown vRight vBound vStrain vPrice vFirm vSums vTk vFl1 vFl2 vTe vAw vRo vBe) ++ oW o0 y a_nO) ++ (mW ad y vThrown vN vC vNow vHaze vCold vHot vPipe vDeg vThaw vTrc vTurb vLeft vLoad vWater vTrips vMissed vBRow vBSum vCell vDirt vAim vErr vCor vBrk vTop vLm vRows vCols vDown vRight vBound vStrain vPrice vFirm vSums vRays vFalls vSom vHad)) H := hP
    have hD : va_D (fun q : Nat => s.heap.size ≤ q) (((hW ah z y vN vC vNow vHaze vCold vHot a_nPipe a_nDeg cThaw vTrc vTurb vLeft vLoad vWater vTrips vMi1 vMi2 vSz vBs vCell vDirt vAim vErr vCor vBrk vTop vLm vRows vCols vDown vRight vBound vStrain vPrice vFirm vSums vTk vFl1 vFl2 vTe vAw vRo vBe) ++ oW o0 y a_nO) ++ (mW ad y vThrown vN vC vNow vHaze vCold vHot vPipe vDeg vThaw vTrc vTurb vLeft vLoad vWater vTrips vMissed vBRow vBSum vCell vDirt vAim vErr vCor vBrk vTop vLm vRows vCols vDown vRight vBound vStrain vPrice vFirm vSums vRays vFalls vSom vHad)) := hD
    have hkr : 0 ≤ kc ∧ kc ≤ 3 := by rw [hkc]; first | omega | (split <;> (try split) <;> (try split) <;> omega)
    refine lv_istore (lv' := [(5, zi kc), (0, .ref b), (1, .ref (ah 0)), (2, .ref (ad 0)), (3, .ref o0), (4, zi i)]) hx hb dL_law_1394 hl (by decide) rfl (fun ls hl => ?_)
    refine lv_aload_n hx hb dL_law_1396 rfl (lv_at hl 3 rfl) ?_
    refine lv_aload_n hx hb dL_law_1397 rfl (lv_at hl 1 rfl) ?_
    refine lv_iload hx hb dL_law_1398 (lv_at hl 5 rfl) ?_
    refine hz_iconst hx hb dL_law_1400 ?_
    refine hz_iadd hx hb dL_law_1401 ?_
    refine hz_sld hx hb hX0 hbl hbA hS (by omega) (by omega) dL_law_1402 ?_
    refine hz_if_eq (tgt := 1410) hx hb dL_law_1403 (by decide) (sc_rng _ _) (fun q => absurd q c2) (fun _ => ?_)
    refine hz_iconst hx hb dL_law_1406 ?_
    refine lv_goto (tgt := 1411) hx hb dL_law_1407 (by decide) ?_
    refine hz_lawMi (As := [zi 1]) (rest := []) ⟨hx, hb, hml, hown, hts⟩ (c_X8_pipe l G y ad _ vThrown vN vC vNow vHaze vCold vHot vPipe vDeg vThaw vTrc vTurb vLeft vLoad vWater vTrips vMissed vBRow vBSum vCell vDirt vAim vErr vCor vBrk vTop vLm vRows vCols vDown vRight vBound vStrain vPrice vFirm vSums vRays vFalls vSom vHad (1 : Int) hPipe (by omega)) (cwV 1 hts gL_law_X8_pipe rfl rfl rfl (by decide +kernel) ⟨Nat.le_of_ble_eq_true rfl, Nat.le_of_ble_eq_true rfl⟩) hP hK hD hS hA 0 9 rfl rfl rfl rfl hl.1 rfl (Nat.le_of_ble_eq_true rfl) dL_law_1411 ⟨by show (cells + 1) + 0 ≤ 601024; omega, by show (slots + 6) + 0 ≤ 7293034; omega⟩ (fun _ => rfl) (fun u H locs hu hP hD hS => ?_)
    obtain ⟨b_th, b_r, b_nPipe, b_nDeg⟩ := u
    have hM := PLift.up hu
    clear hu
    have hP : va_P G vwCl (((hW ah z y vN vC vNow vHaze vCold vHot a_nPipe a_nDeg cThaw vTrc vTurb vLeft vLoad vWater vTrips vMi1 vMi2 vSz vBs vCell vDirt vAim vErr vCor vBrk vTop vLm vRows vCols vDown vRight vBound vStrain vPrice vFirm vSums vTk vFl1 vFl2 vTe vAw vRo vBe) ++ oW o0 y a_nO) ++ (mW ad y b_th vN vC vNow vHaze vCold vHot b_nPipe b_nDeg vThaw vTrc vTurb vLeft vLoad vWater vTrips vMissed vBRow vBSum vCell vDirt vAim vErr vCor vBrk vTop vLm vRows vCols vDown vRight vBound vStrain vPrice vFirm vSums vRays vFalls vSom vHad)) H := hP
    have hD : va_D (fun q : Nat => s.heap.size ≤ q) (((hW ah z y vN vC vNow vHaze vCold vHot a_nPipe a_nDeg cThaw vTrc vTurb vLeft vLoad vWater vTrips vMi1 vMi2 vSz vBs vCell vDirt vAim vErr vCor vBrk vTop vLm vRows vCols vDown vRight vBound vStrain vPrice vFirm vSums vTk vFl1 vFl2 vTe vAw vRo vBe) ++ oW o0 y a_nO) ++ (mW ad y b_th vN vC vNow vHaze vCold vHot b_nPipe b_nDeg vThaw vTrc vTurb vLeft vLoad vWater vTrips vMissed vBRow vBSum vCell vDirt vAim vErr vCor vBrk vTop vLm vRows vCols vDown vRight vBound vStrain vPrice vFirm vSums vRays vFalls vSom vHad)) := hD
    have hmk : b_th = kc := (hM.down.1).trans hkc.symm
    refine lv_istore (lv' := [(6, zi b_r), (5, zi kc), (0, .ref b), (1, .ref (ah 0)), (2, .ref (ad 0)), (3, .ref o0), (4, zi i)]) hx hb dL_law_1414 hl (by decide) rfl (fun ls hl => ?_)
    refine lv_aload_n hx hb dL_law_1416 rfl (lv_at hl 4 rfl) ?_
    refine hz_lawMi (As := []) (rest := []) ⟨hx, hb, hml, hown, hts⟩ (c_X8_thrown l G y ad _ b_th vN vC vNow vHaze vCold vHot b_nPipe b_nDeg vThaw vTrc vTurb vLeft vLoad vWater vTrips vMissed vBRow vBSum vCell vDirt vAim vErr vCor vBrk vTop vLm vRows vCols vDown vRight vBound vStrain vPrice vFirm vSums vRays vFalls vSom vHad) (cwV 0 hts gL_law_X8_thrown rfl rfl rfl (by decide +kernel) ⟨Nat.le_of_ble_eq_true rfl, Nat.le_of_ble_eq_true rfl⟩) hP hK hD hS hA 0 9 rfl rfl rfl rfl hl.1 rfl (Nat.le_of_ble_eq_true rfl) dL_law_1417 ⟨by show (cells + 1) + 0 ≤ 601024; omega, by show (slots + 6) + 0 ≤ 7293034; omega⟩ (fun _ => rfl) (fun u H locs hu hP hD hS => ?_)
    have hP : va_P G vwCl (((hW ah z y vN vC vNow vHaze vCold vHot a_nPipe a_nDeg cThaw vTrc vTurb vLeft vLoad vWater vTrips vMi1 vMi2 vSz vBs vCell vDirt vAim vErr vCor vBrk vTop vLm vRows vCols vDown vRight vBound vStrain vPrice vFirm vSums vTk vFl1 vFl2 vTe vAw vRo vBe) ++ oW o0 y a_nO) ++ (mW ad y b_th vN vC vNow vHaze vCold vHot b_nPipe b_nDeg vThaw vTrc vTurb vLeft vLoad vWater vTrips vMissed vBRow vBSum vCell vDirt vAim vErr vCor vBrk vTop vLm vRows vCols vDown vRight vBound vStrain vPrice vFirm vSums vRays vFalls vSom vHad)) H := hP
    have hD : va_D (fun q : Nat => s.heap.size ≤ q) (((hW ah z y vN vC vNow vHaze vCold vHot a_nPipe a_nDeg cThaw vTrc vTurb vLeft vLoad vWater vTrips vMi1 vMi2 vSz vBs vCell vDirt vAim vErr vCor vBrk vTop vLm vRows vCols vDown vRight vBound vStrain vPrice vFirm vSums vTk vFl1 vFl2 vTe vAw vRo vBe) ++ oW o0 y a_nO) ++ (mW ad y b_th vN vC vNow vHaze vCold vHot b_nPipe b_nDeg vThaw vTrc vTurb vLeft vLoad vWater vTrips vMissed vBRow vBSum vCell vDirt vAim vErr vCor vBrk vTop vLm vRows vCols vDown vRight vBound vStrain vPrice vFirm vSums vRays vFalls vSom vHad)) := hD
    refine lv_iload hx hb dL_law_1420 (lv_at hl 1 rfl) ?_
    refine hz_icmp_eq (tgt := 1427) hx hb dL_law_1422 (by decide) (by omega) (fun _ => ?_) (fun q => absurd (by omega) q)
    refine lv_iload hx hb dL_law_1427 (lv_at hl 1 rfl) ?_
    refine hz_if_ne (tgt := 1444) hx hb dL_law_1429 (by decide) (by omega) (fun c1 => ?_) (fun c1 => ?_)
    · have h0 : ¬ (if vPipe = 2 ∨ ((1 : Int) = 1 ∧ vPipe = 1) ∨ ((1 : Int) = 0 ∧ ¬ vPipe = 1) then (1 : Int) else 0) = 0 := fun q => c1 (hkc.trans q)
      have hPz := hP
      have hDz := hD
      have hs_nPipe := (hU.down.2.2.1 h0).symm
      subst hs_nPipe
      have hs_nDeg := (hU.down.2.2.2.1 h0).symm
      subst hs_nDeg
      have ht_nPipe := (hM.down.2.2.2.1 h0).symm
      subst ht_nPipe
      have ht_nDeg := (hM.down.2.2.2.2.2 h0).symm
      subst ht_nDeg
      have hP : va_P G vwCl (((hW ah z y vN vC vNow vHaze vCold vHot vPipe vDeg cThaw vTrc vTurb vLeft vLoad vWater vTrips vMi1 vMi2 vSz vBs vCell vDirt vAim vErr vCor vBrk vTop vLm vRows vCols vDown vRight vBound vStrain vPrice vFirm vSums vTk vFl1 vFl2 vTe vAw vRo vBe) ++ oW o0 y a_nO) ++ (mW ad y b_th vN vC vNow vHaze vCold vHot vPipe vDeg vThaw vTrc vTurb vLeft vLoad vWater vTrips vMissed vBRow vBSum vCell vDirt vAim vErr vCor vBrk vTop vLm vRows vCols vDown vRight vBound vStrain vPrice vFirm vSums vRays vFalls vSom vHad)) H := hPz
      have hD : va_D (fun q : Nat => s.heap.size ≤ q) (((hW ah z y vN vC vNow vHaze vCold vHot vPipe vDeg cThaw vTrc vTurb vLeft vLoad vWater vTrips vMi1 vMi2 vSz vBs vCell vDirt vAim vErr vCor vBrk vTop vLm vRows vCols vDown vRight vBound vStrain vPrice vFirm vSums vTk vFl1 vFl2 vTe vAw vRo vBe) ++ oW o0 y a_nO) ++ (mW ad y b_th vN vC vNow vHaze vCold vHot vPipe vDeg vThaw vTrc vTurb vLeft vLoad vWater vTrips vMissed vBRow vBSum vCell vDirt vAim vErr vCor vBrk vTop vLm vRows vCols vDown vRight vBound vStrain vPrice vFirm vSums vRays vFalls vSom vHad)) := hDz
      refine lv_goto (tgt := 1990) hx hb dL_law_1444 (by decide) ?_
      refine W.widen (k := cells + 40) (n := slots + 400) (by omega) (by omega) ?_
      exact K z vN vC vNow vHaze vCold vHot vPipe vDeg cThaw vThaw vTrc vTurb vLeft vLoad vWater vTrips vMi1 vMi2 vSz vBs b_th vMissed vBRow vBSum vCell vDirt vAim vErr vCor vBrk vTop vLm vRows vCols vDown vRight vBound vStrain vPrice vFirm vSums vTk vFl1 vFl2 vTe vAw vRo vBe vRays vFalls vSom vHad a_nO H locs hFA0 hP hD hS ls (lv_sub hl [2, 3, 4, 5, 6] rfl)
    · have h0 : (if vPipe = 2 ∨ ((1 : Int) = 1 ∧ vPipe = 1) ∨ ((1 : Int) = 0 ∧ ¬ vPipe = 1) then (1 : Int) else 0) = 0 := hkc.symm.trans c1
      have hPz := hP
      have hDz := hD
      have hout : a_nO 0 = wI ((if (1 : Int) = 1 then 30 else 0)) := hU.down.2.2.2.2 h0
      have hs_nPipe := (hU.down.1 h0).symm
      subst hs_nPipe
      have hs_nDeg := (hU.down.2.1 h0).symm
      subst hs_nDeg
      have ht_nPipe := (hM.down.2.2.1 h0).symm
      subst ht_nPipe
      have ht_nDeg := (hM.down.2.2.2.2.1 h0).symm
      subst ht_nDeg
      have hans : b_r = (if (1 : Int) = 1 then 30 else 0) := hM.down.2.1 h0
      have hP : va_P G vwCl (((hW ah z y vN vC vNow vHaze vCold vHot (if (1 : Int) = 1 then 1 else 0) (if (1 : Int) = 1 then 30 else 0) cThaw vTrc vTurb vLeft vLoad vWater vTrips vMi1 vMi2 vSz vBs vCell vDirt vAim vErr vCor vBrk vTop vLm vRows vCols vDown vRight vBound vStrain vPrice vFirm vSums vTk vFl1 vFl2 vTe vAw vRo vBe) ++ oW o0 y a_nO) ++ (mW ad y b_th vN vC vNow vHaze vCold vHot (if (1 : Int) = 1 then 1 else 0) (if (1 : Int) = 1 then 30 else 0) vThaw vTrc vTurb vLeft vLoad vWater vTrips vMissed vBRow vBSum vCell vDirt vAim vErr vCor vBrk vTop vLm vRows vCols vDown vRight vBound vStrain vPrice vFirm vSums vRays vFalls vSom vHad)) H := hPz
      have hD : va_D (fun q : Nat => s.heap.size ≤ q) (((hW ah z y vN vC vNow vHaze vCold vHot (if (1 : Int) = 1 then 1 else 0) (if (1 : Int) = 1 then 30 else 0) cThaw vTrc vTurb vLeft vLoad vWater vTrips vMi1 vMi2 vSz vBs vCell vDirt vAim vErr vCor vBrk vTop vLm vRows vCols vDown vRight vBound vStrain vPrice vFirm vSums vTk vFl1 vFl2 vTe vAw vRo vBe) ++ oW o0 y a_nO) ++ (mW ad y b_th vN vC vNow vHaze vCold vHot (if (1 : Int) = 1 then 1 else 0) (if (1 : Int) = 1 then 30 else 0) vThaw vTrc vTurb vLeft vLoad vWater vTrips vMissed vBRow vBSum vCell vDirt vAim vErr vCor vBrk vTop vLm vRows vCols vDown vRight vBound vStrain vPrice vFirm vSums vRays vFalls vSom vHad)) := hDz
      refine lv_aload_n hx hb dL_law_1432 rfl (lv_at hl 5 rfl) ?_
      refine hz_iconst hx hb dL_law_1433 ?_
      refine hz_laldo hx hb hK hP dL_law_1434 ?_
      refine lv_iload hx hb dL_law_1435 (lv_at hl 0 rfl) ?_
      refine hz_i2lw hx hb dL_law_1437 ?_
      refine hz_lcmp hx hb dL_law_1438 (fun v hv => ?_)
      refine lv_if_eq (tgt := 1444) hx hb dL_law_1439 (by decide) (fun _ => ?_) (fun q => absurd (hv.mpr (congrArg zL (hout.trans (congrArg wI hans.symm)))) q)
      refine lv_goto (tgt := 1990) hx hb dL_law_1444 (by decide) ?_
      refine W.widen (k := cells + 40) (n := slots + 400) (by omega) (by omega) ?_
      exact K z vN vC vNow vHaze vCold vHot (if (1 : Int) = 1 then 1 else 0) (if (1 : Int) = 1 then 30 else 0) cThaw vThaw vTrc vTurb vLeft vLoad vWater vTrips vMi1 vMi2 vSz vBs b_th vMissed vBRow vBSum vCell vDirt vAim vErr vCor vBrk vTop vLm vRows vCols vDown vRight vBound vStrain vPrice vFirm vSums vTk vFl1 vFl2 vTe vAw vRo vBe vRays vFalls vSom vHad a_nO H locs ⟨hZ, hZe, hTk, hN, hC, hNow, hHaze, hSalt, (show 0 ≤ (if (1 : Int) = 1 then 1 else 0) ∧ (if (1 : Int) = 1 then 1 else 0) ≤ 2 from by omega), (show 0 ≤ (if (1 : Int) = 1 then 30 else 0) ∧ (if (1 : Int) = 1 then 30 else 0) ≤ 40 ∧ ((if (1 : Int) = 1 then 1 else 0) = 1 → 20 ≤ (if (1 : Int) = 1 then 30 else 0)) from by omega), (show (if (1 : Int) = 1 then 1 else 0) = 2 → 0 ≤ cThaw ∧ cThaw ≤ 2 from fun q => by exfalso; omega), (show 0 ≤ vThaw ∧ vThaw ≤ 3 ∧ ((if (1 : Int) = 1 then 1 else 0) = 2 → vThaw ≤ 2) from ⟨hThM.1, hThM.2.1, fun q => by exfalso; omega⟩), (show (if (1 : Int) = 1 then 1 else 0) = 2 → cThaw = vThaw from fun q => by exfalso; omega), hTrc, hTurb, hLeft, hLoad, hWater, hTrips, hCell, hDirt, hAim, hErr, hCor, hBrk, hTop, hLm, hRows, hCols, hDown, hRight, hBound, hStrain, hPrice, hFirm, hE0⟩ hP hD hS ls (lv_sub hl [2, 3, 4, 5, 6] rfl)
set_option maxHeartbeats 16000000 in
set_option maxRecDepth 100000 in
theorem lw_c21 (p : Program) (l : Launch) (e : Env) (s : State) (m : MethodId) (below : List Frame) (meth : Method) (c : Code) (b L : Nat) (xs : Nat → Int32) (G : va_G) (mi zE : Nat) (y : Nat → ClassId) (ah ad : Nat → Nat) (o0 : Nat) (cells slots : Nat) (i : Int) (hQ : LC p l s m meth c b L xs G mi zE y) (hi : 0 ≤ i ∧ i + 7 ≤ L) (hroom : cells + 40 ≤ 601024 ∧ slots + 400 ≤ 7293034) (K : LK p l e s m below meth c b L xs G mi zE y ah ad o0 (cells + 40) (slots + 400) i 1990) : LK p l e s m below meth c b L xs G mi zE y ah ad o0 cells slots i 1447 := by
  intro z vN vC vNow vHaze vCold vHot vPipe vDeg cThaw vThaw vTrc vTurb vLeft vLoad vWater vTrips vMi1 vMi2 vSz vBs vThrown vMissed vBRow vBSum vCell vDirt vAim vErr vCor vBrk vTop vLm vRows vCols vDown vRight vBound vStrain vPrice vFirm vSums vTk vFl1 vFl2 vTe vAw vRo vBe vRays vFalls vSom vHad vO H locs hFA hP hD hS ls hl
  obtain ⟨hx, hb, hr, hts, hown, hml, hX0, hbl, hL, hlocks, hK, hGP, hX, hGN, hlt⟩ := hQ
  have hA : ∀ q : Nat, s.heap.size ≤ q → (fun q : Nat => s.heap.size ≤ q) q := fun _ h => h
  have hbA : ¬ (fun q : Nat => s.heap.size ≤ q) b := Nat.not_le.mpr hbl
  have hFA0 := hFA
  obtain ⟨hZ, hZe, hTk, hN, hC, hNow, hHaze, hSalt, hPipe, hDeg, hThC, hThM, hThE, hTrc, hTurb, hLeft, hLoad, hWater, hTrips, hCell, hDirt, hAim, hErr, hCor, hBrk, hTop, hLm, hRows, hCols, hDown, hRight, hBound, hStrain, hPrice, hFirm, hE0⟩ := hFA
  refine lv_aload_n hx hb dL_law_1447 rfl (lv_at hl 1 rfl) ?_
  refine lv_aload_n hx hb dL_law_1448 rfl (lv_at hl 0 rfl) ?_
  refine lv_iload hx hb dL_law_1449 (lv_at hl 4 rfl) ?_
  refine hz_iconst hx hb dL_law_1451 ?_
  refine hz_iadd hx hb dL_law_1452 ?_
  refine hz_sld hx hb hX0 hbl hbA hS (by omega) (by omega) dL_law_1453 ?_
  refine hz_if_eq (tgt := 1461) hx hb dL_law_1454 (by decide) (sc_rng _ _) (fun c2 => ?_) (fun c2 => ?_)
  · refine hz_iconst hx hb dL_law_1461 ?_
    refine hz_lawFi (As := [zi 0]) (rest := []) ⟨hx, hb, hml, hown, hts⟩ (c_X7_trace l G ah z zE y _ vN vC vNow vHaze vCold vHot vPipe vDeg cThaw vTrc vTurb vLeft vLoad vWater vTrips vMi1 vMi2 vSz vBs vCell vDirt vAim vErr vCor vBrk vTop vLm vRows vCols vDown vRight vBound vStrain vPrice vFirm vSums vTk vFl1 vFl2 vTe vAw vRo vBe 0 hTrc (by omega)) (cwV 1 hts gL_law_X7_trace rfl rfl rfl (by decide +kernel) ⟨Nat.le_of_ble_eq_true rfl, Nat.le_of_ble_eq_true rfl⟩) hP hK hD hS hA hGP 0 8 rfl rfl rfl rfl hl.1 rfl (Nat.le_of_ble_eq_true rfl) dL_law_1462 ⟨by show cells + 0 ≤ 601024; omega, by show slots + 0 ≤ 7293034; omega⟩ (fun _ => hW_fst) (fun u H locs hu hP hD hS => ?_)
    refine hz_topi (fun ka hka => ?_)
    have hP : va_P G vwCl (((hW ah z y vN vC vNow vHaze vCold vHot vPipe vDeg cThaw (0 : Int) vTurb vLeft vLoad vWater vTrips vMi1 vMi2 vSz vBs vCell vDirt vAim vErr vCor vBrk vTop vLm vRows vCols vDown vRight vBound vStrain vPrice vFirm vSums vTk vFl1 vFl2 vTe vAw vRo vBe) ++ oW o0 y vO) ++ (mW ad y vThrown vN vC vNow vHaze vCold vHot vPipe vDeg vThaw vTrc vTurb vLeft vLoad vWater vTrips vMissed vBRow vBSum vCell vDirt vAim vErr vCor vBrk vTop vLm vRows vCols vDown vRight vBound vStrain vPrice vFirm vSums vRays vFalls vSom vHad)) H := hP
    have hD : va_D (fun q : Nat => s.heap.size ≤ q) (((hW ah z y vN vC vNow vHaze vCold vHot vPipe vDeg cThaw (0 : Int) vTurb vLeft vLoad vWater vTrips vMi1 vMi2 vSz vBs vCell vDirt vAim vErr vCor vBrk vTop vLm vRows vCols vDown vRight vBound vStrain vPrice vFirm vSums vTk vFl1 vFl2 vTe vAw vRo vBe) ++ oW o0 y vO) ++ (mW ad y vThrown vN vC vNow vHaze vCold vHot vPipe vDeg vThaw vTrc vTurb vLeft vLoad vWater vTrips vMissed vBRow vBSum vCell vDirt vAim vErr vCor vBrk vTop vLm vRows vCols vDown vRight vBound vStrain vPrice vFirm vSums vRays vFalls vSom vHad)) := hD
    refine lv_aload_n hx hb dL_law_1465 rfl (lv_at hl 2 rfl) ?_
    refine lv_aload_n hx hb dL_law_1466 rfl (lv_at hl 0 rfl) ?_
    refine lv_iload hx hb dL_law_1467 (lv_at hl 4 rfl) ?_
    refine hz_iconst hx hb dL_law_1469 ?_
    refine hz_iadd hx hb dL_law_1470 ?_
    refine hz_sld hx hb hX0 hbl hbA hS (by omega) (by omega) dL_law_1471 ?_
    refine hz_if_eq (tgt := 1479) hx hb dL_law_1472 (by decide) (sc_rng _ _) (fun _ => ?_) (fun q => absurd c2 q)
    refine hz_iconst hx hb dL_law_1479 ?_
    refine hz_lawMi (As := [zi 0]) (rest := [zi ka]) ⟨hx, hb, hml, hown, hts⟩ (c_X8_trace l G y ad _ vThrown vN vC vNow vHaze vCold vHot vPipe vDeg vThaw vTrc vTurb vLeft vLoad vWater vTrips vMissed vBRow vBSum vCell vDirt vAim vErr vCor vBrk vTop vLm vRows vCols vDown vRight vBound vStrain vPrice vFirm vSums vRays vFalls vSom vHad (0 : Int) hTrc (by omega)) (cwV 1 hts gL_law_X8_trace rfl rfl rfl (by decide +kernel) ⟨Nat.le_of_ble_eq_true rfl, Nat.le_of_ble_eq_true rfl⟩) hP hK hD hS hA 0 9 rfl rfl rfl rfl hl.1 rfl (Nat.le_of_ble_eq_true rfl) dL_law_1480 ⟨by show cells + 0 ≤ 601024; omega, by show slots + 0 ≤ 7293034; omega⟩ (fun _ => rfl) (fun u H locs hu hP hD hS => ?_)
    obtain ⟨b_th, b_r, b_nTrc⟩ := u
    have hM := PLift.up hu
    clear hu
    have hP : va_P G vwCl (((hW ah z y vN vC vNow vHaze vCold vHot vPipe vDeg cThaw (0 : Int) vTurb vLeft vLoad vWater vTrips vMi1 vMi2 vSz vBs vCell vDirt vAim vErr vCor vBrk vTop vLm vRows vCols vDown vRight vBound vStrain vPrice vFirm vSums vTk vFl1 vFl2 vTe vAw vRo vBe) ++ oW o0 y vO) ++ (mW ad y b_th vN vC vNow vHaze vCold vHot vPipe vDeg vThaw b_nTrc vTurb vLeft vLoad vWater vTrips vMissed vBRow vBSum vCell vDirt vAim vErr vCor vBrk vTop vLm vRows vCols vDown vRight vBound vStrain vPrice vFirm vSums vRays vFalls vSom vHad)) H := hP
    have hD : va_D (fun q : Nat => s.heap.size ≤ q) (((hW ah z y vN vC vNow vHaze vCold vHot vPipe vDeg cThaw (0 : Int) vTurb vLeft vLoad vWater vTrips vMi1 vMi2 vSz vBs vCell vDirt vAim vErr vCor vBrk vTop vLm vRows vCols vDown vRight vBound vStrain vPrice vFirm vSums vTk vFl1 vFl2 vTe vAw vRo vBe) ++ oW o0 y vO) ++ (mW ad y b_th vN vC vNow vHaze vCold vHot vPipe vDeg vThaw b_nTrc vTurb vLeft vLoad vWater vTrips vMissed vBRow vBSum vCell vDirt vAim vErr vCor vBrk vTop vLm vRows vCols vDown vRight vBound vStrain vPrice vFirm vSums vRays vFalls vSom vHad)) := hD
    have hans : b_r = vTrc := hM.down.2.1 rfl
    have hrz : b_r = 0 ∨ b_r = 1 := hM.down.2.2.1
    refine hz_tope (z2 := b_r) rfl ?_
    refine hz_icmp_eq (tgt := 1990) hx hb dL_law_1483 (by decide) (by omega) (fun _ => ?_) (fun q => absurd (by omega) q)
    have hPz := hP
    have hDz := hD
    have ht_nTrc := (hM.down.2.2.2.1 rfl).symm
    subst ht_nTrc
    have hP : va_P G vwCl (((hW ah z y vN vC vNow vHaze vCold vHot vPipe vDeg cThaw (0 : Int) vTurb vLeft vLoad vWater vTrips vMi1 vMi2 vSz vBs vCell vDirt vAim vErr vCor vBrk vTop vLm vRows vCols vDown vRight vBound vStrain vPrice vFirm vSums vTk vFl1 vFl2 vTe vAw vRo vBe) ++ oW o0 y vO) ++ (mW ad y b_th vN vC vNow vHaze vCold vHot vPipe vDeg vThaw (0 : Int) vTurb vLeft vLoad vWater vTrips vMissed vBRow vBSum vCell vDirt vAim vErr vCor vBrk vTop vLm vRows vCols vDown vRight vBound vStrain vPrice vFirm vSums vRays vFalls vSom vHad)) H := hPz
    have hD : va_D (fun q : Nat => s.heap.size ≤ q) (((hW ah z y vN vC vNow vHaze vCold vHot vPipe vDeg cThaw (0 : Int) vTurb vLeft vLoad vWater vTrips vMi1 vMi2 vSz vBs vCell vDirt vAim vErr vCor vBrk vTop vLm vRows vCols vDown vRight vBound vStrain vPrice vFirm vSums vTk vFl1 vFl2 vTe vAw vRo vBe) ++ oW o0 y vO) ++ (mW ad y b_th vN vC vNow vHaze vCold vHot vPipe vDeg vThaw (0 : Int) vTurb vLeft vLoad vWater vTrips vMissed vBRow vBSum vCell vDirt vAim vErr vCor vBrk vTop vLm vRows vCols vDown vRight vBound vStrain vPrice vFirm vSums vRays vFalls vSom vHad)) := hDz
    refine W.widen (k := cells + 40) (n := slots + 400) (by omega) (by omega) ?_
    exact K z vN vC vNow vHaze vCold vHot vPipe vDeg cThaw vThaw (0 : Int) vTurb vLeft vLoad vWater vTrips vMi1 vMi2 vSz vBs b_th vMissed vBRow vBSum vCell vDirt vAim vErr vCor vBrk vTop vLm vRows vCols vDown vRight vBound vStrain vPrice vFirm vSums vTk vFl1 vFl2 vTe vAw vRo vBe vRays vFalls vSom vHad vO H locs ⟨hZ, hZe, hTk, hN, hC, hNow, hHaze, hSalt, hPipe, hDeg, hThC, hThM, hThE, (show 0 ≤ (0 : Int) ∧ (0 : Int) ≤ 1 from by omega), hTurb, hLeft, hLoad, hWater, hTrips, hCell, hDirt, hAim, hErr, hCor, hBrk, hTop, hLm, hRows, hCols, hDown, hRight, hBound, hStrain, hPrice, hFirm, hE0⟩ hP hD hS ls (lv_sub hl [0, 1, 2, 3, 4] rfl)
  · refine hz_iconst hx hb dL_law_1457 ?_
    refine lv_goto (tgt := 1462) hx hb dL_law_1458 (by decide) ?_
    refine hz_lawFi (As := [zi 1]) (rest := []) ⟨hx, hb, hml, hown, hts⟩ (c_X7_trace l G ah z zE y _ vN vC vNow vHaze vCold vHot vPipe vDeg cThaw vTrc vTurb vLeft vLoad vWater vTrips vMi1 vMi2 vSz vBs vCell vDirt vAim vErr vCor vBrk vTop vLm vRows vCols vDown vRight vBound vStrain vPrice vFirm vSums vTk vFl1 vFl2 vTe vAw vRo vBe 1 hTrc (by omega)) (cwV 1 hts gL_law_X7_trace rfl rfl rfl (by decide +kernel) ⟨Nat.le_of_ble_eq_true rfl, Nat.le_of_ble_eq_true rfl⟩) hP hK hD hS hA hGP 0 8 rfl rfl rfl rfl hl.1 rfl (Nat.le_of_ble_eq_true rfl) dL_law_1462 ⟨by show cells + 0 ≤ 601024; omega, by show slots + 0 ≤ 7293034; omega⟩ (fun _ => hW_fst) (fun u H locs hu hP hD hS => ?_)
    refine hz_topi (fun ka hka => ?_)
    have hP : va_P G vwCl (((hW ah z y vN vC vNow vHaze vCold vHot vPipe vDeg cThaw (1 : Int) vTurb vLeft vLoad vWater vTrips vMi1 vMi2 vSz vBs vCell vDirt vAim vErr vCor vBrk vTop vLm vRows vCols vDown vRight vBound vStrain vPrice vFirm vSums vTk vFl1 vFl2 vTe vAw vRo vBe) ++ oW o0 y vO) ++ (mW ad y vThrown vN vC vNow vHaze vCold vHot vPipe vDeg vThaw vTrc vTurb vLeft vLoad vWater vTrips vMissed vBRow vBSum vCell vDirt vAim vErr vCor vBrk vTop vLm vRows vCols vDown vRight vBound vStrain vPrice vFirm vSums vRays vFalls vSom vHad)) H := hP
    have hD : va_D (fun q : Nat => s.heap.size ≤ q) (((hW ah z y vN vC vNow vHaze vCold vHot vPipe vDeg cThaw (1 : Int) vTurb vLeft vLoad vWater vTrips vMi1 vMi2 vSz vBs vCell vDirt vAim vErr vCor vBrk vTop vLm vRows vCols vDown vRight vBound vStrain vPrice vFirm vSums vTk vFl1 vFl2 vTe vAw vRo vBe) ++ oW o0 y vO) ++ (mW ad y vThrown vN vC vNow vHaze vCold vHot vPipe vDeg vThaw vTrc vTurb vLeft vLoad vWater vTrips vMissed vBRow vBSum vCell vDirt vAim vErr vCor vBrk vTop vLm vRows vCols vDown vRight vBound vStrain vPrice vFirm vSums vRays vFalls vSom vHad)) := hD
    refine lv_aload_n hx hb dL_law_1465 rfl (lv_at hl 2 rfl) ?_
    refine lv_aload_n hx hb dL_law_1466 rfl (lv_at hl 0 rfl) ?_
    refine lv_iload hx hb dL_law_1467 (lv_at hl 4 rfl) ?_
    refine hz_iconst hx hb dL_law_1469 ?_
    refine hz_iadd hx hb dL_law_1470 ?_
    refine hz_sld hx hb hX0 hbl hbA hS (by omega) (by omega) dL_law_1471 ?_
    refine hz_if_eq (tgt := 1479) hx hb dL_law_1472 (by decide) (sc_rng _ _) (fun q => absurd q c2) (fun _ => ?_)
    refine hz_iconst hx hb dL_law_1475 ?_
    refine lv_goto (tgt := 1480) hx hb dL_law_1476 (by decide) ?_
    refine hz_lawMi (As := [zi 1]) (rest := [zi ka]) ⟨hx, hb, hml, hown, hts⟩ (c_X8_trace l G y ad _ vThrown vN vC vNow vHaze vCold vHot vPipe vDeg vThaw vTrc vTurb vLeft vLoad vWater vTrips vMissed vBRow vBSum vCell vDirt vAim vErr vCor vBrk vTop vLm vRows vCols vDown vRight vBound vStrain vPrice vFirm vSums vRays vFalls vSom vHad (1 : Int) hTrc (by omega)) (cwV 1 hts gL_law_X8_trace rfl rfl rfl (by decide +kernel) ⟨Nat.le_of_ble_eq_true rfl, Nat.le_of_ble_eq_true rfl⟩) hP hK hD hS hA 0 9 rfl rfl rfl rfl hl.1 rfl (Nat.le_of_ble_eq_true rfl) dL_law_1480 ⟨by show cells + 0 ≤ 601024; omega, by show slots + 0 ≤ 7293034; omega⟩ (fun _ => rfl) (fun u H locs hu hP hD hS => ?_)
    obtain ⟨b_th, b_r, b_nTrc⟩ := u
    have hM := PLift.up hu
    clear hu
    have hP : va_P G vwCl (((hW ah z y vN vC vNow vHaze vCold vHot vPipe vDeg cThaw (1 : Int) vTurb vLeft vLoad vWater vTrips vMi1 vMi2 vSz vBs vCell vDirt vAim vErr vCor vBrk vTop vLm vRows vCols vDown vRight vBound vStrain vPrice vFirm vSums vTk vFl1 vFl2 vTe vAw vRo vBe) ++ oW o0 y vO) ++ (mW ad y b_th vN vC vNow vHaze vCold vHot vPipe vDeg vThaw b_nTrc vTurb vLeft vLoad vWater vTrips vMissed vBRow vBSum vCell vDirt vAim vErr vCor vBrk vTop vLm vRows vCols vDown vRight vBound vStrain vPrice vFirm vSums vRays vFalls vSom vHad)) H := hP
    have hD : va_D (fun q : Nat => s.heap.size ≤ q) (((hW ah z y vN vC vNow vHaze vCold vHot vPipe vDeg cThaw (1 : Int) vTurb vLeft vLoad vWater vTrips vMi1 vMi2 vSz vBs vCell vDirt vAim vErr vCor vBrk vTop vLm vRows vCols vDown vRight vBound vStrain vPrice vFirm vSums vTk vFl1 vFl2 vTe vAw vRo vBe) ++ oW o0 y vO) ++ (mW ad y b_th vN vC vNow vHaze vCold vHot vPipe vDeg vThaw b_nTrc vTurb vLeft vLoad vWater vTrips vMissed vBRow vBSum vCell vDirt vAim vErr vCor vBrk vTop vLm vRows vCols vDown vRight vBound vStrain vPrice vFirm vSums vRays vFalls vSom vHad)) := hD
    have hans : b_r = vTrc := hM.down.2.1 rfl
    have hrz : b_r = 0 ∨ b_r = 1 := hM.down.2.2.1
    refine hz_tope (z2 := b_r) rfl ?_
    refine hz_icmp_eq (tgt := 1990) hx hb dL_law_1483 (by decide) (by omega) (fun _ => ?_) (fun q => absurd (by omega) q)
    have hPz := hP
    have hDz := hD
    have ht_nTrc := (hM.down.2.2.2.1 rfl).symm
    subst ht_nTrc
    have hP : va_P G vwCl (((hW ah z y vN vC vNow vHaze vCold vHot vPipe vDeg cThaw (1 : Int) vTurb vLeft vLoad vWater vTrips vMi1 vMi2 vSz vBs vCell vDirt vAim vErr vCor vBrk vTop vLm vRows vCols vDown vRight vBound vStrain vPrice vFirm vSums vTk vFl1 vFl2 vTe vAw vRo vBe) ++ oW o0 y vO) ++ (mW ad y b_th vN vC vNow vHaze vCold vHot vPipe vDeg vThaw (1 : Int) vTurb vLeft vLoad vWater vTrips vMissed vBRow vBSum vCell vDirt vAim vErr vCor vBrk vTop vLm vRows vCols vDown vRight vBound vStrain vPrice vFirm vSums vRays vFalls vSom vHad)) H := hPz
    have hD : va_D (fun q : Nat => s.heap.size ≤ q) (((hW ah z y vN vC vNow vHaze vCold vHot vPipe vDeg cThaw (1 : Int) vTurb vLeft vLoad vWater vTrips vMi1 vMi2 vSz vBs vCell vDirt vAim vErr vCor vBrk vTop vLm vRows vCols vDown vRight vBound vStrain vPrice vFirm vSums vTk vFl1 vFl2 vTe vAw vRo vBe) ++ oW o0 y vO) ++ (mW ad y b_th vN vC vNow vHaze vCold vHot vPipe vDeg vThaw (1 : Int) vTurb vLeft vLoad vWater vTrips vMissed vBRow vBSum vCell vDirt vAim vErr vCor vBrk vTop vLm vRows vCols vDown vRight vBound vStrain vPrice vFirm vSums vRays vFalls vSom vHad)) := hDz
    refine W.widen (k := cells + 40) (n := slots + 400) (by omega) (by omega) ?_
    exact K z vN vC vNow vHaze vCold vHot vPipe vDeg cThaw vThaw (1 : Int) vTurb vLeft vLoad vWater vTrips vMi1 vMi2 vSz vBs b_th vMissed vBRow vBSum vCell vDirt vAim vErr vCor vBrk vTop vLm vRows vCols vDown vRight vBound vStrain vPrice vFirm vSums vTk vFl1 vFl2 vTe vAw vRo vBe vRays vFalls vSom vHad vO H locs ⟨hZ, hZe, hTk, hN, hC, hNow, hHaze, hSalt, hPipe, hDeg, hThC, hThM, hThE, (show 0 ≤ (1 : Int) ∧ (1 : Int) ≤ 1 from by omega), hTurb, hLeft, hLoad, hWater, hTrips, hCell, hDirt, hAim, hErr, hCor, hBrk, hTop, hLm, hRows, hCols, hDown, hRight, hBound, hStrain, hPrice, hFirm, hE0⟩ hP hD hS ls (lv_sub hl [0, 1, 2, 3, 4] rfl)
set_option maxHeartbeats 16000000 in
set_option maxRecDepth 100000 in
theorem lw_c22 (p : Program) (l : Launch) (e : Env) (s : State) (m : MethodId) (below : List Frame) (meth : Method) (c : Code) (b L : Nat) (xs : Nat → Int32) (G : va_G) (mi zE : Nat) (y : Nat → ClassId) (ah ad : Nat → Nat) (o0 : Nat) (cells slots : Nat) (i : Int) (hQ : LC p l s m meth c b L xs G mi zE y) (hi : 0 ≤ i ∧ i + 7 ≤ L) (hroom : cells + 40 ≤ 601024 ∧ slots + 400 ≤ 7293034) (K : LK p l e s m below meth c b L xs G mi zE y ah ad o0 (cells + 40) (slots + 400) i 1990) : LK p l e s m below meth c b L xs G mi zE y ah ad o0 cells slots i 1488 := by
  intro z vN vC vNow vHaze vCold vHot vPipe vDeg cThaw vThaw vTrc vTurb vLeft vLoad vWater vTrips vMi1 vMi2 vSz vBs vThrown vMissed vBRow vBSum vCell vDirt vAim vErr vCor vBrk vTop vLm vRows vCols vDown vRight vBound vStrain vPrice vFirm vSums vTk vFl1 vFl2 vTe vAw vRo vBe vRays vFalls vSom vHad vO H locs hFA hP hD hS ls hl
  obtain ⟨hx, hb, hr, hts, hown, hml, hX0, hbl, hL, hlocks, hK, hGP, hX, hGN, hlt⟩ := hQ
  have hA : ∀ q : Nat, s.heap.size ≤ q → (fun q : Nat => s.heap.size ≤ q) q := fun _ h => h
  have hbA : ¬ (fun q : Nat => s.heap.size ≤ q) b := Nat.not_le.mpr hbl
  have hFA0 := hFA
  obtain ⟨hZ, hZe, hTk, hN, hC, hNow, hHaze, hSalt, hPipe, hDeg, hThC, hThM, hThE, hTrc, hTurb, hLeft, hLoad, hWater, hTrips, hCell, hDirt, hAim, hErr, hCor, hBrk, hTop, hLm, hRows, hCols, hDown, hRight, hBound, hStrain, hPrice, hFirm, hE0⟩ := hFA
  refine lv_aload_n hx hb dL_law_1488 rfl (lv_at hl 1 rfl) ?_
  refine lv_aload_n hx hb dL_law_1489 rfl (lv_at hl 0 rfl) ?_
  refine lv_iload hx hb dL_law_1490 (lv_at hl 4 rfl) ?_
  refine hz_iconst hx hb dL_law_1492 ?_
  refine hz_iadd hx hb dL_law_1493 ?_
  refine hz_sld hx hb hX0 hbl hbA hS (by omega) (by omega) dL_law_1494 ?_
  refine lv_aload_n hx hb dL_law_1495 rfl (lv_at hl 3 rfl) ?_
  refine hz_lawL (As := [.ref (ah 0), zi (sc xs (i + 1)), .ref o0]) (rest := []) ⟨hx, hb, hml, hown, hts⟩ (c_L_load l hlt G ah z mi zE y _ vN vC vNow vHaze vCold vHot vPipe vDeg cThaw vTrc vTurb vLeft vLoad vWater vTrips vMi1 vMi2 vSz vBs vCell vDirt vAim vErr vCor vBrk vTop vLm vRows vCols vDown vRight vBound vStrain vPrice vFirm vSums vTk vFl1 vFl2 vTe vAw vRo vBe o0 vO (sc xs (i + 1)) hTurb (sc_rng _ _)) (vx_cwSW 3 hts gL_law_L_load rfl rfl rfl (by decide +kernel) ⟨Nat.le_of_ble_eq_true rfl, Nat.le_of_ble_eq_true rfl⟩) hP hK hD hS hA hGP hX hGN rfl hl.1 rfl (Nat.le_of_ble_eq_true rfl) dL_law_1496 ⟨by show cells + 1 ≤ 601024; omega, by show slots + 6 ≤ 7293034; omega⟩ (fun r u H locs hu hP hD hS => ?_)
  obtain ⟨a_nLeft, a_nTurb, a_nLoad, a_nO⟩ := u
  obtain ⟨rfl, hu⟩ := hu
  have hU := PLift.up hu
  clear hu
  refine hz_topi (fun kc hkc => ?_)
  have hP : va_P G vwCl (((hW ah z y vN vC vNow vHaze vCold vHot vPipe vDeg cThaw vTrc a_nTurb a_nLeft a_nLoad vWater vTrips vMi1 vMi2 vSz vBs vCell vDirt vAim vErr vCor vBrk vTop vLm vRows vCols vDown vRight vBound vStrain vPrice vFirm vSums vTk vFl1 vFl2 vTe vAw vRo vBe) ++ oW o0 y a_nO) ++ (mW ad y vThrown vN vC vNow vHaze vCold vHot vPipe vDeg vThaw vTrc vTurb vLeft vLoad vWater vTrips vMissed vBRow vBSum vCell vDirt vAim vErr vCor vBrk vTop vLm vRows vCols vDown vRight vBound vStrain vPrice vFirm vSums vRays vFalls vSom vHad)) H := hP
  have hD : va_D (fun q : Nat => s.heap.size ≤ q) (((hW ah z y vN vC vNow vHaze vCold vHot vPipe vDeg cThaw vTrc a_nTurb a_nLeft a_nLoad vWater vTrips vMi1 vMi2 vSz vBs vCell vDirt vAim vErr vCor vBrk vTop vLm vRows vCols vDown vRight vBound vStrain vPrice vFirm vSums vTk vFl1 vFl2 vTe vAw vRo vBe) ++ oW o0 y a_nO) ++ (mW ad y vThrown vN vC vNow vHaze vCold vHot vPipe vDeg vThaw vTrc vTurb vLeft vLoad vWater vTrips vMissed vBRow vBSum vCell vDirt vAim vErr vCor vBrk vTop vLm vRows vCols vDown vRight vBound vStrain vPrice vFirm vSums vRays vFalls vSom vHad)) := hD
  have hkr : 0 ≤ kc ∧ kc ≤ 3 := by rw [hkc]; first | omega | (split <;> (try split) <;> (try split) <;> omega)
  refine lv_istore (lv' := [(5, zi kc), (0, .ref b), (1, .ref (ah 0)), (2, .ref (ad 0)), (3, .ref o0), (4, zi i)]) hx hb dL_law_1499 hl (by decide) rfl (fun ls hl => ?_)
  refine lv_aload_n hx hb dL_law_1501 rfl (lv_at hl 3 rfl) ?_
  refine lv_aload_n hx hb dL_law_1502 rfl (lv_at hl 1 rfl) ?_
  refine lv_iload hx hb dL_law_1503 (lv_at hl 5 rfl) ?_
  refine hz_iconst hx hb dL_law_1505 ?_
  refine hz_iadd hx hb dL_law_1506 ?_
  refine hz_sld hx hb hX0 hbl hbA hS (by omega) (by omega) dL_law_1507 ?_
  refine hz_lawMi (As := [zi (sc xs (i + 1))]) (rest := []) ⟨hx, hb, hml, hown, hts⟩ (c_X8_load l G y ad _ vThrown vN vC vNow vHaze vCold vHot vPipe vDeg vThaw vTrc vTurb vLeft vLoad vWater vTrips vMissed vBRow vBSum vCell vDirt vAim vErr vCor vBrk vTop vLm vRows vCols vDown vRight vBound vStrain vPrice vFirm vSums vRays vFalls vSom vHad (sc xs (i + 1)) hTurb (sc_rng _ _)) (cwV 1 hts gL_law_X8_load rfl rfl rfl (by decide +kernel) ⟨Nat.le_of_ble_eq_true rfl, Nat.le_of_ble_eq_true rfl⟩) hP hK hD hS hA 0 9 rfl rfl rfl rfl hl.1 rfl (Nat.le_of_ble_eq_true rfl) dL_law_1508 ⟨by show (cells + 1) + 0 ≤ 601024; omega, by show (slots + 6) + 0 ≤ 7293034; omega⟩ (fun _ => rfl) (fun u H locs hu hP hD hS => ?_)
  obtain ⟨b_th, b_r, b_nLoad, b_nLeft, b_nTurb⟩ := u
  have hM := PLift.up hu
  clear hu
  have hP : va_P G vwCl (((hW ah z y vN vC vNow vHaze vCold vHot vPipe vDeg cThaw vTrc a_nTurb a_nLeft a_nLoad vWater vTrips vMi1 vMi2 vSz vBs vCell vDirt vAim vErr vCor vBrk vTop vLm vRows vCols vDown vRight vBound vStrain vPrice vFirm vSums vTk vFl1 vFl2 vTe vAw vRo vBe) ++ oW o0 y a_nO) ++ (mW ad y b_th vN vC vNow vHaze vCold vHot vPipe vDeg vThaw vTrc b_nTurb b_nLeft b_nLoad vWater vTrips vMissed vBRow vBSum vCell vDirt vAim vErr vCor vBrk vTop vLm vRows vCols vDown vRight vBound vStrain vPrice vFirm vSums vRays vFalls vSom vHad)) H := hP
  have hD : va_D (fun q : Nat => s.heap.size ≤ q) (((hW ah z y vN vC vNow vHaze vCold vHot vPipe vDeg cThaw vTrc a_nTurb a_nLeft a_nLoad vWater vTrips vMi1 vMi2 vSz vBs vCell vDirt vAim vErr vCor vBrk vTop vLm vRows vCols vDown vRight vBound vStrain vPrice vFirm vSums vTk vFl1 vFl2 vTe vAw vRo vBe) ++ oW o0 y a_nO) ++ (mW ad y b_th vN vC vNow vHaze vCold vHot vPipe vDeg vThaw vTrc b_nTurb b_nLeft b_nLoad vWater vTrips vMissed vBRow vBSum vCell vDirt vAim vErr vCor vBrk vTop vLm vRows vCols vDown vRight vBound vStrain vPrice vFirm vSums vRays vFalls vSom vHad)) := hD
  have hmk : b_th = kc := (hM.down.1).trans hkc.symm
  refine lv_istore (lv' := [(6, zi b_r), (5, zi kc), (0, .ref b), (1, .ref (ah 0)), (2, .ref (ad 0)), (3, .ref o0), (4, zi i)]) hx hb dL_law_1511 hl (by decide) rfl (fun ls hl => ?_)
  refine lv_aload_n hx hb dL_law_1513 rfl (lv_at hl 4 rfl) ?_
  refine hz_lawMi (As := []) (rest := []) ⟨hx, hb, hml, hown, hts⟩ (c_X8_thrown l G y ad _ b_th vN vC vNow vHaze vCold vHot vPipe vDeg vThaw vTrc b_nTurb b_nLeft b_nLoad vWater vTrips vMissed vBRow vBSum vCell vDirt vAim vErr vCor vBrk vTop vLm vRows vCols vDown vRight vBound vStrain vPrice vFirm vSums vRays vFalls vSom vHad) (cwV 0 hts gL_law_X8_thrown rfl rfl rfl (by decide +kernel) ⟨Nat.le_of_ble_eq_true rfl, Nat.le_of_ble_eq_true rfl⟩) hP hK hD hS hA 0 9 rfl rfl rfl rfl hl.1 rfl (Nat.le_of_ble_eq_true rfl) dL_law_1514 ⟨by show (cells + 1) + 0 ≤ 601024; omega, by show (slots + 6) + 0 ≤ 7293034; omega⟩ (fun _ => rfl) (fun u H locs hu hP hD hS => ?_)
  have hP : va_P G vwCl (((hW ah z y vN vC vNow vHaze vCold vHot vPipe vDeg cThaw vTrc a_nTurb a_nLeft a_nLoad vWater vTrips vMi1 vMi2 vSz vBs vCell vDirt vAim vErr vCor vBrk vTop vLm vRows vCols vDown vRight vBound vStrain vPrice vFirm vSums vTk vFl1 vFl2 vTe vAw vRo vBe) ++ oW o0 y a_nO) ++ (mW ad y b_th vN vC vNow vHaze vCold vHot vPipe vDeg vThaw vTrc b_nTurb b_nLeft b_nLoad vWater vTrips vMissed vBRow vBSum vCell vDirt vAim vErr vCor vBrk vTop vLm vRows vCols vDown vRight vBound vStrain vPrice vFirm vSums vRays vFalls vSom vHad)) H := hP
  have hD : va_D (fun q : Nat => s.heap.size ≤ q) (((hW ah z y vN vC vNow vHaze vCold vHot vPipe vDeg cThaw vTrc a_nTurb a_nLeft a_nLoad vWater vTrips vMi1 vMi2 vSz vBs vCell vDirt vAim vErr vCor vBrk vTop vLm vRows vCols vDown vRight vBound vStrain vPrice vFirm vSums vTk vFl1 vFl2 vTe vAw vRo vBe) ++ oW o0 y a_nO) ++ (mW ad y b_th vN vC vNow vHaze vCold vHot vPipe vDeg vThaw vTrc b_nTurb b_nLeft b_nLoad vWater vTrips vMissed vBRow vBSum vCell vDirt vAim vErr vCor vBrk vTop vLm vRows vCols vDown vRight vBound vStrain vPrice vFirm vSums vRays vFalls vSom vHad)) := hD
  refine lv_iload hx hb dL_law_1517 (lv_at hl 1 rfl) ?_
  refine hz_icmp_eq (tgt := 1524) hx hb dL_law_1519 (by decide) (by omega) (fun _ => ?_) (fun q => absurd (by omega) q)
  refine lv_iload hx hb dL_law_1524 (lv_at hl 1 rfl) ?_
  refine hz_if_ne (tgt := 1541) hx hb dL_law_1526 (by decide) (by omega) (fun c1 => ?_) (fun c1 => ?_)
  · have h0 : ¬ (if ¬ (1 ≤ (sc xs (i + 1)) ∧ (sc xs (i + 1)) ≤ 20) then (1 : Int) else 0) = 0 := fun q => c1 (hkc.trans q)
    have hPz := hP
    have hDz := hD
    have hs_nLoad := (hU.down.2.2.2.1 h0).symm
    subst hs_nLoad
    have hs_nLeft := (hU.down.2.2.2.2.1 h0).symm
    subst hs_nLeft
    have hs_nTurb := (hU.down.2.2.2.2.2.1 h0).symm
    subst hs_nTurb
    have ht_nLoad := (hM.down.2.2.2.1 h0).symm
    subst ht_nLoad
    have ht_nLeft := (hM.down.2.2.2.2.2.1 h0).symm
    subst ht_nLeft
    have ht_nTurb := (hM.down.2.2.2.2.2.2.2 h0).symm
    subst ht_nTurb
    have hP : va_P G vwCl (((hW ah z y vN vC vNow vHaze vCold vHot vPipe vDeg cThaw vTrc vTurb vLeft vLoad vWater vTrips vMi1 vMi2 vSz vBs vCell vDirt vAim vErr vCor vBrk vTop vLm vRows vCols vDown vRight vBound vStrain vPrice vFirm vSums vTk vFl1 vFl2 vTe vAw vRo vBe) ++ oW o0 y a_nO) ++ (mW ad y b_th vN vC vNow vHaze vCold vHot vPipe vDeg vThaw vTrc vTurb vLeft vLoad vWater vTrips vMissed vBRow vBSum vCell vDirt vAim vErr vCor vBrk vTop vLm vRows vCols vDown vRight vBound vStrain vPrice vFirm vSums vRays vFalls vSom vHad)) H := hPz
    have hD : va_D (fun q : Nat => s.heap.size ≤ q) (((hW ah z y vN vC vNow vHaze vCold vHot vPipe vDeg cThaw vTrc vTurb vLeft vLoad vWater vTrips vMi1 vMi2 vSz vBs vCell vDirt vAim vErr vCor vBrk vTop vLm vRows vCols vDown vRight vBound vStrain vPrice vFirm vSums vTk vFl1 vFl2 vTe vAw vRo vBe) ++ oW o0 y a_nO) ++ (mW ad y b_th vN vC vNow vHaze vCold vHot vPipe vDeg vThaw vTrc vTurb vLeft vLoad vWater vTrips vMissed vBRow vBSum vCell vDirt vAim vErr vCor vBrk vTop vLm vRows vCols vDown vRight vBound vStrain vPrice vFirm vSums vRays vFalls vSom vHad)) := hDz
    refine lv_goto (tgt := 1990) hx hb dL_law_1541 (by decide) ?_
    refine W.widen (k := cells + 40) (n := slots + 400) (by omega) (by omega) ?_
    exact K z vN vC vNow vHaze vCold vHot vPipe vDeg cThaw vThaw vTrc vTurb vLeft vLoad vWater vTrips vMi1 vMi2 vSz vBs b_th vMissed vBRow vBSum vCell vDirt vAim vErr vCor vBrk vTop vLm vRows vCols vDown vRight vBound vStrain vPrice vFirm vSums vTk vFl1 vFl2 vTe vAw vRo vBe vRays vFalls vSom vHad a_nO H locs hFA0 hP hD hS ls (lv_sub hl [2, 3, 4, 5, 6] rfl)
  · have h0 : (if ¬ (1 ≤ (sc xs (i + 1)) ∧ (sc xs (i + 1)) ≤ 20) then (1 : Int) else 0) = 0 := hkc.symm.trans c1
    have hPz := hP
    have hDz := hD
    have hs_nLoad := (hU.down.1 h0).symm
    subst hs_nLoad
    have hout : a_nO 0 = wI (vLoad) := hU.down.2.2.2.2.2.2 h0
    have hs_nLeft := (hU.down.2.1 h0).symm
    subst hs_nLeft
    have hs_nTurb := (hU.down.2.2.1 h0).symm
    subst hs_nTurb
    have ht_nLoad := (hM.down.2.2.1 h0).symm
    subst ht_nLoad
    have ht_nLeft := (hM.down.2.2.2.2.1 h0).symm
    subst ht_nLeft
    have ht_nTurb := (hM.down.2.2.2.2.2.2.1 h0).symm
    subst ht_nTurb
    have hans : b_r = vLoad := hM.down.2.1 h0
    have hP : va_P G vwCl (((hW ah z y vN vC vNow vHaze vCold vHot vPipe vDeg cThaw vTrc (if vTurb = 0 then 1 else vTurb) (if vTurb = 0 then 2 else vLeft) (sc xs (i + 1)) vWater vTrips vMi1 vMi2 vSz vBs vCell vDirt vAim vErr vCor vBrk vTop vLm vRows vCols vDown vRight vBound vStrain vPrice vFirm vSums vTk vFl1 vFl2 vTe vAw vRo vBe) ++ oW o0 y a_nO) ++ (mW ad y b_th vN vC vNow vHaze vCold vHot vPipe vDeg vThaw vTrc (if vTurb = 0 then 1 else vTurb) (if vTurb = 0 then 2 else vLeft) (sc xs (i + 1)) vWater vTrips vMissed vBRow vBSum vCell vDirt vAim vErr vCor vBrk vTop vLm vRows vCols vDown vRight vBound vStrain vPrice vFirm vSums vRays vFalls vSom vHad)) H := hPz
    have hD : va_D (fun q : Nat => s.heap.size ≤ q) (((hW ah z y vN vC vNow vHaze vCold vHot vPipe vDeg cThaw vTrc (if vTurb = 0 then 1 else vTurb) (if vTurb = 0 then 2 else vLeft) (sc xs (i + 1)) vWater vTrips vMi1 vMi2 vSz vBs vCell vDirt vAim vErr vCor vBrk vTop vLm vRows vCols vDown vRight vBound vStrain vPrice vFirm vSums vTk vFl1 vFl2 vTe vAw vRo vBe) ++ oW o0 y a_nO) ++ (mW ad y b_th vN vC vNow vHaze vCold vHot vPipe vDeg vThaw vTrc (if vTurb = 0 then 1 else vTurb) (if vTurb = 0 then 2 else vLeft) (sc xs (i + 1)) vWater vTrips vMissed vBRow vBSum vCell vDirt vAim vErr vCor vBrk vTop vLm vRows vCols vDown vRight vBound vStrain vPrice vFirm vSums vRays vFalls vSom vHad)) := hDz
    refine lv_aload_n hx hb dL_law_1529 rfl (lv_at hl 5 rfl) ?_
    refine hz_iconst hx hb dL_law_1530 ?_
    refine hz_laldo hx hb hK hP dL_law_1531 ?_
    refine lv_iload hx hb dL_law_1532 (lv_at hl 0 rfl) ?_
    refine hz_i2lw hx hb dL_law_1534 ?_
    refine hz_lcmp hx hb dL_law_1535 (fun v hv => ?_)
    refine lv_if_eq (tgt := 1541) hx hb dL_law_1536 (by decide) (fun _ => ?_) (fun q => absurd (hv.mpr (congrArg zL (hout.trans (congrArg wI hans.symm)))) q)
    refine lv_goto (tgt := 1990) hx hb dL_law_1541 (by decide) ?_
    refine W.widen (k := cells + 40) (n := slots + 400) (by omega) (by omega) ?_
    exact K z vN vC vNow vHaze vCold vHot vPipe vDeg cThaw vThaw vTrc (if vTurb = 0 then 1 else vTurb) (if vTurb = 0 then 2 else vLeft) (sc xs (i + 1)) vWater vTrips vMi1 vMi2 vSz vBs b_th vMissed vBRow vBSum vCell vDirt vAim vErr vCor vBrk vTop vLm vRows vCols vDown vRight vBound vStrain vPrice vFirm vSums vTk vFl1 vFl2 vTe vAw vRo vBe vRays vFalls vSom vHad a_nO H locs ⟨hZ, hZe, hTk, hN, hC, hNow, hHaze, hSalt, hPipe, hDeg, hThC, hThM, hThE, hTrc, (show 0 ≤ (if vTurb = 0 then 1 else vTurb) ∧ (if vTurb = 0 then 1 else vTurb) ≤ 2 from by omega), (show 0 ≤ (if vTurb = 0 then 2 else vLeft) ∧ (if vTurb = 0 then 2 else vLeft) ≤ 2 ∧ ((if vTurb = 0 then 1 else vTurb) = 1 → 1 ≤ (if vTurb = 0 then 2 else vLeft)) from by omega), (show 0 ≤ (sc xs (i + 1)) ∧ (sc xs (i + 1)) ≤ 20 from by omega), hWater, hTrips, hCell, hDirt, hAim, hErr, hCor, hBrk, hTop, hLm, hRows, hCols, hDown, hRight, hBound, hStrain, hPrice, hFirm, hE0⟩ hP hD hS ls (lv_sub hl [2, 3, 4, 5, 6] rfl)
set_option maxHeartbeats 16000000 in
set_option maxRecDepth 100000 in
theorem lw_c23 (p : Program) (l : Launch) (e : Env) (s : State) (m : MethodId) (below : List Frame) (meth : Method) (c : Code) (b L : Nat) (xs : Nat → Int32) (G : va_G) (mi zE : Nat) (y : Nat → ClassId) (ah ad : Nat → Nat) (o0 : Nat) (cells slots : Nat) (i : Int) (hQ : LC p l s m meth c b L xs G mi zE y) (hi : 0 ≤ i ∧ i + 7 ≤ L) (hroom : cells + 40 ≤ 601024 ∧ slots + 400 ≤ 7293034) (K : LK p l e s m below meth c b L xs G mi zE y ah ad o0 (cells + 40) (slots + 400) i 1990) : LK p l e s m below meth c b L xs G mi zE y ah ad o0 cells slots i 1544 := by
  intro z vN vC vNow vHaze vCold vHot vPipe vDeg cThaw vThaw vTrc vTurb vLeft vLoad vWater vTrips vMi1 vMi2 vSz vBs vThrown vMissed vBRow vBSum vCell vDirt vAim vErr vCor vBrk vTop vLm vRows vCols vDown vRight vBound vStrain vPrice vFirm vSums vTk vFl1 vFl2 vTe vAw vRo vBe vRays vFalls vSom vHad vO H locs hFA hP hD hS ls hl
  obtain ⟨hx, hb, hr, hts, hown, hml, hX0, hbl, hL, hlocks, hK, hGP, hX, hGN, hlt⟩ := hQ
  have hA : ∀ q : Nat, s.heap.size ≤ q → (fun q : Nat => s.heap.size ≤ q) q := fun _ h => h
  have hbA : ¬ (fun q : Nat => s.heap.size ≤ q) b := Nat.not_le.mpr hbl
  have hFA0 := hFA
  obtain ⟨hZ, hZe, hTk, hN, hC, hNow, hHaze, hSalt, hPipe, hDeg, hThC, hThM, hThE, hTrc, hTurb, hLeft, hLoad, hWater, hTrips, hCell, hDirt, hAim, hErr, hCor, hBrk, hTop, hLm, hRows, hCols, hDown, hRight, hBound, hStrain, hPrice, hFirm, hE0⟩ := hFA
  refine lv_aload_n hx hb dL_law_1544 rfl (lv_at hl 1 rfl) ?_
  refine lv_aload_n hx hb dL_law_1545 rfl (lv_at hl 3 rfl) ?_
  refine hz_lawL (As := [.ref (ah 0), .ref o0]) (rest := []) ⟨hx, hb, hml, hown, hts⟩ (c_L_stop l hlt G ah z mi zE y _ vN vC vNow vHaze vCold vHot vPipe vDeg cThaw vTrc vTurb vLeft vLoad vWater vTrips vMi1 vMi2 vSz vBs vCell vDirt vAim vErr vCor vBrk vTop vLm vRows vCols vDown vRight vBound vStrain vPrice vFirm vSums vTk vFl1 vFl2 vTe vAw vRo vBe o0 vO  hTurb) (vx_cwSW 2 hts gL_law_L_stop rfl rfl rfl (by decide +kernel) ⟨Nat.le_of_ble_eq_true rfl, Nat.le_of_ble_eq_true rfl⟩) hP hK hD hS hA hGP hX hGN rfl hl.1 rfl (Nat.le_of_ble_eq_true rfl) dL_law_1546 ⟨by show cells + 1 ≤ 601024; omega, by show slots + 6 ≤ 7293034; omega⟩ (fun r u H locs hu hP hD hS => ?_)
  obtain ⟨a_nTurb, a_nLoad, a_nO⟩ := u
  obtain ⟨rfl, hu⟩ := hu
  have hU := PLift.up hu
  clear hu
  refine hz_topi (fun kc hkc => ?_)
  have hP : va_P G vwCl (((hW ah z y vN vC vNow vHaze vCold vHot vPipe vDeg cThaw vTrc a_nTurb vLeft a_nLoad vWater vTrips vMi1 vMi2 vSz vBs vCell vDirt vAim vErr vCor vBrk vTop vLm vRows vCols vDown vRight vBound vStrain vPrice vFirm vSums vTk vFl1 vFl2 vTe vAw vRo vBe) ++ oW o0 y a_nO) ++ (mW ad y vThrown vN vC vNow vHaze vCold vHot vPipe vDeg vThaw vTrc vTurb vLeft vLoad vWater vTrips vMissed vBRow vBSum vCell vDirt vAim vErr vCor vBrk vTop vLm vRows vCols vDown vRight vBound vStrain vPrice vFirm vSums vRays vFalls vSom vHad)) H := hP
  have hD : va_D (fun q : Nat => s.heap.size ≤ q) (((hW ah z y vN vC vNow vHaze vCold vHot vPipe vDeg cThaw vTrc a_nTurb vLeft a_nLoad vWater vTrips vMi1 vMi2 vSz vBs vCell vDirt vAim vErr vCor vBrk vTop vLm vRows vCols vDown vRight vBound vStrain vPrice vFirm vSums vTk vFl1 vFl2 vTe vAw vRo vBe) ++ oW o0 y a_nO) ++ (mW ad y vThrown vN vC vNow vHaze vCold vHot vPipe vDeg vThaw vTrc vTurb vLeft vLoad vWater vTrips vMissed vBRow vBSum vCell vDirt vAim vErr vCor vBrk vTop vLm vRows vCols vDown vRight vBound vStrain vPrice vFirm vSums vRays vFalls vSom vHad)) := hD
  have hkr : 0 ≤ kc ∧ kc ≤ 3 := by rw [hkc]; first | omega | (split <;> (try split) <;> (try split) <;> omega)
  refine lv_istore (lv' := [(5, zi kc), (0, .ref b), (1, .ref (ah 0)), (2, .ref (ad 0)), (3, .ref o0), (4, zi i)]) hx hb dL_law_1549 hl (by decide) rfl (fun ls hl => ?_)
  refine lv_aload_n hx hb dL_law_1551 rfl (lv_at hl 3 rfl) ?_
  refine hz_lawMi (As := []) (rest := []) ⟨hx, hb, hml, hown, hts⟩ (c_X8_stop l G y ad _ vThrown vN vC vNow vHaze vCold vHot vPipe vDeg vThaw vTrc vTurb vLeft vLoad vWater vTrips vMissed vBRow vBSum vCell vDirt vAim vErr vCor vBrk vTop vLm vRows vCols vDown vRight vBound vStrain vPrice vFirm vSums vRays vFalls vSom vHad  hTurb) (cwV 0 hts gL_law_X8_stop rfl rfl rfl (by decide +kernel) ⟨Nat.le_of_ble_eq_true rfl, Nat.le_of_ble_eq_true rfl⟩) hP hK hD hS hA 0 9 rfl rfl rfl rfl hl.1 rfl (Nat.le_of_ble_eq_true rfl) dL_law_1552 ⟨by show (cells + 1) + 0 ≤ 601024; omega, by show (slots + 6) + 0 ≤ 7293034; omega⟩ (fun _ => rfl) (fun u H locs hu hP hD hS => ?_)
  obtain ⟨b_th, b_r, b_nTurb, b_nLoad⟩ := u
  have hM := PLift.up hu
  clear hu
  have hP : va_P G vwCl (((hW ah z y vN vC vNow vHaze vCold vHot vPipe vDeg cThaw vTrc a_nTurb vLeft a_nLoad vWater vTrips vMi1 vMi2 vSz vBs vCell vDirt vAim vErr vCor vBrk vTop vLm vRows vCols vDown vRight vBound vStrain vPrice vFirm vSums vTk vFl1 vFl2 vTe vAw vRo vBe) ++ oW o0 y a_nO) ++ (mW ad y b_th vN vC vNow vHaze vCold vHot vPipe vDeg vThaw vTrc b_nTurb vLeft b_nLoad vWater vTrips vMissed vBRow vBSum vCell vDirt vAim vErr vCor vBrk vTop vLm vRows vCols vDown vRight vBound vStrain vPrice vFirm vSums vRays vFalls vSom vHad)) H := hP
  have hD : va_D (fun q : Nat => s.heap.size ≤ q) (((hW ah z y vN vC vNow vHaze vCold vHot vPipe vDeg cThaw vTrc a_nTurb vLeft a_nLoad vWater vTrips vMi1 vMi2 vSz vBs vCell vDirt vAim vErr vCor vBrk vTop vLm vRows vCols vDown vRight vBound vStrain vPrice vFirm vSums vTk vFl1 vFl2 vTe vAw vRo vBe) ++ oW o0 y a_nO) ++ (mW ad y b_th vN vC vNow vHaze vCold vHot vPipe vDeg vThaw vTrc b_nTurb vLeft b_nLoad vWater vTrips vMissed vBRow vBSum vCell vDirt vAim vErr vCor vBrk vTop vLm vRows vCols vDown vRight vBound vStrain vPrice vFirm vSums vRays vFalls vSom vHad)) := hD
  have hmk : b_th = kc := (hM.down.1).trans hkc.symm
  refine lv_istore (lv' := [(6, zi b_r), (5, zi kc), (0, .ref b), (1, .ref (ah 0)), (2, .ref (ad 0)), (3, .ref o0), (4, zi i)]) hx hb dL_law_1555 hl (by decide) rfl (fun ls hl => ?_)
  refine lv_aload_n hx hb dL_law_1557 rfl (lv_at hl 4 rfl) ?_
  refine hz_lawMi (As := []) (rest := []) ⟨hx, hb, hml, hown, hts⟩ (c_X8_thrown l G y ad _ b_th vN vC vNow vHaze vCold vHot vPipe vDeg vThaw vTrc b_nTurb vLeft b_nLoad vWater vTrips vMissed vBRow vBSum vCell vDirt vAim vErr vCor vBrk vTop vLm vRows vCols vDown vRight vBound vStrain vPrice vFirm vSums vRays vFalls vSom vHad) (cwV 0 hts gL_law_X8_thrown rfl rfl rfl (by decide +kernel) ⟨Nat.le_of_ble_eq_true rfl, Nat.le_of_ble_eq_true rfl⟩) hP hK hD hS hA 0 9 rfl rfl rfl rfl hl.1 rfl (Nat.le_of_ble_eq_true rfl) dL_law_1558 ⟨by show (cells + 1) + 0 ≤ 601024; omega, by show (slots + 6) + 0 ≤ 7293034; omega⟩ (fun _ => rfl) (fun u H locs hu hP hD hS => ?_)
  have hP : va_P G vwCl (((hW ah z y vN vC vNow vHaze vCold vHot vPipe vDeg cThaw vTrc a_nTurb vLeft a_nLoad vWater vTrips vMi1 vMi2 vSz vBs vCell vDirt vAim vErr vCor vBrk vTop vLm vRows vCols vDown vRight vBound vStrain vPrice vFirm vSums vTk vFl1 vFl2 vTe vAw vRo vBe) ++ oW o0 y a_nO) ++ (mW ad y b_th vN vC vNow vHaze vCold vHot vPipe vDeg vThaw vTrc b_nTurb vLeft b_nLoad vWater vTrips vMissed vBRow vBSum vCell vDirt vAim vErr vCor vBrk vTop vLm vRows vCols vDown vRight vBound vStrain vPrice vFirm vSums vRays vFalls vSom vHad)) H := hP
  have hD : va_D (fun q : Nat => s.heap.size ≤ q) (((hW ah z y vN vC vNow vHaze vCold vHot vPipe vDeg cThaw vTrc a_nTurb vLeft a_nLoad vWater vTrips vMi1 vMi2 vSz vBs vCell vDirt vAim vErr vCor vBrk vTop vLm vRows vCols vDown vRight vBound vStrain vPrice vFirm vSums vTk vFl1 vFl2 vTe vAw vRo vBe) ++ oW o0 y a_nO) ++ (mW ad y b_th vN vC vNow vHaze vCold vHot vPipe vDeg vThaw vTrc b_nTurb vLeft b_nLoad vWater vTrips vMissed vBRow vBSum vCell vDirt vAim vErr vCor vBrk vTop vLm vRows vCols vDown vRight vBound vStrain vPrice vFirm vSums vRays vFalls vSom vHad)) := hD
  refine lv_iload hx hb dL_law_1561 (lv_at hl 1 rfl) ?_
  refine hz_icmp_eq (tgt := 1568) hx hb dL_law_1563 (by decide) (by omega) (fun _ => ?_) (fun q => absurd (by omega) q)
  refine lv_iload hx hb dL_law_1568 (lv_at hl 1 rfl) ?_
  refine hz_if_ne (tgt := 1585) hx hb dL_law_1570 (by decide) (by omega) (fun c1 => ?_) (fun c1 => ?_)
  · have h0 : ¬ (if vTurb = 0 then (1 : Int) else 0) = 0 := fun q => c1 (hkc.trans q)
    have hPz := hP
    have hDz := hD
    have hs_nTurb := (hU.down.2.2.1 h0).symm
    subst hs_nTurb
    have hs_nLoad := (hU.down.2.2.2.1 h0).symm
    subst hs_nLoad
    have ht_nTurb := (hM.down.2.2.2.1 h0).symm
    subst ht_nTurb
    have ht_nLoad := (hM.down.2.2.2.2.2 h0).symm
    subst ht_nLoad
    have hP : va_P G vwCl (((hW ah z y vN vC vNow vHaze vCold vHot vPipe vDeg cThaw vTrc vTurb vLeft vLoad vWater vTrips vMi1 vMi2 vSz vBs vCell vDirt vAim vErr vCor vBrk vTop vLm vRows vCols vDown vRight vBound vStrain vPrice vFirm vSums vTk vFl1 vFl2 vTe vAw vRo vBe) ++ oW o0 y a_nO) ++ (mW ad y b_th vN vC vNow vHaze vCold vHot vPipe vDeg vThaw vTrc vTurb vLeft vLoad vWater vTrips vMissed vBRow vBSum vCell vDirt vAim vErr vCor vBrk vTop vLm vRows vCols vDown vRight vBound vStrain vPrice vFirm vSums vRays vFalls vSom vHad)) H := hPz
    have hD : va_D (fun q : Nat => s.heap.size ≤ q) (((hW ah z y vN vC vNow vHaze vCold vHot vPipe vDeg cThaw vTrc vTurb vLeft vLoad vWater vTrips vMi1 vMi2 vSz vBs vCell vDirt vAim vErr vCor vBrk vTop vLm vRows vCols vDown vRight vBound vStrain vPrice vFirm vSums vTk vFl1 vFl2 vTe vAw vRo vBe) ++ oW o0 y a_nO) ++ (mW ad y b_th vN vC vNow vHaze vCold vHot vPipe vDeg vThaw vTrc vTurb vLeft vLoad vWater vTrips vMissed vBRow vBSum vCell vDirt vAim vErr vCor vBrk vTop vLm vRows vCols vDown vRight vBound vStrain vPrice vFirm vSums vRays vFalls vSom vHad)) := hDz
    refine lv_goto (tgt := 1990) hx hb dL_law_1585 (by decide) ?_
    refine W.widen (k := cells + 40) (n := slots + 400) (by omega) (by omega) ?_
    exact K z vN vC vNow vHaze vCold vHot vPipe vDeg cThaw vThaw vTrc vTurb vLeft vLoad vWater vTrips vMi1 vMi2 vSz vBs b_th vMissed vBRow vBSum vCell vDirt vAim vErr vCor vBrk vTop vLm vRows vCols vDown vRight vBound vStrain vPrice vFirm vSums vTk vFl1 vFl2 vTe vAw vRo vBe vRays vFalls vSom vHad a_nO H locs hFA0 hP hD hS ls (lv_sub hl [2, 3, 4, 5, 6] rfl)
  · have h0 : (if vTurb = 0 then (1 : Int) else 0) = 0 := hkc.symm.trans c1
    have hPz := hP
    have hDz := hD
    have hs_nTurb := (hU.down.1 h0).symm
    subst hs_nTurb
    have hs_nLoad := (hU.down.2.1 h0).symm
    subst hs_nLoad
    have hout : a_nO 0 = wI (vTurb) := hU.down.2.2.2.2 h0
    have ht_nTurb := (hM.down.2.2.1 h0).symm
    subst ht_nTurb
    have ht_nLoad := (hM.down.2.2.2.2.1 h0).symm
    subst ht_nLoad
    have hans : b_r = vTurb := hM.down.2.1 h0
    have hP : va_P G vwCl (((hW ah z y vN vC vNow vHaze vCold vHot vPipe vDeg cThaw vTrc 0 vLeft 0 vWater vTrips vMi1 vMi2 vSz vBs vCell vDirt vAim vErr vCor vBrk vTop vLm vRows vCols vDown vRight vBound vStrain vPrice vFirm vSums vTk vFl1 vFl2 vTe vAw vRo vBe) ++ oW o0 y a_nO) ++ (mW ad y b_th vN vC vNow vHaze vCold vHot vPipe vDeg vThaw vTrc 0 vLeft 0 vWater vTrips vMissed vBRow vBSum vCell vDirt vAim vErr vCor vBrk vTop vLm vRows vCols vDown vRight vBound vStrain vPrice vFirm vSums vRays vFalls vSom vHad)) H := hPz
    have hD : va_D (fun q : Nat => s.heap.size ≤ q) (((hW ah z y vN vC vNow vHaze vCold vHot vPipe vDeg cThaw vTrc 0 vLeft 0 vWater vTrips vMi1 vMi2 vSz vBs vCell vDirt vAim vErr vCor vBrk vTop vLm vRows vCols vDown vRight vBound vStrain vPrice vFirm vSums vTk vFl1 vFl2 vTe vAw vRo vBe) ++ oW o0 y a_nO) ++ (mW ad y b_th vN vC vNow vHaze vCold vHot vPipe vDeg vThaw vTrc 0 vLeft 0 vWater vTrips vMissed vBRow vBSum vCell vDirt vAim vErr vCor vBrk vTop vLm vRows vCols vDown vRight vBound vStrain vPrice vFirm vSums vRays vFalls vSom vHad)) := hDz
    refine lv_aload_n hx hb dL_law_1573 rfl (lv_at hl 5 rfl) ?_
    refine hz_iconst hx hb dL_law_1574 ?_
    refine hz_laldo hx hb hK hP dL_law_1575 ?_
    refine lv_iload hx hb dL_law_1576 (lv_at hl 0 rfl) ?_
    refine hz_i2lw hx hb dL_law_1578 ?_
    refine hz_lcmp hx hb dL_law_1579 (fun v hv => ?_)
    refine lv_if_eq (tgt := 1585) hx hb dL_law_1580 (by decide) (fun _ => ?_) (fun q => absurd (hv.mpr (congrArg zL (hout.trans (congrArg wI hans.symm)))) q)
    refine lv_goto (tgt := 1990) hx hb dL_law_1585 (by decide) ?_
    refine W.widen (k := cells + 40) (n := slots + 400) (by omega) (by omega) ?_
    exact K z vN vC vNow vHaze vCold vHot vPipe vDeg cThaw vThaw vTrc 0 vLeft 0 vWater vTrips vMi1 vMi2 vSz vBs b_th vMissed vBRow vBSum vCell vDirt vAim vErr vCor vBrk vTop vLm vRows vCols vDown vRight vBound vStrain vPrice vFirm vSums vTk vFl1 vFl2 vTe vAw vRo vBe vRays vFalls vSom vHad a_nO H locs ⟨hZ, hZe, hTk, hN, hC, hNow, hHaze, hSalt, hPipe, hDeg, hThC, hThM, hThE, hTrc, (show 0 ≤ 0 ∧ 0 ≤ 2 from by omega), (show 0 ≤ vLeft ∧ vLeft ≤ 2 ∧ (0 = 1 → 1 ≤ vLeft) from by omega), (show 0 ≤ 0 ∧ 0 ≤ 20 from by omega), hWater, hTrips, hCell, hDirt, hAim, hErr, hCor, hBrk, hTop, hLm, hRows, hCols, hDown, hRight, hBound, hStrain, hPrice, hFirm, hE0⟩ hP hD hS ls (lv_sub hl [2, 3, 4, 5, 6] rfl)
set_option maxHeartbeats 16000000 in
set_option maxRecDepth 100000 in
theorem lw_c24 (p : Program) (l : Launch) (e : Env) (s : State) (m : MethodId) (below : List Frame) (meth : Method) (c : Code) (b L : Nat) (xs : Nat → Int32) (G : va_G) (mi zE : Nat) (y : Nat → ClassId) (ah ad : Nat → Nat) (o0 : Nat) (cells slots : Nat) (i : Int) (hQ : LC p l s m meth c b L xs G mi zE y) (hi : 0 ≤ i ∧ i + 7 ≤ L) (hroom : cells + 40 ≤ 601024 ∧ slots + 400 ≤ 7293034) (K : LK p l e s m below meth c b L xs G mi zE y ah ad o0 (cells + 40) (slots + 400) i 1990) : LK p l e s m below meth c b L xs G mi zE y ah ad o0 cells slots i 1588 := by
  intro z vN vC vNow vHaze vCold vHot vPipe vDeg cThaw vThaw vTrc vTurb vLeft vLoad vWater vTrips vMi1 vMi2 vSz vBs vThrown vMissed vBRow vBSum vCell vDirt vAim vErr vCor vBrk vTop vLm vRows vCols vDown vRight vBound vStrain vPrice vFirm vSums vTk vFl1 vFl2 vTe vAw vRo vBe vRays vFalls vSom vHad vO H locs hFA hP hD hS ls hl
  obtain ⟨hx, hb, hr, hts, hown, hml, hX0, hbl, hL, hlocks, hK, hGP, hX, hGN, hlt⟩ := hQ
  have hA : ∀ q : Nat, s.heap.size ≤ q → (fun q : Nat => s.heap.size ≤ q) q := fun _ h => h
  have hbA : ¬ (fun q : Nat => s.heap.size ≤ q) b := Nat.not_le.mpr hbl
  have hFA0 := hFA
  obtain ⟨hZ, hZe, hTk, hN, hC, hNow, hHaze, hSalt, hPipe, hDeg, hThC, hThM, hThE, hTrc, hTurb, hLeft, hLoad, hWater, hTrips, hCell, hDirt, hAim, hErr, hCor, hBrk, hTop, hLm, hRows, hCols, hDown, hRight, hBound, hStrain, hPrice, hFirm, hE0⟩ := hFA
  refine lv_aload_n hx hb dL_law_1588 rfl (lv_at hl 1 rfl) ?_
  refine lv_aload_n hx hb dL_law_1589 rfl (lv_at hl 0 rfl) ?_
  refine lv_iload hx hb dL_law_1590 (lv_at hl 4 rfl) ?_
  refine hz_iconst hx hb dL_law_1592 ?_
  refine hz_iadd hx hb dL_law_1593 ?_
  refine hz_sld hx hb hX0 hbl hbA hS (by omega) (by omega) dL_law_1594 ?_
  refine lv_aload_n hx hb dL_law_1595 rfl (lv_at hl 3 rfl) ?_
  refine hz_lawL (As := [.ref (ah 0), zi (sc xs (i + 1)), .ref o0]) (rest := []) ⟨hx, hb, hml, hown, hts⟩ (c_L_water l hlt G ah z mi zE y _ vN vC vNow vHaze vCold vHot vPipe vDeg cThaw vTrc vTurb vLeft vLoad vWater vTrips vMi1 vMi2 vSz vBs vCell vDirt vAim vErr vCor vBrk vTop vLm vRows vCols vDown vRight vBound vStrain vPrice vFirm vSums vTk vFl1 vFl2 vTe vAw vRo vBe o0 vO (sc xs (i + 1)) hWater (sc_rng _ _)) (vx_cwSW 3 hts gL_law_L_water rfl rfl rfl (by decide +kernel) ⟨Nat.le_of_ble_eq_true rfl, Nat.le_of_ble_eq_true rfl⟩) hP hK hD hS hA hGP hX hGN rfl hl.1 rfl (Nat.le_of_ble_eq_true rfl) dL_law_1596 ⟨by show cells + 2 ≤ 601024; omega, by show slots + 12 ≤ 7293034; omega⟩ (fun r u H locs hu hP hD hS => ?_)
  obtain ⟨a_nWater, a_nO⟩ := u
  obtain ⟨rfl, hu⟩ := hu
  have hU := PLift.up hu
  clear hu
  refine hz_topi (fun kc hkc => ?_)
  have hP : va_P G vwCl (((hW ah z y vN vC vNow vHaze vCold vHot vPipe vDeg cThaw vTrc vTurb vLeft vLoad a_nWater vTrips vMi1 vMi2 vSz vBs vCell vDirt vAim vErr vCor vBrk vTop vLm vRows vCols vDown vRight vBound vStrain vPrice vFirm vSums vTk vFl1 vFl2 vTe vAw vRo vBe) ++ oW o0 y a_nO) ++ (mW ad y vThrown vN vC vNow vHaze vCold vHot vPipe vDeg vThaw vTrc vTurb vLeft vLoad vWater vTrips vMissed vBRow vBSum vCell vDirt vAim vErr vCor vBrk vTop vLm vRows vCols vDown vRight vBound vStrain vPrice vFirm vSums vRays vFalls vSom vHad)) H := hP
  have hD : va_D (fun q : Nat => s.heap.size ≤ q) (((hW ah z y vN vC vNow vHaze vCold vHot vPipe vDeg cThaw vTrc vTurb vLeft vLoad a_nWater vTrips vMi1 vMi2 vSz vBs vCell vDirt vAim vErr vCor vBrk vTop vLm vRows vCols vDown vRight vBound vStrain vPrice vFirm vSums vTk vFl1 vFl2 vTe vAw vRo vBe) ++ oW o0 y a_nO) ++ (mW ad y vThrown vN vC vNow vHaze vCold vHot vPipe vDeg vThaw vTrc vTurb vLeft vLoad vWater vTrips vMissed vBRow vBSum vCell vDirt vAim vErr vCor vBrk vTop vLm vRows vCols vDown vRight vBound vStrain vPrice vFirm vSums vRays vFalls vSom vHad)) := hD
  have hkr : 0 ≤ kc ∧ kc ≤ 3 := by rw [hkc]; first | omega | (split <;> (try split) <;> (try split) <;> omega)
  refine lv_istore (lv' := [(5, zi kc), (0, .ref b), (1, .ref (ah 0)), (2, .ref (ad 0)), (3, .ref o0), (4, zi i)]) hx hb dL_law_1599 hl (by decide) rfl (fun ls hl => ?_)
  refine lv_aload_n hx hb dL_law_1601 rfl (lv_at hl 3 rfl) ?_
  refine lv_aload_n hx hb dL_law_1602 rfl (lv_at hl 1 rfl) ?_
  refine lv_iload hx hb dL_law_1603 (lv_at hl 5 rfl) ?_
  refine hz_iconst hx hb dL_law_1605 ?_
  refine hz_iadd hx hb dL_law_1606 ?_
  refine hz_sld hx hb hX0 hbl hbA hS (by omega) (by omega) dL_law_1607 ?_
  refine hz_lawMi (As := [zi (sc xs (i + 1))]) (rest := []) ⟨hx, hb, hml, hown, hts⟩ (c_X8_water l G y ad _ vThrown vN vC vNow vHaze vCold vHot vPipe vDeg vThaw vTrc vTurb vLeft vLoad vWater vTrips vMissed vBRow vBSum vCell vDirt vAim vErr vCor vBrk vTop vLm vRows vCols vDown vRight vBound vStrain vPrice vFirm vSums vRays vFalls vSom vHad (sc xs (i + 1)) hWater (sc_rng _ _)) (cwV 1 hts gL_law_X8_water rfl rfl rfl (by decide +kernel) ⟨Nat.le_of_ble_eq_true rfl, Nat.le_of_ble_eq_true rfl⟩) hP hK hD hS hA 0 9 rfl rfl rfl rfl hl.1 rfl (Nat.le_of_ble_eq_true rfl) dL_law_1608 ⟨by show (cells + 2) + 0 ≤ 601024; omega, by show (slots + 12) + 0 ≤ 7293034; omega⟩ (fun _ => rfl) (fun u H locs hu hP hD hS => ?_)
  obtain ⟨b_th, b_r, b_nWater⟩ := u
  have hM := PLift.up hu
  clear hu
  have hP : va_P G vwCl (((hW ah z y vN vC vNow vHaze vCold vHot vPipe vDeg cThaw vTrc vTurb vLeft vLoad a_nWater vTrips vMi1 vMi2 vSz vBs vCell vDirt vAim vErr vCor vBrk vTop vLm vRows vCols vDown vRight vBound vStrain vPrice vFirm vSums vTk vFl1 vFl2 vTe vAw vRo vBe) ++ oW o0 y a_nO) ++ (mW ad y b_th vN vC vNow vHaze vCold vHot vPipe vDeg vThaw vTrc vTurb vLeft vLoad b_nWater vTrips vMissed vBRow vBSum vCell vDirt vAim vErr vCor vBrk vTop vLm vRows vCols vDown vRight vBound vStrain vPrice vFirm vSums vRays vFalls vSom vHad)) H := hP
  have hD : va_D (fun q : Nat => s.heap.size ≤ q) (((hW ah z y vN vC vNow vHaze vCold vHot vPipe vDeg cThaw vTrc vTurb vLeft vLoad a_nWater vTrips vMi1 vMi2 vSz vBs vCell vDirt vAim vErr vCor vBrk vTop vLm vRows vCols vDown vRight vBound vStrain vPrice vFirm vSums vTk vFl1 vFl2 vTe vAw vRo vBe) ++ oW o0 y a_nO) ++ (mW ad y b_th vN vC vNow vHaze vCold vHot vPipe vDeg vThaw vTrc vTurb vLeft vLoad b_nWater vTrips vMissed vBRow vBSum vCell vDirt vAim vErr vCor vBrk vTop vLm vRows vCols vDown vRight vBound vStrain vPrice vFirm vSums vRays vFalls vSom vHad)) := hD
  have hmk : b_th = kc := (hM.down.1).trans hkc.symm
  refine lv_istore (lv' := [(6, zi b_r), (5, zi kc), (0, .ref b), (1, .ref (ah 0)), (2, .ref (ad 0)), (3, .ref o0), (4, zi i)]) hx hb dL_law_1611 hl (by decide) rfl (fun ls hl => ?_)
  refine lv_aload_n hx hb dL_law_1613 rfl (lv_at hl 4 rfl) ?_
  refine hz_lawMi (As := []) (rest := []) ⟨hx, hb, hml, hown, hts⟩ (c_X8_thrown l G y ad _ b_th vN vC vNow vHaze vCold vHot vPipe vDeg vThaw vTrc vTurb vLeft vLoad b_nWater vTrips vMissed vBRow vBSum vCell vDirt vAim vErr vCor vBrk vTop vLm vRows vCols vDown vRight vBound vStrain vPrice vFirm vSums vRays vFalls vSom vHad) (cwV 0 hts gL_law_X8_thrown rfl rfl rfl (by decide +kernel) ⟨Nat.le_of_ble_eq_true rfl, Nat.le_of_ble_eq_true rfl⟩) hP hK hD hS hA 0 9 rfl rfl rfl rfl hl.1 rfl (Nat.le_of_ble_eq_true rfl) dL_law_1614 ⟨by show (cells + 2) + 0 ≤ 601024; omega, by show (slots + 12) + 0 ≤ 7293034; omega⟩ (fun _ => rfl) (fun u H locs hu hP hD hS => ?_)
  have hP : va_P G vwCl (((hW ah z y vN vC vNow vHaze vCold vHot vPipe vDeg cThaw vTrc vTurb vLeft vLoad a_nWater vTrips vMi1 vMi2 vSz vBs vCell vDirt vAim vErr vCor vBrk vTop vLm vRows vCols vDown vRight vBound vStrain vPrice vFirm vSums vTk vFl1 vFl2 vTe vAw vRo vBe) ++ oW o0 y a_nO) ++ (mW ad y b_th vN vC vNow vHaze vCold vHot vPipe vDeg vThaw vTrc vTurb vLeft vLoad b_nWater vTrips vMissed vBRow vBSum vCell vDirt vAim vErr vCor vBrk vTop vLm vRows vCols vDown vRight vBound vStrain vPrice vFirm vSums vRays vFalls vSom vHad)) H := hP
  have hD : va_D (fun q : Nat => s.heap.size ≤ q) (((hW ah z y vN vC vNow vHaze vCold vHot vPipe vDeg cThaw vTrc vTurb vLeft vLoad a_nWater vTrips vMi1 vMi2 vSz vBs vCell vDirt vAim vErr vCor vBrk vTop vLm vRows vCols vDown vRight vBound vStrain vPrice vFirm vSums vTk vFl1 vFl2 vTe vAw vRo vBe) ++ oW o0 y a_nO) ++ (mW ad y b_th vN vC vNow vHaze vCold vHot vPipe vDeg vThaw vTrc vTurb vLeft vLoad b_nWater vTrips vMissed vBRow vBSum vCell vDirt vAim vErr vCor vBrk vTop vLm vRows vCols vDown vRight vBound vStrain vPrice vFirm vSums vRays vFalls vSom vHad)) := hD
  refine lv_iload hx hb dL_law_1617 (lv_at hl 1 rfl) ?_
  refine hz_icmp_eq (tgt := 1624) hx hb dL_law_1619 (by decide) (by omega) (fun _ => ?_) (fun q => absurd (by omega) q)
  refine lv_iload hx hb dL_law_1624 (lv_at hl 1 rfl) ?_
  refine hz_if_ne (tgt := 1641) hx hb dL_law_1626 (by decide) (by omega) (fun c1 => ?_) (fun c1 => ?_)
  · have h0 : ¬ (if ¬ (1 ≤ (sc xs (i + 1)) ∧ (sc xs (i + 1)) ≤ 500) then (1 : Int) else if 1000 < vWater + (sc xs (i + 1)) then 2 else 0) = 0 := fun q => c1 (hkc.trans q)
    have hPz := hP
    have hDz := hD
    have hs_nWater := (hU.down.2.1 h0).symm
    subst hs_nWater
    have ht_nWater := (hM.down.2.2.2 h0).symm
    subst ht_nWater
    have hP : va_P G vwCl (((hW ah z y vN vC vNow vHaze vCold vHot vPipe vDeg cThaw vTrc vTurb vLeft vLoad vWater vTrips vMi1 vMi2 vSz vBs vCell vDirt vAim vErr vCor vBrk vTop vLm vRows vCols vDown vRight vBound vStrain vPrice vFirm vSums vTk vFl1 vFl2 vTe vAw vRo vBe) ++ oW o0 y a_nO) ++ (mW ad y b_th vN vC vNow vHaze vCold vHot vPipe vDeg vThaw vTrc vTurb vLeft vLoad vWater vTrips vMissed vBRow vBSum vCell vDirt vAim vErr vCor vBrk vTop vLm vRows vCols vDown vRight vBound vStrain vPrice vFirm vSums vRays vFalls vSom vHad)) H := hPz
    have hD : va_D (fun q : Nat => s.heap.size ≤ q) (((hW ah z y vN vC vNow vHaze vCold vHot vPipe vDeg cThaw vTrc vTurb vLeft vLoad vWater vTrips vMi1 vMi2 vSz vBs vCell vDirt vAim vErr vCor vBrk vTop vLm vRows vCols vDown vRight vBound vStrain vPrice vFirm vSums vTk vFl1 vFl2 vTe vAw vRo vBe) ++ oW o0 y a_nO) ++ (mW ad y b_th vN vC vNow vHaze vCold vHot vPipe vDeg vThaw vTrc vTurb vLeft vLoad vWater vTrips vMissed vBRow vBSum vCell vDirt vAim vErr vCor vBrk vTop vLm vRows vCols vDown vRight vBound vStrain vPrice vFirm vSums vRays vFalls vSom vHad)) := hDz
    refine lv_goto (tgt := 1990) hx hb dL_law_1641 (by decide) ?_
    refine W.widen (k := cells + 40) (n := slots + 400) (by omega) (by omega) ?_
    exact K z vN vC vNow vHaze vCold vHot vPipe vDeg cThaw vThaw vTrc vTurb vLeft vLoad vWater vTrips vMi1 vMi2 vSz vBs b_th vMissed vBRow vBSum vCell vDirt vAim vErr vCor vBrk vTop vLm vRows vCols vDown vRight vBound vStrain vPrice vFirm vSums vTk vFl1 vFl2 vTe vAw vRo vBe vRays vFalls vSom vHad a_nO H locs hFA0 hP hD hS ls (lv_sub hl [2, 3, 4, 5, 6] rfl)
  · have h0 : (if ¬ (1 ≤ (sc xs (i + 1)) ∧ (sc xs (i + 1)) ≤ 500) then (1 : Int) else if 1000 < vWater + (sc xs (i + 1)) then 2 else 0) = 0 := hkc.symm.trans c1
    have hPz := hP
    have hDz := hD
    have hs_nWater := (hU.down.1 h0).symm
    subst hs_nWater
    have hout : a_nO 0 = wI (vWater + (sc xs (i + 1))) := hU.down.2.2 h0
    have ht_nWater := (hM.down.2.2.1 h0).symm
    subst ht_nWater
    have hans : b_r = vWater + (sc xs (i + 1)) := hM.down.2.1 h0
    have hP : va_P G vwCl (((hW ah z y vN vC vNow vHaze vCold vHot vPipe vDeg cThaw vTrc vTurb vLeft vLoad (vWater + (sc xs (i + 1))) vTrips vMi1 vMi2 vSz vBs vCell vDirt vAim vErr vCor vBrk vTop vLm vRows vCols vDown vRight vBound vStrain vPrice vFirm vSums vTk vFl1 vFl2 vTe vAw vRo vBe) ++ oW o0 y a_nO) ++ (mW ad y b_th vN vC vNow vHaze vCold vHot vPipe vDeg vThaw vTrc vTurb vLeft vLoad (vWater + (sc xs (i + 1))) vTrips vMissed vBRow vBSum vCell vDirt vAim vErr vCor vBrk vTop vLm vRows vCols vDown vRight vBound vStrain vPrice vFirm vSums vRays vFalls vSom vHad)) H := hPz
    have hD : va_D (fun q : Nat => s.heap.size ≤ q) (((hW ah z y vN vC vNow vHaze vCold vHot vPipe vDeg cThaw vTrc vTurb vLeft vLoad (vWater + (sc xs (i + 1))) vTrips vMi1 vMi2 vSz vBs vCell vDirt vAim vErr vCor vBrk vTop vLm vRows vCols vDown vRight vBound vStrain vPrice vFirm vSums vTk vFl1 vFl2 vTe vAw vRo vBe) ++ oW o0 y a_nO) ++ (mW ad y b_th vN vC vNow vHaze vCold vHot vPipe vDeg vThaw vTrc vTurb vLeft vLoad (vWater + (sc xs (i + 1))) vTrips vMissed vBRow vBSum vCell vDirt vAim vErr vCor vBrk vTop vLm vRows vCols vDown vRight vBound vStrain vPrice vFirm vSums vRays vFalls vSom vHad)) := hDz
    refine lv_aload_n hx hb dL_law_1629 rfl (lv_at hl 5 rfl) ?_
    refine hz_iconst hx hb dL_law_1630 ?_
    refine hz_laldo hx hb hK hP dL_law_1631 ?_
    refine lv_iload hx hb dL_law_1632 (lv_at hl 0 rfl) ?_
    refine hz_i2lw hx hb dL_law_1634 ?_
    refine hz_lcmp hx hb dL_law_1635 (fun v hv => ?_)
    refine lv_if_eq (tgt := 1641) hx hb dL_law_1636 (by decide) (fun _ => ?_) (fun q => absurd (hv.mpr (congrArg zL (hout.trans (congrArg wI hans.symm)))) q)
    refine lv_goto (tgt := 1990) hx hb dL_law_1641 (by decide) ?_
    refine W.widen (k := cells + 40) (n := slots + 400) (by omega) (by omega) ?_
    exact K z vN vC vNow vHaze vCold vHot vPipe vDeg cThaw vThaw vTrc vTurb vLeft vLoad (vWater + (sc xs (i + 1))) vTrips vMi1 vMi2 vSz vBs b_th vMissed vBRow vBSum vCell vDirt vAim vErr vCor vBrk vTop vLm vRows vCols vDown vRight vBound vStrain vPrice vFirm vSums vTk vFl1 vFl2 vTe vAw vRo vBe vRays vFalls vSom vHad a_nO H locs ⟨hZ, hZe, hTk, hN, hC, hNow, hHaze, hSalt, hPipe, hDeg, hThC, hThM, hThE, hTrc, hTurb, hLeft, hLoad, (show 0 ≤ (vWater + (sc xs (i + 1))) ∧ (vWater + (sc xs (i + 1))) ≤ 1000 from by omega), hTrips, hCell, hDirt, hAim, hErr, hCor, hBrk, hTop, hLm, hRows, hCols, hDown, hRight, hBound, hStrain, hPrice, hFirm, hE0⟩ hP hD hS ls (lv_sub hl [2, 3, 4, 5, 6] rfl)
set_option maxHeartbeats 16000000 in
set_option maxRecDepth 100000 in
theorem lw_c25 (p : Program) (l : Launch) (e : Env) (s : State) (m : MethodId) (below : List Frame) (meth : Method) (c : Code) (b L : Nat) (xs : Nat → Int32) (G : va_G) (mi zE : Nat) (y : Nat → ClassId) (ah ad : Nat → Nat) (o0 : Nat) (cells slots : Nat) (i : Int) (hQ : LC p l s m meth c b L xs G mi zE y) (hi : 0 ≤ i ∧ i + 7 ≤ L) (hroom : cells + 40 ≤ 601024 ∧ slots + 400 ≤ 7293034) (K : LK p l e s m below meth c b L xs G mi zE y ah ad o0 (cells + 40) (slots + 400) i 1990) : LK p l e s m below meth c b L xs G mi zE y ah ad o0 cells slots i 1644 := by
  intro z vN vC vNow vHaze vCold vHot vPipe vDeg cThaw vThaw vTrc vTurb vLeft vLoad vWater vTrips vMi1 vMi2 vSz vBs vThrown vMissed vBRow vBSum vCell vDirt vAim vErr vCor vBrk vTop vLm vRows vCols vDown vRight vBound vStrain vPrice vFirm vSums vTk vFl1 vFl2 vTe vAw vRo vBe vRays vFalls vSom vHad vO H locs hFA hP hD hS ls hl
  obtain ⟨hx, hb, hr, hts, hown, hml, hX0, hbl, hL, hlocks, hK, hGP, hX, hGN, hlt⟩ := hQ
  have hA : ∀ q : Nat, s.heap.size ≤ q → (fun q : Nat => s.heap.size ≤ q) q := fun _ h => h
  have hbA : ¬ (fun q : Nat => s.heap.size ≤ q) b := Nat.not_le.mpr hbl
  have hFA0 := hFA
  obtain ⟨hZ, hZe, hTk, hN, hC, hNow, hHaze, hSalt, hPipe, hDeg, hThC, hThM, hThE, hTrc, hTurb, hLeft, hLoad, hWater, hTrips, hCell, hDirt, hAim, hErr, hCor, hBrk, hTop, hLm, hRows, hCols, hDown, hRight, hBound, hStrain, hPrice, hFirm, hE0⟩ := hFA
  refine lv_aload_n hx hb dL_law_1644 rfl (lv_at hl 1 rfl) ?_
  refine lv_aload_n hx hb dL_law_1645 rfl (lv_at hl 0 rfl) ?_
  refine lv_iload hx hb dL_law_1646 (lv_at hl 4 rfl) ?_
  refine hz_iconst hx hb dL_law_1648 ?_
  refine hz_iadd hx hb dL_law_1649 ?_
  refine hz_sld hx hb hX0 hbl hbA hS (by omega) (by omega) dL_law_1650 ?_
  refine lv_aload_n hx hb dL_law_1651 rfl (lv_at hl 0 rfl) ?_
  refine lv_iload hx hb dL_law_1652 (lv_at hl 4 rfl) ?_
  refine hz_iconst hx hb dL_law_1654 ?_
  refine hz_iadd hx hb dL_law_1655 ?_
  refine hz_sld hx hb hX0 hbl hbA hS (by omega) (by omega) dL_law_1656 ?_
  refine lv_aload_n hx hb dL_law_1657 rfl (lv_at hl 3 rfl) ?_
  refine hz_lawL (As := [.ref (ah 0), zi (sc xs (i + 1)), zi (sc xs (i + 2)), .ref o0]) (rest := []) ⟨hx, hb, hml, hown, hts⟩ (c_L_price l hlt G ah z mi zE y _ vN vC vNow vHaze vCold vHot vPipe vDeg cThaw vTrc vTurb vLeft vLoad vWater vTrips vMi1 vMi2 vSz vBs vCell vDirt vAim vErr vCor vBrk vTop vLm vRows vCols vDown vRight vBound vStrain vPrice vFirm vSums vTk vFl1 vFl2 vTe vAw vRo vBe o0 vO (sc xs (i + 1)) (sc xs (i + 2)) (sc_rng _ _) (sc_rng _ _)) (vx_cwSW 4 hts gL_law_L_price rfl rfl rfl (by decide +kernel) ⟨Nat.le_of_ble_eq_true rfl, Nat.le_of_ble_eq_true rfl⟩) hP hK hD hS hA hGP hX hGN rfl hl.1 rfl (Nat.le_of_ble_eq_true rfl) dL_law_1658 ⟨by show cells + 2 ≤ 601024; omega, by show slots + 12 ≤ 7293034; omega⟩ (fun r u H locs hu hP hD hS => ?_)
  obtain ⟨a_nPrice, a_nO⟩ := u
  obtain ⟨rfl, hu⟩ := hu
  have hU := PLift.up hu
  clear hu
  refine hz_topi (fun kc hkc => ?_)
  have hP : va_P G vwCl (((hW ah z y vN vC vNow vHaze vCold vHot vPipe vDeg cThaw vTrc vTurb vLeft vLoad vWater vTrips vMi1 vMi2 vSz vBs vCell vDirt vAim vErr vCor vBrk vTop vLm vRows vCols vDown vRight vBound vStrain a_nPrice vFirm vSums vTk vFl1 vFl2 vTe vAw vRo vBe) ++ oW o0 y a_nO) ++ (mW ad y vThrown vN vC vNow vHaze vCold vHot vPipe vDeg vThaw vTrc vTurb vLeft vLoad vWater vTrips vMissed vBRow vBSum vCell vDirt vAim vErr vCor vBrk vTop vLm vRows vCols vDown vRight vBound vStrain vPrice vFirm vSums vRays vFalls vSom vHad)) H := hP
  have hD : va_D (fun q : Nat => s.heap.size ≤ q) (((hW ah z y vN vC vNow vHaze vCold vHot vPipe vDeg cThaw vTrc vTurb vLeft vLoad vWater vTrips vMi1 vMi2 vSz vBs vCell vDirt vAim vErr vCor vBrk vTop vLm vRows vCols vDown vRight vBound vStrain a_nPrice vFirm vSums vTk vFl1 vFl2 vTe vAw vRo vBe) ++ oW o0 y a_nO) ++ (mW ad y vThrown vN vC vNow vHaze vCold vHot vPipe vDeg vThaw vTrc vTurb vLeft vLoad vWater vTrips vMissed vBRow vBSum vCell vDirt vAim vErr vCor vBrk vTop vLm vRows vCols vDown vRight vBound vStrain vPrice vFirm vSums vRays vFalls vSom vHad)) := hD
  have hkr : 0 ≤ kc ∧ kc ≤ 3 := by rw [hkc]; first | omega | (split <;> (try split) <;> (try split) <;> omega)
  refine lv_istore (lv' := [(5, zi kc), (0, .ref b), (1, .ref (ah 0)), (2, .ref (ad 0)), (3, .ref o0), (4, zi i)]) hx hb dL_law_1661 hl (by decide) rfl (fun ls hl => ?_)
  refine lv_aload_n hx hb dL_law_1663 rfl (lv_at hl 3 rfl) ?_
  refine lv_aload_n hx hb dL_law_1664 rfl (lv_at hl 1 rfl) ?_
  refine lv_iload hx hb dL_law_1665 (lv_at hl 5 rfl) ?_
  refine hz_iconst hx hb dL_law_1667 ?_
  refine hz_iadd hx hb dL_law_1668 ?_
  refine hz_sld hx hb hX0 hbl hbA hS (by omega) (by omega) dL_law_1669 ?_
  refine lv_aload_n hx hb dL_law_1670 rfl (lv_at hl 1 rfl) ?_
  refine lv_iload hx hb dL_law_1671 (lv_at hl 5 rfl) ?_
  refine hz_iconst hx hb dL_law_1673 ?_
  refine hz_iadd hx hb dL_law_1674 ?_
  refine hz_sld hx hb hX0 hbl hbA hS (by omega) (by omega) dL_law_1675 ?_
  refine hz_lawMi (As := [zi (sc xs (i + 1)), zi (sc xs (i + 2))]) (rest := []) ⟨hx, hb, hml, hown, hts⟩ (c_X8_price l G y ad _ vThrown vN vC vNow vHaze vCold vHot vPipe vDeg vThaw vTrc vTurb vLeft vLoad vWater vTrips vMissed vBRow vBSum vCell vDirt vAim vErr vCor vBrk vTop vLm vRows vCols vDown vRight vBound vStrain vPrice vFirm vSums vRays vFalls vSom vHad (sc xs (i + 1)) (sc xs (i + 2)) (sc_rng _ _) (sc_rng _ _)) (cwV 2 hts gL_law_X8_price rfl rfl rfl (by decide +kernel) ⟨Nat.le_of_ble_eq_true rfl, Nat.le_of_ble_eq_true rfl⟩) hP hK hD hS hA 0 9 rfl rfl rfl rfl hl.1 rfl (Nat.le_of_ble_eq_true rfl) dL_law_1676 ⟨by show (cells + 2) + 0 ≤ 601024; omega, by show (slots + 12) + 0 ≤ 7293034; omega⟩ (fun _ => rfl) (fun u H locs hu hP hD hS => ?_)
  obtain ⟨b_th, b_r, b_nPrice⟩ := u
  have hM := PLift.up hu
  clear hu
  have hP : va_P G vwCl (((hW ah z y vN vC vNow vHaze vCold vHot vPipe vDeg cThaw vTrc vTurb vLeft vLoad vWater vTrips vMi1 vMi2 vSz vBs vCell vDirt vAim vErr vCor vBrk vTop vLm vRows vCols vDown vRight vBound vStrain a_nPrice vFirm vSums vTk vFl1 vFl2 vTe vAw vRo vBe) ++ oW o0 y a_nO) ++ (mW ad y b_th vN vC vNow vHaze vCold vHot vPipe vDeg vThaw vTrc vTurb vLeft vLoad vWater vTrips vMissed vBRow vBSum vCell vDirt vAim vErr vCor vBrk vTop vLm vRows vCols vDown vRight vBound vStrain b_nPrice vFirm vSums vRays vFalls vSom vHad)) H := hP
  have hD : va_D (fun q : Nat => s.heap.size ≤ q) (((hW ah z y vN vC vNow vHaze vCold vHot vPipe vDeg cThaw vTrc vTurb vLeft vLoad vWater vTrips vMi1 vMi2 vSz vBs vCell vDirt vAim vErr vCor vBrk vTop vLm vRows vCols vDown vRight vBound vStrain a_nPrice vFirm vSums vTk vFl1 vFl2 vTe vAw vRo vBe) ++ oW o0 y a_nO) ++ (mW ad y b_th vN vC vNow vHaze vCold vHot vPipe vDeg vThaw vTrc vTurb vLeft vLoad vWater vTrips vMissed vBRow vBSum vCell vDirt vAim vErr vCor vBrk vTop vLm vRows vCols vDown vRight vBound vStrain b_nPrice vFirm vSums vRays vFalls vSom vHad)) := hD
  have hmk : b_th = kc := (hM.down.1).trans hkc.symm
  refine lv_istore (lv' := [(6, zi b_r), (5, zi kc), (0, .ref b), (1, .ref (ah 0)), (2, .ref (ad 0)), (3, .ref o0), (4, zi i)]) hx hb dL_law_1679 hl (by decide) rfl (fun ls hl => ?_)
  refine lv_aload_n hx hb dL_law_1681 rfl (lv_at hl 4 rfl) ?_
  refine hz_lawMi (As := []) (rest := []) ⟨hx, hb, hml, hown, hts⟩ (c_X8_thrown l G y ad _ b_th vN vC vNow vHaze vCold vHot vPipe vDeg vThaw vTrc vTurb vLeft vLoad vWater vTrips vMissed vBRow vBSum vCell vDirt vAim vErr vCor vBrk vTop vLm vRows vCols vDown vRight vBound vStrain b_nPrice vFirm vSums vRays vFalls vSom vHad) (cwV 0 hts gL_law_X8_thrown rfl rfl rfl (by decide +kernel) ⟨Nat.le_of_ble_eq_true rfl, Nat.le_of_ble_eq_true rfl⟩) hP hK hD hS hA 0 9 rfl rfl rfl rfl hl.1 rfl (Nat.le_of_ble_eq_true rfl) dL_law_1682 ⟨by show (cells + 2) + 0 ≤ 601024; omega, by show (slots + 12) + 0 ≤ 7293034; omega⟩ (fun _ => rfl) (fun u H locs hu hP hD hS => ?_)
  have hP : va_P G vwCl (((hW ah z y vN vC vNow vHaze vCold vHot vPipe vDeg cThaw vTrc vTurb vLeft vLoad vWater vTrips vMi1 vMi2 vSz vBs vCell vDirt vAim vErr vCor vBrk vTop vLm vRows vCols vDown vRight vBound vStrain a_nPrice vFirm vSums vTk vFl1 vFl2 vTe vAw vRo vBe) ++ oW o0 y a_nO) ++ (mW ad y b_th vN vC vNow vHaze vCold vHot vPipe vDeg vThaw vTrc vTurb vLeft vLoad vWater vTrips vMissed vBRow vBSum vCell vDirt vAim vErr vCor vBrk vTop vLm vRows vCols vDown vRight vBound vStrain b_nPrice vFirm vSums vRays vFalls vSom vHad)) H := hP
  have hD : va_D (fun q : Nat => s.heap.size ≤ q) (((hW ah z y vN vC vNow vHaze vCold vHot vPipe vDeg cThaw vTrc vTurb vLeft vLoad vWater vTrips vMi1 vMi2 vSz vBs vCell vDirt vAim vErr vCor vBrk vTop vLm vRows vCols vDown vRight vBound vStrain a_nPrice vFirm vSums vTk vFl1 vFl2 vTe vAw vRo vBe) ++ oW o0 y a_nO) ++ (mW ad y b_th vN vC vNow vHaze vCold vHot vPipe vDeg vThaw vTrc vTurb vLeft vLoad vWater vTrips vMissed vBRow vBSum vCell vDirt vAim vErr vCor vBrk vTop vLm vRows vCols vDown vRight vBound vStrain b_nPrice vFirm vSums vRays vFalls vSom vHad)) := hD
  refine lv_iload hx hb dL_law_1685 (lv_at hl 1 rfl) ?_
  refine hz_icmp_eq (tgt := 1692) hx hb dL_law_1687 (by decide) (by omega) (fun _ => ?_) (fun q => absurd (by omega) q)
  refine lv_iload hx hb dL_law_1692 (lv_at hl 1 rfl) ?_
  refine hz_if_ne (tgt := 1709) hx hb dL_law_1694 (by decide) (by omega) (fun c1 => ?_) (fun c1 => ?_)
  · have h0 : ¬ (if ¬ (0 ≤ (sc xs (i + 1)) ∧ (sc xs (i + 1)) ≤ 23) then (1 : Int) else if ¬ (0 ≤ (sc xs (i + 2)) ∧ (sc xs (i + 2)) ≤ 99) then 2 else 0) = 0 := fun q => c1 (hkc.trans q)
    have hPz := hP
    have hDz := hD
    have hs_nPrice := (hU.down.2.1 h0).symm
    subst hs_nPrice
    have ht_nPrice := (hM.down.2.2.2 h0).symm
    subst ht_nPrice
    have hP : va_P G vwCl (((hW ah z y vN vC vNow vHaze vCold vHot vPipe vDeg cThaw vTrc vTurb vLeft vLoad vWater vTrips vMi1 vMi2 vSz vBs vCell vDirt vAim vErr vCor vBrk vTop vLm vRows vCols vDown vRight vBound vStrain vPrice vFirm vSums vTk vFl1 vFl2 vTe vAw vRo vBe) ++ oW o0 y a_nO) ++ (mW ad y b_th vN vC vNow vHaze vCold vHot vPipe vDeg vThaw vTrc vTurb vLeft vLoad vWater vTrips vMissed vBRow vBSum vCell vDirt vAim vErr vCor vBrk vTop vLm vRows vCols vDown vRight vBound vStrain vPrice vFirm vSums vRays vFalls vSom vHad)) H := hPz
    have hD : va_D (fun q : Nat => s.heap.size ≤ q) (((hW ah z y vN vC vNow vHaze vCold vHot vPipe vDeg cThaw vTrc vTurb vLeft vLoad vWater vTrips vMi1 vMi2 vSz vBs vCell vDirt vAim vErr vCor vBrk vTop vLm vRows vCols vDown vRight vBound vStrain vPrice vFirm vSums vTk vFl1 vFl2 vTe vAw vRo vBe) ++ oW o0 y a_nO) ++ (mW ad y b_th vN vC vNow vHaze vCold vHot vPipe vDeg vThaw vTrc vTurb vLeft vLoad vWater vTrips vMissed vBRow vBSum vCell vDirt vAim vErr vCor vBrk vTop vLm vRows vCols vDown vRight vBound vStrain vPrice vFirm vSums vRays vFalls vSom vHad)) := hDz
    refine lv_goto (tgt := 1990) hx hb dL_law_1709 (by decide) ?_
    refine W.widen (k := cells + 40) (n := slots + 400) (by omega) (by omega) ?_
    exact K z vN vC vNow vHaze vCold vHot vPipe vDeg cThaw vThaw vTrc vTurb vLeft vLoad vWater vTrips vMi1 vMi2 vSz vBs b_th vMissed vBRow vBSum vCell vDirt vAim vErr vCor vBrk vTop vLm vRows vCols vDown vRight vBound vStrain vPrice vFirm vSums vTk vFl1 vFl2 vTe vAw vRo vBe vRays vFalls vSom vHad a_nO H locs hFA0 hP hD hS ls (lv_sub hl [2, 3, 4, 5, 6] rfl)
  · have h0 : (if ¬ (0 ≤ (sc xs (i + 1)) ∧ (sc xs (i + 1)) ≤ 23) then (1 : Int) else if ¬ (0 ≤ (sc xs (i + 2)) ∧ (sc xs (i + 2)) ≤ 99) then 2 else 0) = 0 := hkc.symm.trans c1
    have hPz := hP
    have hDz := hD
    have hs_nPrice := (hU.down.1 h0).symm
    subst hs_nPrice
    have hout : a_nO 0 = wI (vPrice (sc xs (i + 1))) := hU.down.2.2 h0
    have ht_nPrice := (hM.down.2.2.1 h0).symm
    subst ht_nPrice
    have hans : b_r = vPrice (sc xs (i + 1)) := hM.down.2.1 h0
    have hP : va_P G vwCl (((hW ah z y vN vC vNow vHaze vCold vHot vPipe vDeg cThaw vTrc vTurb vLeft vLoad vWater vTrips vMi1 vMi2 vSz vBs vCell vDirt vAim vErr vCor vBrk vTop vLm vRows vCols vDown vRight vBound vStrain (upZ vPrice (sc xs (i + 1)) (sc xs (i + 2))) vFirm vSums vTk vFl1 vFl2 vTe vAw vRo vBe) ++ oW o0 y a_nO) ++ (mW ad y b_th vN vC vNow vHaze vCold vHot vPipe vDeg vThaw vTrc vTurb vLeft vLoad vWater vTrips vMissed vBRow vBSum vCell vDirt vAim vErr vCor vBrk vTop vLm vRows vCols vDown vRight vBound vStrain (upZ vPrice (sc xs (i + 1)) (sc xs (i + 2))) vFirm vSums vRays vFalls vSom vHad)) H := hPz
    have hD : va_D (fun q : Nat => s.heap.size ≤ q) (((hW ah z y vN vC vNow vHaze vCold vHot vPipe vDeg cThaw vTrc vTurb vLeft vLoad vWater vTrips vMi1 vMi2 vSz vBs vCell vDirt vAim vErr vCor vBrk vTop vLm vRows vCols vDown vRight vBound vStrain (upZ vPrice (sc xs (i + 1)) (sc xs (i + 2))) vFirm vSums vTk vFl1 vFl2 vTe vAw vRo vBe) ++ oW o0 y a_nO) ++ (mW ad y b_th vN vC vNow vHaze vCold vHot vPipe vDeg vThaw vTrc vTurb vLeft vLoad vWater vTrips vMissed vBRow vBSum vCell vDirt vAim vErr vCor vBrk vTop vLm vRows vCols vDown vRight vBound vStrain (upZ vPrice (sc xs (i + 1)) (sc xs (i + 2))) vFirm vSums vRays vFalls vSom vHad)) := hDz
    refine lv_aload_n hx hb dL_law_1697 rfl (lv_at hl 5 rfl) ?_
    refine hz_iconst hx hb dL_law_1698 ?_
    refine hz_laldo hx hb hK hP dL_law_1699 ?_
    refine lv_iload hx hb dL_law_1700 (lv_at hl 0 rfl) ?_
    refine hz_i2lw hx hb dL_law_1702 ?_
    refine hz_lcmp hx hb dL_law_1703 (fun v hv => ?_)
    refine lv_if_eq (tgt := 1709) hx hb dL_law_1704 (by decide) (fun _ => ?_) (fun q => absurd (hv.mpr (congrArg zL (hout.trans (congrArg wI hans.symm)))) q)
    refine lv_goto (tgt := 1990) hx hb dL_law_1709 (by decide) ?_
    refine W.widen (k := cells + 40) (n := slots + 400) (by omega) (by omega) ?_
    exact K z vN vC vNow vHaze vCold vHot vPipe vDeg cThaw vThaw vTrc vTurb vLeft vLoad vWater vTrips vMi1 vMi2 vSz vBs b_th vMissed vBRow vBSum vCell vDirt vAim vErr vCor vBrk vTop vLm vRows vCols vDown vRight vBound vStrain (upZ vPrice (sc xs (i + 1)) (sc xs (i + 2))) vFirm vSums vTk vFl1 vFl2 vTe vAw vRo vBe vRays vFalls vSom vHad a_nO H locs ⟨hZ, hZe, hTk, hN, hC, hNow, hHaze, hSalt, hPipe, hDeg, hThC, hThM, hThE, hTrc, hTurb, hLeft, hLoad, hWater, hTrips, hCell, hDirt, hAim, hErr, hCor, hBrk, hTop, hLm, hRows, hCols, hDown, hRight, hBound, hStrain, (show ∀ k : Int, 0 ≤ (upZ vPrice (sc xs (i + 1)) (sc xs (i + 2))) k ∧ (upZ vPrice (sc xs (i + 1)) (sc xs (i + 2))) k ≤ 99 from upZ_rng hPrice (by omega)), hFirm, hE0⟩ hP hD hS ls (lv_sub hl [2, 3, 4, 5, 6] rfl)
set_option maxHeartbeats 16000000 in
set_option maxRecDepth 100000 in
theorem lw_c26 (p : Program) (l : Launch) (e : Env) (s : State) (m : MethodId) (below : List Frame) (meth : Method) (c : Code) (b L : Nat) (xs : Nat → Int32) (G : va_G) (mi zE : Nat) (y : Nat → ClassId) (ah ad : Nat → Nat) (o0 : Nat) (cells slots : Nat) (i : Int) (hQ : LC p l s m meth c b L xs G mi zE y) (hi : 0 ≤ i ∧ i + 7 ≤ L) (hroom : cells + 40 ≤ 601024 ∧ slots + 400 ≤ 7293034) (K : LK p l e s m below meth c b L xs G mi zE y ah ad o0 (cells + 40) (slots + 400) i 1990) : LK p l e s m below meth c b L xs G mi zE y ah ad o0 cells slots i 1712 := by
  intro z vN vC vNow vHaze vCold vHot vPipe vDeg cThaw vThaw vTrc vTurb vLeft vLoad vWater vTrips vMi1 vMi2 vSz vBs vThrown vMissed vBRow vBSum vCell vDirt vAim vErr vCor vBrk vTop vLm vRows vCols vDown vRight vBound vStrain vPrice vFirm vSums vTk vFl1 vFl2 vTe vAw vRo vBe vRays vFalls vSom vHad vO H locs hFA hP hD hS ls hl
  obtain ⟨hx, hb, hr, hts, hown, hml, hX0, hbl, hL, hlocks, hK, hGP, hX, hGN, hlt⟩ := hQ
  have hA : ∀ q : Nat, s.heap.size ≤ q → (fun q : Nat => s.heap.size ≤ q) q := fun _ h => h
  have hbA : ¬ (fun q : Nat => s.heap.size ≤ q) b := Nat.not_le.mpr hbl
  have hFA0 := hFA
  obtain ⟨hZ, hZe, hTk, hN, hC, hNow, hHaze, hSalt, hPipe, hDeg, hThC, hThM, hThE, hTrc, hTurb, hLeft, hLoad, hWater, hTrips, hCell, hDirt, hAim, hErr, hCor, hBrk, hTop, hLm, hRows, hCols, hDown, hRight, hBound, hStrain, hPrice, hFirm, hE0⟩ := hFA
  refine lv_aload_n hx hb dL_law_1712 rfl (lv_at hl 1 rfl) ?_
  refine lv_aload_n hx hb dL_law_1713 rfl (lv_at hl 0 rfl) ?_
  refine lv_iload hx hb dL_law_1714 (lv_at hl 4 rfl) ?_
  refine hz_iconst hx hb dL_law_1716 ?_
  refine hz_iadd hx hb dL_law_1717 ?_
  refine hz_sld hx hb hX0 hbl hbA hS (by omega) (by omega) dL_law_1718 ?_
  refine lv_aload_n hx hb dL_law_1719 rfl (lv_at hl 0 rfl) ?_
  refine lv_iload hx hb dL_law_1720 (lv_at hl 4 rfl) ?_
  refine hz_iconst hx hb dL_law_1722 ?_
  refine hz_iadd hx hb dL_law_1723 ?_
  refine hz_sld hx hb hX0 hbl hbA hS (by omega) (by omega) dL_law_1724 ?_
  refine lv_aload_n hx hb dL_law_1725 rfl (lv_at hl 3 rfl) ?_
  refine hz_lawL (As := [.ref (ah 0), zi (sc xs (i + 1)), zi (sc xs (i + 2)), .ref o0]) (rest := []) ⟨hx, hb, hml, hown, hts⟩ (c_L_firm l hlt G ah z mi zE y _ vN vC vNow vHaze vCold vHot vPipe vDeg cThaw vTrc vTurb vLeft vLoad vWater vTrips vMi1 vMi2 vSz vBs vCell vDirt vAim vErr vCor vBrk vTop vLm vRows vCols vDown vRight vBound vStrain vPrice vFirm vSums vTk vFl1 vFl2 vTe vAw vRo vBe o0 vO (sc xs (i + 1)) (sc xs (i + 2)) (sc_rng _ _) (sc_rng _ _)) (vx_cwSW 4 hts gL_law_L_firm rfl rfl rfl (by decide +kernel) ⟨Nat.le_of_ble_eq_true rfl, Nat.le_of_ble_eq_true rfl⟩) hP hK hD hS hA hGP hX hGN rfl hl.1 rfl (Nat.le_of_ble_eq_true rfl) dL_law_1726 ⟨by show cells + 2 ≤ 601024; omega, by show slots + 12 ≤ 7293034; omega⟩ (fun r u H locs hu hP hD hS => ?_)
  obtain ⟨a_nFirm, a_nO⟩ := u
  obtain ⟨rfl, hu⟩ := hu
  have hU := PLift.up hu
  clear hu
  refine hz_topi (fun kc hkc => ?_)
  have hP : va_P G vwCl (((hW ah z y vN vC vNow vHaze vCold vHot vPipe vDeg cThaw vTrc vTurb vLeft vLoad vWater vTrips vMi1 vMi2 vSz vBs vCell vDirt vAim vErr vCor vBrk vTop vLm vRows vCols vDown vRight vBound vStrain vPrice a_nFirm vSums vTk vFl1 vFl2 vTe vAw vRo vBe) ++ oW o0 y a_nO) ++ (mW ad y vThrown vN vC vNow vHaze vCold vHot vPipe vDeg vThaw vTrc vTurb vLeft vLoad vWater vTrips vMissed vBRow vBSum vCell vDirt vAim vErr vCor vBrk vTop vLm vRows vCols vDown vRight vBound vStrain vPrice vFirm vSums vRays vFalls vSom vHad)) H := hP
  have hD : va_D (fun q : Nat => s.heap.size ≤ q) (((hW ah z y vN vC vNow vHaze vCold vHot vPipe vDeg cThaw vTrc vTurb vLeft vLoad vWater vTrips vMi1 vMi2 vSz vBs vCell vDirt vAim vErr vCor vBrk vTop vLm vRows vCols vDown vRight vBound vStrain vPrice a_nFirm vSums vTk vFl1 vFl2 vTe vAw vRo vBe) ++ oW o0 y a_nO) ++ (mW ad y vThrown vN vC vNow vHaze vCold vHot vPipe vDeg vThaw vTrc vTurb vLeft vLoad vWater vTrips vMissed vBRow vBSum vCell vDirt vAim vErr vCor vBrk vTop vLm vRows vCols vDown vRight vBound vStrain vPrice vFirm vSums vRays vFalls vSom vHad)) := hD
  have hkr : 0 ≤ kc ∧ kc ≤ 3 := by rw [hkc]; first | omega | (split <;> (try split) <;> (try split) <;> omega)
  refine lv_istore (lv' := [(5, zi kc), (0, .ref b), (1, .ref (ah 0)), (2, .ref (ad 0)), (3, .ref o0), (4, zi i)]) hx hb dL_law_1729 hl (by decide) rfl (fun ls hl => ?_)
  refine lv_aload_n hx hb dL_law_1731 rfl (lv_at hl 3 rfl) ?_
  refine lv_aload_n hx hb dL_law_1732 rfl (lv_at hl 1 rfl) ?_
  refine lv_iload hx hb dL_law_1733 (lv_at hl 5 rfl) ?_
  refine hz_iconst hx hb dL_law_1735 ?_
  refine hz_iadd hx hb dL_law_1736 ?_
  refine hz_sld hx hb hX0 hbl hbA hS (by omega) (by omega) dL_law_1737 ?_
  refine lv_aload_n hx hb dL_law_1738 rfl (lv_at hl 1 rfl) ?_
  refine lv_iload hx hb dL_law_1739 (lv_at hl 5 rfl) ?_
  refine hz_iconst hx hb dL_law_1741 ?_
  refine hz_iadd hx hb dL_law_1742 ?_
  refine hz_sld hx hb hX0 hbl hbA hS (by omega) (by omega) dL_law_1743 ?_
  refine hz_lawMi (As := [zi (sc xs (i + 1)), zi (sc xs (i + 2))]) (rest := []) ⟨hx, hb, hml, hown, hts⟩ (c_X8_firm l G y ad _ vThrown vN vC vNow vHaze vCold vHot vPipe vDeg vThaw vTrc vTurb vLeft vLoad vWater vTrips vMissed vBRow vBSum vCell vDirt vAim vErr vCor vBrk vTop vLm vRows vCols vDown vRight vBound vStrain vPrice vFirm vSums vRays vFalls vSom vHad (sc xs (i + 1)) (sc xs (i + 2)) (sc_rng _ _) (sc_rng _ _)) (cwV 2 hts gL_law_X8_firm rfl rfl rfl (by decide +kernel) ⟨Nat.le_of_ble_eq_true rfl, Nat.le_of_ble_eq_true rfl⟩) hP hK hD hS hA 0 9 rfl rfl rfl rfl hl.1 rfl (Nat.le_of_ble_eq_true rfl) dL_law_1744 ⟨by show (cells + 2) + 0 ≤ 601024; omega, by show (slots + 12) + 0 ≤ 7293034; omega⟩ (fun _ => rfl) (fun u H locs hu hP hD hS => ?_)
  obtain ⟨b_th, b_r, b_nFirm⟩ := u
  have hM := PLift.up hu
  clear hu
  have hP : va_P G vwCl (((hW ah z y vN vC vNow vHaze vCold vHot vPipe vDeg cThaw vTrc vTurb vLeft vLoad vWater vTrips vMi1 vMi2 vSz vBs vCell vDirt vAim vErr vCor vBrk vTop vLm vRows vCols vDown vRight vBound vStrain vPrice a_nFirm vSums vTk vFl1 vFl2 vTe vAw vRo vBe) ++ oW o0 y a_nO) ++ (mW ad y b_th vN vC vNow vHaze vCold vHot vPipe vDeg vThaw vTrc vTurb vLeft vLoad vWater vTrips vMissed vBRow vBSum vCell vDirt vAim vErr vCor vBrk vTop vLm vRows vCols vDown vRight vBound vStrain vPrice b_nFirm vSums vRays vFalls vSom vHad)) H := hP
  have hD : va_D (fun q : Nat => s.heap.size ≤ q) (((hW ah z y vN vC vNow vHaze vCold vHot vPipe vDeg cThaw vTrc vTurb vLeft vLoad vWater vTrips vMi1 vMi2 vSz vBs vCell vDirt vAim vErr vCor vBrk vTop vLm vRows vCols vDown vRight vBound vStrain vPrice a_nFirm vSums vTk vFl1 vFl2 vTe vAw vRo vBe) ++ oW o0 y a_nO) ++ (mW ad y b_th vN vC vNow vHaze vCold vHot vPipe vDeg vThaw vTrc vTurb vLeft vLoad vWater vTrips vMissed vBRow vBSum vCell vDirt vAim vErr vCor vBrk vTop vLm vRows vCols vDown vRight vBound vStrain vPrice b_nFirm vSums vRays vFalls vSom vHad)) := hD
  have hmk : b_th = kc := (hM.down.1).trans hkc.symm
  refine lv_istore (lv' := [(6, zi b_r), (5, zi kc), (0, .ref b), (1, .ref (ah 0)), (2, .ref (ad 0)), (3, .ref o0), (4, zi i)]) hx hb dL_law_1747 hl (by decide) rfl (fun ls hl => ?_)
  refine lv_aload_n hx hb dL_law_1749 rfl (lv_at hl 4 rfl) ?_
  refine hz_lawMi (As := []) (rest := []) ⟨hx, hb, hml, hown, hts⟩ (c_X8_thrown l G y ad _ b_th vN vC vNow vHaze vCold vHot vPipe vDeg vThaw vTrc vTurb vLeft vLoad vWater vTrips vMissed vBRow vBSum vCell vDirt vAim vErr vCor vBrk vTop vLm vRows vCols vDown vRight vBound vStrain vPrice b_nFirm vSums vRays vFalls vSom vHad) (cwV 0 hts gL_law_X8_thrown rfl rfl rfl (by decide +kernel) ⟨Nat.le_of_ble_eq_true rfl, Nat.le_of_ble_eq_true rfl⟩) hP hK hD hS hA 0 9 rfl rfl rfl rfl hl.1 rfl (Nat.le_of_ble_eq_true rfl) dL_law_1750 ⟨by show (cells + 2) + 0 ≤ 601024; omega, by show (slots + 12) + 0 ≤ 7293034; omega⟩ (fun _ => rfl) (fun u H locs hu hP hD hS => ?_)
  have hP : va_P G vwCl (((hW ah z y vN vC vNow vHaze vCold vHot vPipe vDeg cThaw vTrc vTurb vLeft vLoad vWater vTrips vMi1 vMi2 vSz vBs vCell vDirt vAim vErr vCor vBrk vTop vLm vRows vCols vDown vRight vBound vStrain vPrice a_nFirm vSums vTk vFl1 vFl2 vTe vAw vRo vBe) ++ oW o0 y a_nO) ++ (mW ad y b_th vN vC vNow vHaze vCold vHot vPipe vDeg vThaw vTrc vTurb vLeft vLoad vWater vTrips vMissed vBRow vBSum vCell vDirt vAim vErr vCor vBrk vTop vLm vRows vCols vDown vRight vBound vStrain vPrice b_nFirm vSums vRays vFalls vSom vHad)) H := hP
  have hD : va_D (fun q : Nat => s.heap.size ≤ q) (((hW ah z y vN vC vNow vHaze vCold vHot vPipe vDeg cThaw vTrc vTurb vLeft vLoad vWater vTrips vMi1 vMi2 vSz vBs vCell vDirt vAim vErr vCor vBrk vTop vLm vRows vCols vDown vRight vBound vStrain vPrice a_nFirm vSums vTk vFl1 vFl2 vTe vAw vRo vBe) ++ oW o0 y a_nO) ++ (mW ad y b_th vN vC vNow vHaze vCold vHot vPipe vDeg vThaw vTrc vTurb vLeft vLoad vWater vTrips vMissed vBRow vBSum vCell vDirt vAim vErr vCor vBrk vTop vLm vRows vCols vDown vRight vBound vStrain vPrice b_nFirm vSums vRays vFalls vSom vHad)) := hD
  refine lv_iload hx hb dL_law_1753 (lv_at hl 1 rfl) ?_
  refine hz_icmp_eq (tgt := 1760) hx hb dL_law_1755 (by decide) (by omega) (fun _ => ?_) (fun q => absurd (by omega) q)
  refine lv_iload hx hb dL_law_1760 (lv_at hl 1 rfl) ?_
  refine hz_if_ne (tgt := 1777) hx hb dL_law_1762 (by decide) (by omega) (fun c1 => ?_) (fun c1 => ?_)
  · have h0 : ¬ (if ¬ (0 ≤ (sc xs (i + 1)) ∧ (sc xs (i + 1)) ≤ 23) then (1 : Int) else if ¬ (0 ≤ (sc xs (i + 2)) ∧ (sc xs (i + 2)) ≤ 200) then 2 else 0) = 0 := fun q => c1 (hkc.trans q)
    have hPz := hP
    have hDz := hD
    have hs_nFirm := (hU.down.2.1 h0).symm
    subst hs_nFirm
    have ht_nFirm := (hM.down.2.2.2 h0).symm
    subst ht_nFirm
    have hP : va_P G vwCl (((hW ah z y vN vC vNow vHaze vCold vHot vPipe vDeg cThaw vTrc vTurb vLeft vLoad vWater vTrips vMi1 vMi2 vSz vBs vCell vDirt vAim vErr vCor vBrk vTop vLm vRows vCols vDown vRight vBound vStrain vPrice vFirm vSums vTk vFl1 vFl2 vTe vAw vRo vBe) ++ oW o0 y a_nO) ++ (mW ad y b_th vN vC vNow vHaze vCold vHot vPipe vDeg vThaw vTrc vTurb vLeft vLoad vWater vTrips vMissed vBRow vBSum vCell vDirt vAim vErr vCor vBrk vTop vLm vRows vCols vDown vRight vBound vStrain vPrice vFirm vSums vRays vFalls vSom vHad)) H := hPz
    have hD : va_D (fun q : Nat => s.heap.size ≤ q) (((hW ah z y vN vC vNow vHaze vCold vHot vPipe vDeg cThaw vTrc vTurb vLeft vLoad vWater vTrips vMi1 vMi2 vSz vBs vCell vDirt vAim vErr vCor vBrk vTop vLm vRows vCols vDown vRight vBound vStrain vPrice vFirm vSums vTk vFl1 vFl2 vTe vAw vRo vBe) ++ oW o0 y a_nO) ++ (mW ad y b_th vN vC vNow vHaze vCold vHot vPipe vDeg vThaw vTrc vTurb vLeft vLoad vWater vTrips vMissed vBRow vBSum vCell vDirt vAim vErr vCor vBrk vTop vLm vRows vCols vDown vRight vBound vStrain vPrice vFirm vSums vRays vFalls vSom vHad)) := hDz
    refine lv_goto (tgt := 1990) hx hb dL_law_1777 (by decide) ?_
    refine W.widen (k := cells + 40) (n := slots + 400) (by omega) (by omega) ?_
    exact K z vN vC vNow vHaze vCold vHot vPipe vDeg cThaw vThaw vTrc vTurb vLeft vLoad vWater vTrips vMi1 vMi2 vSz vBs b_th vMissed vBRow vBSum vCell vDirt vAim vErr vCor vBrk vTop vLm vRows vCols vDown vRight vBound vStrain vPrice vFirm vSums vTk vFl1 vFl2 vTe vAw vRo vBe vRays vFalls vSom vHad a_nO H locs hFA0 hP hD hS ls (lv_sub hl [2, 3, 4, 5, 6] rfl)
  · have h0 : (if ¬ (0 ≤ (sc xs (i + 1)) ∧ (sc xs (i + 1)) ≤ 23) then (1 : Int) else if ¬ (0 ≤ (sc xs (i + 2)) ∧ (sc xs (i + 2)) ≤ 200) then 2 else 0) = 0 := hkc.symm.trans c1
    have hPz := hP
    have hDz := hD
    have hs_nFirm := (hU.down.1 h0).symm
    subst hs_nFirm
    have hout : a_nO 0 = wI (vFirm (sc xs (i + 1))) := hU.down.2.2 h0
    have ht_nFirm := (hM.down.2.2.1 h0).symm
    subst ht_nFirm
    have hans : b_r = vFirm (sc xs (i + 1)) := hM.down.2.1 h0
    have hP : va_P G vwCl (((hW ah z y vN vC vNow vHaze vCold vHot vPipe vDeg cThaw vTrc vTurb vLeft vLoad vWater vTrips vMi1 vMi2 vSz vBs vCell vDirt vAim vErr vCor vBrk vTop vLm vRows vCols vDown vRight vBound vStrain vPrice (upZ vFirm (sc xs (i + 1)) (sc xs (i + 2))) vSums vTk vFl1 vFl2 vTe vAw vRo vBe) ++ oW o0 y a_nO) ++ (mW ad y b_th vN vC vNow vHaze vCold vHot vPipe vDeg vThaw vTrc vTurb vLeft vLoad vWater vTrips vMissed vBRow vBSum vCell vDirt vAim vErr vCor vBrk vTop vLm vRows vCols vDown vRight vBound vStrain vPrice (upZ vFirm (sc xs (i + 1)) (sc xs (i + 2))) vSums vRays vFalls vSom vHad)) H := hPz
    have hD : va_D (fun q : Nat => s.heap.size ≤ q) (((hW ah z y vN vC vNow vHaze vCold vHot vPipe vDeg cThaw vTrc vTurb vLeft vLoad vWater vTrips vMi1 vMi2 vSz vBs vCell vDirt vAim vErr vCor vBrk vTop vLm vRows vCols vDown vRight vBound vStrain vPrice (upZ vFirm (sc xs (i + 1)) (sc xs (i + 2))) vSums vTk vFl1 vFl2 vTe vAw vRo vBe) ++ oW o0 y a_nO) ++ (mW ad y b_th vN vC vNow vHaze vCold vHot vPipe vDeg vThaw vTrc vTurb vLeft vLoad vWater vTrips vMissed vBRow vBSum vCell vDirt vAim vErr vCor vBrk vTop vLm vRows vCols vDown vRight vBound vStrain vPrice (upZ vFirm (sc xs (i + 1)) (sc xs (i + 2))) vSums vRays vFalls vSom vHad)) := hDz
    refine lv_aload_n hx hb dL_law_1765 rfl (lv_at hl 5 rfl) ?_
    refine hz_iconst hx hb dL_law_1766 ?_
    refine hz_laldo hx hb hK hP dL_law_1767 ?_
    refine lv_iload hx hb dL_law_1768 (lv_at hl 0 rfl) ?_
    refine hz_i2lw hx hb dL_law_1770 ?_
    refine hz_lcmp hx hb dL_law_1771 (fun v hv => ?_)
    refine lv_if_eq (tgt := 1777) hx hb dL_law_1772 (by decide) (fun _ => ?_) (fun q => absurd (hv.mpr (congrArg zL (hout.trans (congrArg wI hans.symm)))) q)
    refine lv_goto (tgt := 1990) hx hb dL_law_1777 (by decide) ?_
    refine W.widen (k := cells + 40) (n := slots + 400) (by omega) (by omega) ?_
    exact K z vN vC vNow vHaze vCold vHot vPipe vDeg cThaw vThaw vTrc vTurb vLeft vLoad vWater vTrips vMi1 vMi2 vSz vBs b_th vMissed vBRow vBSum vCell vDirt vAim vErr vCor vBrk vTop vLm vRows vCols vDown vRight vBound vStrain vPrice (upZ vFirm (sc xs (i + 1)) (sc xs (i + 2))) vSums vTk vFl1 vFl2 vTe vAw vRo vBe vRays vFalls vSom vHad a_nO H locs ⟨hZ, hZe, hTk, hN, hC, hNow, hHaze, hSalt, hPipe, hDeg, hThC, hThM, hThE, hTrc, hTurb, hLeft, hLoad, hWater, hTrips, hCell, hDirt, hAim, hErr, hCor, hBrk, hTop, hLm, hRows, hCols, hDown, hRight, hBound, hStrain, hPrice, (show ∀ k : Int, 0 ≤ (upZ vFirm (sc xs (i + 1)) (sc xs (i + 2))) k ∧ (upZ vFirm (sc xs (i + 1)) (sc xs (i + 2))) k ≤ 200 from upZ_rng hFirm (by omega)), hE0⟩ hP hD hS ls (lv_sub hl [2, 3, 4, 5, 6] rfl)
set_option maxHeartbeats 16000000 in
set_option maxRecDepth 100000 in
theorem lw_c27 (p : Program) (l : Launch) (e : Env) (s : State) (m : MethodId) (below : List Frame) (meth : Method) (c : Code) (b L : Nat) (xs : Nat → Int32) (G : va_G) (mi zE : Nat) (y : Nat → ClassId) (ah ad : Nat → Nat) (o0 : Nat) (cells slots : Nat) (i : Int) (hQ : LC p l s m meth c b L xs G mi zE y) (hi : 0 ≤ i ∧ i + 7 ≤ L) (hroom : cells + 40 ≤ 601024 ∧ slots + 400 ≤ 7293034) (K : LK p l e s m below meth c b L xs G mi zE y ah ad o0 (cells + 40) (slots + 400) i 1990) : LK p l e s m below meth c b L xs G mi zE y ah ad o0 cells slots i 1780 := by
  intro z vN vC vNow vHaze vCold vHot vPipe vDeg cThaw vThaw vTrc vTurb vLeft vLoad vWater vTrips vMi1 vMi2 vSz vBs vThrown vMissed vBRow vBSum vCell vDirt vAim vErr vCor vBrk vTop vLm vRows vCols vDown vRight vBound vStrain vPrice vFirm vSums vTk vFl1 vFl2 vTe vAw vRo vBe vRays vFalls vSom vHad vO H locs hFA hP hD hS ls hl
  obtain ⟨hx, hb, hr, hts, hown, hml, hX0, hbl, hL, hlocks, hK, hGP, hX, hGN, hlt⟩ := hQ
  have hA : ∀ q : Nat, s.heap.size ≤ q → (fun q : Nat => s.heap.size ≤ q) q := fun _ h => h
  have hbA : ¬ (fun q : Nat => s.heap.size ≤ q) b := Nat.not_le.mpr hbl
  have hFA0 := hFA
  obtain ⟨hZ, hZe, hTk, hN, hC, hNow, hHaze, hSalt, hPipe, hDeg, hThC, hThM, hThE, hTrc, hTurb, hLeft, hLoad, hWater, hTrips, hCell, hDirt, hAim, hErr, hCor, hBrk, hTop, hLm, hRows, hCols, hDown, hRight, hBound, hStrain, hPrice, hFirm, hE0⟩ := hFA
  refine lv_aload_n hx hb dL_law_1780 rfl (lv_at hl 1 rfl) ?_
  refine lv_aload_n hx hb dL_law_1781 rfl (lv_at hl 0 rfl) ?_
  refine lv_iload hx hb dL_law_1782 (lv_at hl 4 rfl) ?_
  refine hz_iconst hx hb dL_law_1784 ?_
  refine hz_iadd hx hb dL_law_1785 ?_
  refine hz_sld hx hb hX0 hbl hbA hS (by omega) (by omega) dL_law_1786 ?_
  refine lv_aload_n hx hb dL_law_1787 rfl (lv_at hl 3 rfl) ?_
  refine hz_lawL (As := [.ref (ah 0), zi (sc xs (i + 1)), .ref o0]) (rest := []) ⟨hx, hb, hml, hown, hts⟩ (c_L_pass l hlt G ah z mi zE y _ vN vC vNow vHaze vCold vHot vPipe vDeg cThaw vTrc vTurb vLeft vLoad vWater vTrips vMi1 vMi2 vSz vBs vCell vDirt vAim vErr vCor vBrk vTop vLm vRows vCols vDown vRight vBound vStrain vPrice vFirm vSums vTk vFl1 vFl2 vTe vAw vRo vBe o0 vO (sc xs (i + 1)) vThaw hZ hTk hN hC hNow hHaze hCell hDirt hTop hLm hRows hCols hDown hRight hAim hErr hCor hBrk hBound hSalt hPipe hDeg hThC hTrc hTurb hLeft hLoad hPrice hFirm hStrain hTrips (sc_rng _ _) hThE) (vx_cwSW 3 hts gL_law_L_pass rfl rfl rfl (by decide +kernel) ⟨Nat.le_of_ble_eq_true rfl, Nat.le_of_ble_eq_true rfl⟩) hP hK hD hS hA hGP hX hGN rfl hl.1 rfl (Nat.le_of_ble_eq_true rfl) dL_law_1788 ⟨by show cells + 2 ≤ 601024; omega, by show slots + 12 ≤ 7293034; omega⟩ (fun r u H locs hu hP hD hS => ?_)
  obtain ⟨a_f, a_mi, a_nAim, a_nDirt, a_nTop, a_nLm, a_nStrain, a_nSums, a_nNow, a_nCold, a_nHot, a_nPipe, a_nDeg, a_nThaw, a_nTurb, a_nLeft, a_nTrips, a_nW, a_nO⟩ := u
  obtain ⟨rfl, hu⟩ := hu
  have hU := PLift.up hu
  clear hu
  refine hz_topi (fun kc hkc => ?_)
  have hP : va_P G vwCl (((hW ah z y vN vC a_nNow vHaze a_nCold a_nHot a_nPipe a_nDeg a_nThaw vTrc a_nTurb a_nLeft vLoad vWater a_nTrips a_mi vMi2 vSz vBs vCell a_nDirt a_nAim vErr vCor vBrk a_nTop a_nLm vRows vCols vDown vRight vBound a_nStrain vPrice vFirm a_nSums vTk a_f vFl2 vTe vAw vRo vBe) ++ oW o0 y a_nO) ++ (mW ad y vThrown vN vC vNow vHaze vCold vHot vPipe vDeg vThaw vTrc vTurb vLeft vLoad vWater vTrips vMissed vBRow vBSum vCell vDirt vAim vErr vCor vBrk vTop vLm vRows vCols vDown vRight vBound vStrain vPrice vFirm vSums vRays vFalls vSom vHad)) H := hP
  have hD : va_D (fun q : Nat => s.heap.size ≤ q) (((hW ah z y vN vC a_nNow vHaze a_nCold a_nHot a_nPipe a_nDeg a_nThaw vTrc a_nTurb a_nLeft vLoad vWater a_nTrips a_mi vMi2 vSz vBs vCell a_nDirt a_nAim vErr vCor vBrk a_nTop a_nLm vRows vCols vDown vRight vBound a_nStrain vPrice vFirm a_nSums vTk a_f vFl2 vTe vAw vRo vBe) ++ oW o0 y a_nO) ++ (mW ad y vThrown vN vC vNow vHaze vCold vHot vPipe vDeg vThaw vTrc vTurb vLeft vLoad vWater vTrips vMissed vBRow vBSum vCell vDirt vAim vErr vCor vBrk vTop vLm vRows vCols vDown vRight vBound vStrain vPrice vFirm vSums vRays vFalls vSom vHad)) := hD
  have hkr : 0 ≤ kc ∧ kc ≤ 3 := by rw [hkc]; first | omega | (split <;> (try split) <;> (try split) <;> omega)
  refine lv_istore (lv' := [(5, zi kc), (0, .ref b), (1, .ref (ah 0)), (2, .ref (ad 0)), (3, .ref o0), (4, zi i)]) hx hb dL_law_1791 hl (by decide) rfl (fun ls hl => ?_)
  refine lv_aload_n hx hb dL_law_1793 rfl (lv_at hl 3 rfl) ?_
  refine lv_aload_n hx hb dL_law_1794 rfl (lv_at hl 1 rfl) ?_
  refine lv_iload hx hb dL_law_1795 (lv_at hl 5 rfl) ?_
  refine hz_iconst hx hb dL_law_1797 ?_
  refine hz_iadd hx hb dL_law_1798 ?_
  refine hz_sld hx hb hX0 hbl hbA hS (by omega) (by omega) dL_law_1799 ?_
  refine hz_lawMi (As := [zi (sc xs (i + 1))]) (rest := []) ⟨hx, hb, hml, hown, hts⟩ (c_X8_pass l G y ad _ vThrown vN vC vNow vHaze vCold vHot vPipe vDeg vThaw vTrc vTurb vLeft vLoad vWater vTrips vMissed vBRow vBSum vCell vDirt vAim vErr vCor vBrk vTop vLm vRows vCols vDown vRight vBound vStrain vPrice vFirm vSums vRays vFalls vSom vHad (sc xs (i + 1)) hN hC hNow hHaze hCell hDirt hTop hLm hRows hCols hDown hRight hAim hErr hCor hBrk hBound hSalt hPipe hDeg hThM hTrc hTurb hLeft hLoad hPrice hFirm hStrain hTrips (sc_rng _ _)) (cwV 1 hts gL_law_X8_pass rfl rfl rfl (by decide +kernel) ⟨Nat.le_of_ble_eq_true rfl, Nat.le_of_ble_eq_true rfl⟩) hP hK hD hS hA 0 9 rfl rfl rfl rfl hl.1 rfl (Nat.le_of_ble_eq_true rfl) dL_law_1800 ⟨by show (cells + 2) + 0 ≤ 601024; omega, by show (slots + 12) + 0 ≤ 7293034; omega⟩ (fun _ => rfl) (fun u H locs hu hP hD hS => ?_)
  obtain ⟨b_th, b_r, b_sRays, b_sFalls, b_sMissed, b_nAim, b_nDirt, b_nTop, b_nLm, b_nStrain, b_nSums, b_nNow, b_nCold, b_nHot, b_nPipe, b_nDeg, b_nThaw, b_nTurb, b_nLeft, b_nTrips⟩ := u
  have hM := PLift.up hu
  clear hu
  have hP : va_P G vwCl (((hW ah z y vN vC a_nNow vHaze a_nCold a_nHot a_nPipe a_nDeg a_nThaw vTrc a_nTurb a_nLeft vLoad vWater a_nTrips a_mi vMi2 vSz vBs vCell a_nDirt a_nAim vErr vCor vBrk a_nTop a_nLm vRows vCols vDown vRight vBound a_nStrain vPrice vFirm a_nSums vTk a_f vFl2 vTe vAw vRo vBe) ++ oW o0 y a_nO) ++ (mW ad y b_th vN vC b_nNow vHaze b_nCold b_nHot b_nPipe b_nDeg b_nThaw vTrc b_nTurb b_nLeft vLoad vWater b_nTrips b_sMissed vBRow vBSum vCell b_nDirt b_nAim vErr vCor vBrk b_nTop b_nLm vRows vCols vDown vRight vBound b_nStrain vPrice vFirm b_nSums b_sRays b_sFalls vSom vHad)) H := hP
  have hD : va_D (fun q : Nat => s.heap.size ≤ q) (((hW ah z y vN vC a_nNow vHaze a_nCold a_nHot a_nPipe a_nDeg a_nThaw vTrc a_nTurb a_nLeft vLoad vWater a_nTrips a_mi vMi2 vSz vBs vCell a_nDirt a_nAim vErr vCor vBrk a_nTop a_nLm vRows vCols vDown vRight vBound a_nStrain vPrice vFirm a_nSums vTk a_f vFl2 vTe vAw vRo vBe) ++ oW o0 y a_nO) ++ (mW ad y b_th vN vC b_nNow vHaze b_nCold b_nHot b_nPipe b_nDeg b_nThaw vTrc b_nTurb b_nLeft vLoad vWater b_nTrips b_sMissed vBRow vBSum vCell b_nDirt b_nAim vErr vCor vBrk b_nTop b_nLm vRows vCols vDown vRight vBound b_nStrain vPrice vFirm b_nSums b_sRays b_sFalls vSom vHad)) := hD
  have hmk : b_th = kc := (hM.down.1).trans hkc.symm
  refine lv_istore (lv' := [(6, zi b_r), (5, zi kc), (0, .ref b), (1, .ref (ah 0)), (2, .ref (ad 0)), (3, .ref o0), (4, zi i)]) hx hb dL_law_1803 hl (by decide) rfl (fun ls hl => ?_)
  refine lv_aload_n hx hb dL_law_1805 rfl (lv_at hl 4 rfl) ?_
  refine hz_lawMi (As := []) (rest := []) ⟨hx, hb, hml, hown, hts⟩ (c_X8_thrown l G y ad _ b_th vN vC b_nNow vHaze b_nCold b_nHot b_nPipe b_nDeg b_nThaw vTrc b_nTurb b_nLeft vLoad vWater b_nTrips b_sMissed vBRow vBSum vCell b_nDirt b_nAim vErr vCor vBrk b_nTop b_nLm vRows vCols vDown vRight vBound b_nStrain vPrice vFirm b_nSums b_sRays b_sFalls vSom vHad) (cwV 0 hts gL_law_X8_thrown rfl rfl rfl (by decide +kernel) ⟨Nat.le_of_ble_eq_true rfl, Nat.le_of_ble_eq_true rfl⟩) hP hK hD hS hA 0 9 rfl rfl rfl rfl hl.1 rfl (Nat.le_of_ble_eq_true rfl) dL_law_1806 ⟨by show (cells + 2) + 0 ≤ 601024; omega, by show (slots + 12) + 0 ≤ 7293034; omega⟩ (fun _ => rfl) (fun u H locs hu hP hD hS => ?_)
  have hP : va_P G vwCl (((hW ah z y vN vC a_nNow vHaze a_nCold a_nHot a_nPipe a_nDeg a_nThaw vTrc a_nTurb a_nLeft vLoad vWater a_nTrips a_mi vMi2 vSz vBs vCell a_nDirt a_nAim vErr vCor vBrk a_nTop a_nLm vRows vCols vDown vRight vBound a_nStrain vPrice vFirm a_nSums vTk a_f vFl2 vTe vAw vRo vBe) ++ oW o0 y a_nO) ++ (mW ad y b_th vN vC b_nNow vHaze b_nCold b_nHot b_nPipe b_nDeg b_nThaw vTrc b_nTurb b_nLeft vLoad vWater b_nTrips b_sMissed vBRow vBSum vCell b_nDirt b_nAim vErr vCor vBrk b_nTop b_nLm vRows vCols vDown vRight vBound b_nStrain vPrice vFirm b_nSums b_sRays b_sFalls vSom vHad)) H := hP
  have hD : va_D (fun q : Nat => s.heap.size ≤ q) (((hW ah z y vN vC a_nNow vHaze a_nCold a_nHot a_nPipe a_nDeg a_nThaw vTrc a_nTurb a_nLeft vLoad vWater a_nTrips a_mi vMi2 vSz vBs vCell a_nDirt a_nAim vErr vCor vBrk a_nTop a_nLm vRows vCols vDown vRight vBound a_nStrain vPrice vFirm a_nSums vTk a_f vFl2 vTe vAw vRo vBe) ++ oW o0 y a_nO) ++ (mW ad y b_th vN vC b_nNow vHaze b_nCold b_nHot b_nPipe b_nDeg b_nThaw vTrc b_nTurb b_nLeft vLoad vWater b_nTrips b_sMissed vBRow vBSum vCell b_nDirt b_nAim vErr vCor vBrk b_nTop b_nLm vRows vCols vDown vRight vBound b_nStrain vPrice vFirm b_nSums b_sRays b_sFalls vSom vHad)) := hD
  refine lv_iload hx hb dL_law_1809 (lv_at hl 1 rfl) ?_
  refine hz_icmp_eq (tgt := 1816) hx hb dL_law_1811 (by decide) (by omega) (fun _ => ?_) (fun q => absurd (by omega) q)
  refine lv_iload hx hb dL_law_1816 (lv_at hl 1 rfl) ?_
  refine hz_if_ne (tgt := 1833) hx hb dL_law_1818 (by decide) (by omega) (fun c1 => ?_) (fun c1 => ?_)
  · have h0 : ¬ (if ¬ (1 ≤ (sc xs (i + 1)) ∧ (sc xs (i + 1)) ≤ 48) then (1 : Int) else if 9999 < vNow + (sc xs (i + 1)) then 2 else 0) = 0 := fun q => c1 (hkc.trans q)
    have hPz := hP
    have hDz := hD
    have hs_f := (hU.down.2.2.2.2.2.2.2.2.2.2.2.2.2.2.2.1 h0).symm
    subst hs_f
    have hs_mi := (hU.down.2.2.2.2.2.2.2.2.2.2.2.2.2.2.2.2.1 h0).symm
    subst hs_mi
    have hs_nAim := (hU.down.2.2.2.2.2.2.2.2.2.2.2.2.2.2.2.2.2.1 h0).symm
    subst hs_nAim
    have hs_nDirt := (hU.down.2.2.2.2.2.2.2.2.2.2.2.2.2.2.2.2.2.2.1 h0).symm
    subst hs_nDirt
    have hs_nTop := (hU.down.2.2.2.2.2.2.2.2.2.2.2.2.2.2.2.2.2.2.2.1 h0).symm
    subst hs_nTop
    have hs_nLm := (hU.down.2.2.2.2.2.2.2.2.2.2.2.2.2.2.2.2.2.2.2.2.1 h0).symm
    subst hs_nLm
    have hs_nStrain := (hU.down.2.2.2.2.2.2.2.2.2.2.2.2.2.2.2.2.2.2.2.2.2.1 h0).symm
    subst hs_nStrain
    have hs_nSums := (hU.down.2.2.2.2.2.2.2.2.2.2.2.2.2.2.2.2.2.2.2.2.2.2.1 h0).symm
    subst hs_nSums
    have hs_nNow := (hU.down.2.2.2.2.2.2.2.2.2.2.2.2.2.2.2.2.2.2.2.2.2.2.2.1 h0).symm
    subst hs_nNow
    have hs_nCold := (hU.down.2.2.2.2.2.2.2.2.2.2.2.2.2.2.2.2.2.2.2.2.2.2.2.2.1 h0).symm
    subst hs_nCold
    have hs_nHot := (hU.down.2.2.2.2.2.2.2.2.2.2.2.2.2.2.2.2.2.2.2.2.2.2.2.2.2.1 h0).symm
    subst hs_nHot
    have hs_nPipe := (hU.down.2.2.2.2.2.2.2.2.2.2.2.2.2.2.2.2.2.2.2.2.2.2.2.2.2.2.1 h0).symm
    subst hs_nPipe
    have hs_nDeg := (hU.down.2.2.2.2.2.2.2.2.2.2.2.2.2.2.2.2.2.2.2.2.2.2.2.2.2.2.2.1 h0).symm
    subst hs_nDeg
    have hs_nThaw := (hU.down.2.2.2.2.2.2.2.2.2.2.2.2.2.2.2.2.2.2.2.2.2.2.2.2.2.2.2.2.1 h0).symm
    subst hs_nThaw
    have hs_nTurb := (hU.down.2.2.2.2.2.2.2.2.2.2.2.2.2.2.2.2.2.2.2.2.2.2.2.2.2.2.2.2.2.1 h0).symm
    subst hs_nTurb
    have hs_nLeft := (hU.down.2.2.2.2.2.2.2.2.2.2.2.2.2.2.2.2.2.2.2.2.2.2.2.2.2.2.2.2.2.2.1 h0).symm
    subst hs_nLeft
    have hs_nTrips := (hU.down.2.2.2.2.2.2.2.2.2.2.2.2.2.2.2.2.2.2.2.2.2.2.2.2.2.2.2.2.2.2.2.1 h0).symm
    subst hs_nTrips
    have e15 := (hM.down.2.2.2.1 h0).symm
    simp only [Prod.mk.injEq] at e15
    obtain ⟨f_Aim, f_Dirt, f_Top, f_Lm, f_Strain, f_Sums, f_Now, f_Cold, f_Hot, f_Pipe, f_Deg, f_Thaw, f_Turb, f_Left, f_Trips⟩ := e15
    subst f_Aim
    subst f_Dirt
    subst f_Top
    subst f_Lm
    subst f_Strain
    subst f_Sums
    subst f_Now
    subst f_Cold
    subst f_Hot
    subst f_Pipe
    subst f_Deg
    subst f_Thaw
    subst f_Turb
    subst f_Left
    subst f_Trips
    have hP : va_P G vwCl (((hW ah z y vN vC vNow vHaze vCold vHot vPipe vDeg cThaw vTrc vTurb vLeft vLoad vWater vTrips vMi1 vMi2 vSz vBs vCell vDirt vAim vErr vCor vBrk vTop vLm vRows vCols vDown vRight vBound vStrain vPrice vFirm vSums vTk vFl1 vFl2 vTe vAw vRo vBe) ++ oW o0 y a_nO) ++ (mW ad y b_th vN vC vNow vHaze vCold vHot vPipe vDeg vThaw vTrc vTurb vLeft vLoad vWater vTrips b_sMissed vBRow vBSum vCell vDirt vAim vErr vCor vBrk vTop vLm vRows vCols vDown vRight vBound vStrain vPrice vFirm vSums b_sRays b_sFalls vSom vHad)) H := hPz
    have hD : va_D (fun q : Nat => s.heap.size ≤ q) (((hW ah z y vN vC vNow vHaze vCold vHot vPipe vDeg cThaw vTrc vTurb vLeft vLoad vWater vTrips vMi1 vMi2 vSz vBs vCell vDirt vAim vErr vCor vBrk vTop vLm vRows vCols vDown vRight vBound vStrain vPrice vFirm vSums vTk vFl1 vFl2 vTe vAw vRo vBe) ++ oW o0 y a_nO) ++ (mW ad y b_th vN vC vNow vHaze vCold vHot vPipe vDeg vThaw vTrc vTurb vLeft vLoad vWater vTrips b_sMissed vBRow vBSum vCell vDirt vAim vErr vCor vBrk vTop vLm vRows vCols vDown vRight vBound vStrain vPrice vFirm vSums b_sRays b_sFalls vSom vHad)) := hDz
    refine lv_goto (tgt := 1990) hx hb dL_law_1833 (by decide) ?_
    refine W.widen (k := cells + 40) (n := slots + 400) (by omega) (by omega) ?_
    exact K z vN vC vNow vHaze vCold vHot vPipe vDeg cThaw vThaw vTrc vTurb vLeft vLoad vWater vTrips vMi1 vMi2 vSz vBs b_th b_sMissed vBRow vBSum vCell vDirt vAim vErr vCor vBrk vTop vLm vRows vCols vDown vRight vBound vStrain vPrice vFirm vSums vTk vFl1 vFl2 vTe vAw vRo vBe b_sRays b_sFalls vSom vHad a_nO H locs hFA0 hP hD hS ls (lv_sub hl [2, 3, 4, 5, 6] rfl)
  · have h0 : (if ¬ (1 ≤ (sc xs (i + 1)) ∧ (sc xs (i + 1)) ≤ 48) then (1 : Int) else if 9999 < vNow + (sc xs (i + 1)) then 2 else 0) = 0 := hkc.symm.trans c1
    have hPz := hP
    have hDz := hD
    have hout : a_nO 0 = wI (vNow + (sc xs (i + 1))) := hU.down.2.2.2.2.2.2.2.2.2.2.2.2.2.2.2.2.2.2.2.2.2.2.2.2.2.2.2.2.2.2.2.2 h0
    have e15 := (hM.down.2.2.1 h0).trans (hU.down.1 h0).symm
    simp only [Prod.mk.injEq] at e15
    obtain ⟨f_Aim, f_Dirt, f_Top, f_Lm, f_Strain, f_Sums, f_Now, f_Cold, f_Hot, f_Pipe, f_Deg, f_Thaw, f_Turb, f_Left, f_Trips⟩ := e15
    subst f_Aim
    subst f_Dirt
    subst f_Top
    subst f_Lm
    subst f_Strain
    subst f_Sums
    subst f_Now
    subst f_Cold
    subst f_Hot
    subst f_Pipe
    subst f_Deg
    subst f_Thaw
    subst f_Turb
    subst f_Left
    subst f_Trips
    have hans : b_r = vNow + (sc xs (i + 1)) := hM.down.2.1 h0
    have hP : va_P G vwCl (((hW ah z y vN vC b_nNow vHaze b_nCold b_nHot b_nPipe b_nDeg a_nThaw vTrc b_nTurb b_nLeft vLoad vWater b_nTrips a_mi vMi2 vSz vBs vCell b_nDirt b_nAim vErr vCor vBrk b_nTop b_nLm vRows vCols vDown vRight vBound b_nStrain vPrice vFirm b_nSums vTk a_f vFl2 vTe vAw vRo vBe) ++ oW o0 y a_nO) ++ (mW ad y b_th vN vC b_nNow vHaze b_nCold b_nHot b_nPipe b_nDeg b_nThaw vTrc b_nTurb b_nLeft vLoad vWater b_nTrips b_sMissed vBRow vBSum vCell b_nDirt b_nAim vErr vCor vBrk b_nTop b_nLm vRows vCols vDown vRight vBound b_nStrain vPrice vFirm b_nSums b_sRays b_sFalls vSom vHad)) H := hPz
    have hD : va_D (fun q : Nat => s.heap.size ≤ q) (((hW ah z y vN vC b_nNow vHaze b_nCold b_nHot b_nPipe b_nDeg a_nThaw vTrc b_nTurb b_nLeft vLoad vWater b_nTrips a_mi vMi2 vSz vBs vCell b_nDirt b_nAim vErr vCor vBrk b_nTop b_nLm vRows vCols vDown vRight vBound b_nStrain vPrice vFirm b_nSums vTk a_f vFl2 vTe vAw vRo vBe) ++ oW o0 y a_nO) ++ (mW ad y b_th vN vC b_nNow vHaze b_nCold b_nHot b_nPipe b_nDeg b_nThaw vTrc b_nTurb b_nLeft vLoad vWater b_nTrips b_sMissed vBRow vBSum vCell b_nDirt b_nAim vErr vCor vBrk b_nTop b_nLm vRows vCols vDown vRight vBound b_nStrain vPrice vFirm b_nSums b_sRays b_sFalls vSom vHad)) := hDz
    refine lv_aload_n hx hb dL_law_1821 rfl (lv_at hl 5 rfl) ?_
    refine hz_iconst hx hb dL_law_1822 ?_
    refine hz_laldo hx hb hK hP dL_law_1823 ?_
    refine lv_iload hx hb dL_law_1824 (lv_at hl 0 rfl) ?_
    refine hz_i2lw hx hb dL_law_1826 ?_
    refine hz_lcmp hx hb dL_law_1827 (fun v hv => ?_)
    refine lv_if_eq (tgt := 1833) hx hb dL_law_1828 (by decide) (fun _ => ?_) (fun q => absurd (hv.mpr (congrArg zL (hout.trans (congrArg wI hans.symm)))) q)
    refine lv_goto (tgt := 1990) hx hb dL_law_1833 (by decide) ?_
    refine W.widen (k := cells + 40) (n := slots + 400) (by omega) (by omega) ?_
    exact K z vN vC b_nNow vHaze b_nCold b_nHot b_nPipe b_nDeg a_nThaw b_nThaw vTrc b_nTurb b_nLeft vLoad vWater b_nTrips a_mi vMi2 vSz vBs b_th b_sMissed vBRow vBSum vCell b_nDirt b_nAim vErr vCor vBrk b_nTop b_nLm vRows vCols vDown vRight vBound b_nStrain vPrice vFirm b_nSums vTk a_f vFl2 vTe vAw vRo vBe b_sRays b_sFalls vSom vHad a_nO H locs ⟨hZ, hZe, hTk, hN, hC, (show 0 ≤ b_nNow ∧ b_nNow ≤ 9999 from by have q : b_nNow = vNow + (sc xs (i + 1)) := hU.down.2.2.1 h0; omega), hHaze, (show 0 ≤ b_nCold ∧ 0 ≤ b_nHot ∧ b_nCold + b_nHot ≤ 1000 from hU.down.2.2.2.2.2.2.2.2.2.1 h0), (show 0 ≤ b_nPipe ∧ b_nPipe ≤ 2 from hU.down.2.2.2.2.2.2.2.2.2.2.1 h0), (show 0 ≤ b_nDeg ∧ b_nDeg ≤ 40 ∧ (b_nPipe = 1 → 20 ≤ b_nDeg) from hU.down.2.2.2.2.2.2.2.2.2.2.2.1 h0), (show b_nPipe = 2 → 0 ≤ a_nThaw ∧ a_nThaw ≤ 2 from hU.down.2.2.2.2.2.2.2.2.2.2.2.2.1 h0), (show 0 ≤ b_nThaw ∧ b_nThaw ≤ 3 ∧ (b_nPipe = 2 → b_nThaw ≤ 2) from hM.down.2.2.2.2.2.2.2.2.2.2.2.2.2.2.1), (show b_nPipe = 2 → a_nThaw = b_nThaw from hU.down.2.1 h0), hTrc, (show 0 ≤ b_nTurb ∧ b_nTurb ≤ 2 from hU.down.2.2.2.2.2.2.2.2.2.2.2.2.2.1 h0), (show 0 ≤ b_nLeft ∧ b_nLeft ≤ 2 ∧ (b_nTurb = 1 → 1 ≤ b_nLeft) from hU.down.2.2.2.2.2.2.2.2.2.2.2.2.2.2.1 h0), hLoad, hWater, (show 0 ≤ b_nTrips ∧ b_nTrips ≤ b_nNow from hU.down.2.2.2.2.2.2.2.2.1 h0), hCell, (show ∀ k : Int, 0 ≤ b_nDirt k ∧ b_nDirt k ≤ 9 from hU.down.2.2.2.2.1 h0), (show ∀ k : Int, -1 ≤ b_nAim k ∧ b_nAim k ≤ 5 from hU.down.2.2.2.1 h0), hErr, hCor, hBrk, (show ∀ k : Int, -(16 + b_nNow) ≤ b_nTop k ∧ b_nTop k ≤ 16 + b_nNow from hU.down.2.2.2.2.2.1 h0), (show ∀ k : Int, -(16 + b_nNow) ≤ b_nLm k ∧ b_nLm k ≤ 16 + b_nNow from hU.down.2.2.2.2.2.2.1 h0), hRows, hCols, hDown, hRight, hBound, (show ∀ k : Int, 0 ≤ b_nStrain k ∧ b_nStrain k ≤ b_nNow from hU.down.2.2.2.2.2.2.2.1 h0), hPrice, hFirm, (show ∀ k9 : Int, vN ≤ k9 → b_nDirt k9 = 0 ∧ vErr k9 = 0 ∧ vCor k9 = 0 ∧ vBrk k9 = 0 from fun k9 q9 => by
          have q := hE0 k9 q9
          have e9 := congrArg (fun t : TS => t.2.1 k9) (hM.down.2.2.1 h0)
          have e8 := e9.trans (it_d _ k9 q9 _ _)
          exact ⟨e8.trans q.1, q.2⟩)⟩ hP hD hS ls (lv_sub hl [2, 3, 4, 5, 6] rfl)
set_option maxHeartbeats 16000000 in
set_option maxRecDepth 100000 in
theorem lw_c28 (p : Program) (l : Launch) (e : Env) (s : State) (m : MethodId) (below : List Frame) (meth : Method) (c : Code) (b L : Nat) (xs : Nat → Int32) (G : va_G) (mi zE : Nat) (y : Nat → ClassId) (ah ad : Nat → Nat) (o0 : Nat) (cells slots : Nat) (i : Int) (hQ : LC p l s m meth c b L xs G mi zE y) (hi : 0 ≤ i ∧ i + 7 ≤ L) (hroom : cells + 40 ≤ 601024 ∧ slots + 400 ≤ 7293034) (K : LK p l e s m below meth c b L xs G mi zE y ah ad o0 (cells + 40) (slots + 400) i 1990) : LK p l e s m below meth c b L xs G mi zE y ah ad o0 cells slots i 1836 := by
  intro z vN vC vNow vHaze vCold vHot vPipe vDeg cThaw vThaw vTrc vTurb vLeft vLoad vWater vTrips vMi1 vMi2 vSz vBs vThrown vMissed vBRow vBSum vCell vDirt vAim vErr vCor vBrk vTop vLm vRows vCols vDown vRight vBound vStrain vPrice vFirm vSums vTk vFl1 vFl2 vTe vAw vRo vBe vRays vFalls vSom vHad vO H locs hFA hP hD hS ls hl
  obtain ⟨hx, hb, hr, hts, hown, hml, hX0, hbl, hL, hlocks, hK, hGP, hX, hGN, hlt⟩ := hQ
  have hA : ∀ q : Nat, s.heap.size ≤ q → (fun q : Nat => s.heap.size ≤ q) q := fun _ h => h
  have hbA : ¬ (fun q : Nat => s.heap.size ≤ q) b := Nat.not_le.mpr hbl
  have hFA0 := hFA
  obtain ⟨hZ, hZe, hTk, hN, hC, hNow, hHaze, hSalt, hPipe, hDeg, hThC, hThM, hThE, hTrc, hTurb, hLeft, hLoad, hWater, hTrips, hCell, hDirt, hAim, hErr, hCor, hBrk, hTop, hLm, hRows, hCols, hDown, hRight, hBound, hStrain, hPrice, hFirm, hE0⟩ := hFA
  refine lv_aload_n hx hb dL_law_1836 rfl (lv_at hl 1 rfl) ?_
  refine lv_aload_n hx hb dL_law_1837 rfl (lv_at hl 0 rfl) ?_
  refine lv_iload hx hb dL_law_1838 (lv_at hl 4 rfl) ?_
  refine hz_iconst hx hb dL_law_1840 ?_
  refine hz_iadd hx hb dL_law_1841 ?_
  refine hz_sld hx hb hX0 hbl hbA hS (by omega) (by omega) dL_law_1842 ?_
  refine lv_aload_n hx hb dL_law_1843 rfl (lv_at hl 3 rfl) ?_
  refine hz_lawL (As := [.ref (ah 0), zi (sc xs (i + 1)), .ref o0]) (rest := []) ⟨hx, hb, hml, hown, hts⟩ (c_L_plantIs l hlt G ah z mi zE y _ vN vC vNow vHaze vCold vHot vPipe vDeg cThaw vTrc vTurb vLeft vLoad vWater vTrips vMi1 vMi2 vSz vBs vCell vDirt vAim vErr vCor vBrk vTop vLm vRows vCols vDown vRight vBound vStrain vPrice vFirm vSums vTk vFl1 vFl2 vTe vAw vRo vBe o0 vO (sc xs (i + 1)) hNow hTrc (sc_rng _ _)) (vx_cwSW 3 hts gL_law_L_plantIs rfl rfl rfl (by decide +kernel) ⟨Nat.le_of_ble_eq_true rfl, Nat.le_of_ble_eq_true rfl⟩) hP hK hD hS hA hGP hX hGN rfl hl.1 rfl (Nat.le_of_ble_eq_true rfl) dL_law_1844 ⟨by show cells + 1 ≤ 601024; omega, by show slots + 6 ≤ 7293034; omega⟩ (fun r u H locs hu hP hD hS => ?_)
  obtain ⟨a_nO, heq9⟩ : ∃ z9, z9 = u := ⟨_, rfl⟩
  subst heq9
  obtain ⟨rfl, hu⟩ := hu
  have hU := PLift.up hu
  clear hu
  refine hz_topi (fun kc hkc => ?_)
  have hP : va_P G vwCl (((hW ah z y vN vC vNow vHaze vCold vHot vPipe vDeg cThaw vTrc vTurb vLeft vLoad vWater vTrips vMi1 vMi2 vSz vBs vCell vDirt vAim vErr vCor vBrk vTop vLm vRows vCols vDown vRight vBound vStrain vPrice vFirm vSums vTk vFl1 vFl2 vTe vAw vRo vBe) ++ oW o0 y a_nO) ++ (mW ad y vThrown vN vC vNow vHaze vCold vHot vPipe vDeg vThaw vTrc vTurb vLeft vLoad vWater vTrips vMissed vBRow vBSum vCell vDirt vAim vErr vCor vBrk vTop vLm vRows vCols vDown vRight vBound vStrain vPrice vFirm vSums vRays vFalls vSom vHad)) H := hP
  have hD : va_D (fun q : Nat => s.heap.size ≤ q) (((hW ah z y vN vC vNow vHaze vCold vHot vPipe vDeg cThaw vTrc vTurb vLeft vLoad vWater vTrips vMi1 vMi2 vSz vBs vCell vDirt vAim vErr vCor vBrk vTop vLm vRows vCols vDown vRight vBound vStrain vPrice vFirm vSums vTk vFl1 vFl2 vTe vAw vRo vBe) ++ oW o0 y a_nO) ++ (mW ad y vThrown vN vC vNow vHaze vCold vHot vPipe vDeg vThaw vTrc vTurb vLeft vLoad vWater vTrips vMissed vBRow vBSum vCell vDirt vAim vErr vCor vBrk vTop vLm vRows vCols vDown vRight vBound vStrain vPrice vFirm vSums vRays vFalls vSom vHad)) := hD
  have hkr : 0 ≤ kc ∧ kc ≤ 3 := by rw [hkc]; first | omega | (split <;> (try split) <;> (try split) <;> omega)
  refine lv_istore (lv' := [(5, zi kc), (0, .ref b), (1, .ref (ah 0)), (2, .ref (ad 0)), (3, .ref o0), (4, zi i)]) hx hb dL_law_1847 hl (by decide) rfl (fun ls hl => ?_)
  refine lv_aload_n hx hb dL_law_1849 rfl (lv_at hl 3 rfl) ?_
  refine lv_aload_n hx hb dL_law_1850 rfl (lv_at hl 1 rfl) ?_
  refine lv_iload hx hb dL_law_1851 (lv_at hl 5 rfl) ?_
  refine hz_iconst hx hb dL_law_1853 ?_
  refine hz_iadd hx hb dL_law_1854 ?_
  refine hz_sld hx hb hX0 hbl hbA hS (by omega) (by omega) dL_law_1855 ?_
  refine hz_lawMi (As := [zi (sc xs (i + 1))]) (rest := []) ⟨hx, hb, hml, hown, hts⟩ (c_X8_plantIs l G y ad _ vThrown vN vC vNow vHaze vCold vHot vPipe vDeg vThaw vTrc vTurb vLeft vLoad vWater vTrips vMissed vBRow vBSum vCell vDirt vAim vErr vCor vBrk vTop vLm vRows vCols vDown vRight vBound vStrain vPrice vFirm vSums vRays vFalls vSom vHad (sc xs (i + 1)) hNow hTrc (sc_rng _ _)) (cwV 1 hts gL_law_X8_plantIs rfl rfl rfl (by decide +kernel) ⟨Nat.le_of_ble_eq_true rfl, Nat.le_of_ble_eq_true rfl⟩) hP hK hD hS hA 0 9 rfl rfl rfl rfl hl.1 rfl (Nat.le_of_ble_eq_true rfl) dL_law_1856 ⟨by show (cells + 1) + 0 ≤ 601024; omega, by show (slots + 6) + 0 ≤ 7293034; omega⟩ (fun _ => rfl) (fun u H locs hu hP hD hS => ?_)
  obtain ⟨b_th, b_r⟩ := u
  have hM := PLift.up hu
  clear hu
  have hP : va_P G vwCl (((hW ah z y vN vC vNow vHaze vCold vHot vPipe vDeg cThaw vTrc vTurb vLeft vLoad vWater vTrips vMi1 vMi2 vSz vBs vCell vDirt vAim vErr vCor vBrk vTop vLm vRows vCols vDown vRight vBound vStrain vPrice vFirm vSums vTk vFl1 vFl2 vTe vAw vRo vBe) ++ oW o0 y a_nO) ++ (mW ad y b_th vN vC vNow vHaze vCold vHot vPipe vDeg vThaw vTrc vTurb vLeft vLoad vWater vTrips vMissed vBRow vBSum vCell vDirt vAim vErr vCor vBrk vTop vLm vRows vCols vDown vRight vBound vStrain vPrice vFirm vSums vRays vFalls vSom vHad)) H := hP
  have hD : va_D (fun q : Nat => s.heap.size ≤ q) (((hW ah z y vN vC vNow vHaze vCold vHot vPipe vDeg cThaw vTrc vTurb vLeft vLoad vWater vTrips vMi1 vMi2 vSz vBs vCell vDirt vAim vErr vCor vBrk vTop vLm vRows vCols vDown vRight vBound vStrain vPrice vFirm vSums vTk vFl1 vFl2 vTe vAw vRo vBe) ++ oW o0 y a_nO) ++ (mW ad y b_th vN vC vNow vHaze vCold vHot vPipe vDeg vThaw vTrc vTurb vLeft vLoad vWater vTrips vMissed vBRow vBSum vCell vDirt vAim vErr vCor vBrk vTop vLm vRows vCols vDown vRight vBound vStrain vPrice vFirm vSums vRays vFalls vSom vHad)) := hD
  have hmk : b_th = kc := (hM.down.1).trans hkc.symm
  refine lv_istore (lv' := [(6, zi b_r), (5, zi kc), (0, .ref b), (1, .ref (ah 0)), (2, .ref (ad 0)), (3, .ref o0), (4, zi i)]) hx hb dL_law_1859 hl (by decide) rfl (fun ls hl => ?_)
  refine lv_aload_n hx hb dL_law_1861 rfl (lv_at hl 4 rfl) ?_
  refine hz_lawMi (As := []) (rest := []) ⟨hx, hb, hml, hown, hts⟩ (c_X8_thrown l G y ad _ b_th vN vC vNow vHaze vCold vHot vPipe vDeg vThaw vTrc vTurb vLeft vLoad vWater vTrips vMissed vBRow vBSum vCell vDirt vAim vErr vCor vBrk vTop vLm vRows vCols vDown vRight vBound vStrain vPrice vFirm vSums vRays vFalls vSom vHad) (cwV 0 hts gL_law_X8_thrown rfl rfl rfl (by decide +kernel) ⟨Nat.le_of_ble_eq_true rfl, Nat.le_of_ble_eq_true rfl⟩) hP hK hD hS hA 0 9 rfl rfl rfl rfl hl.1 rfl (Nat.le_of_ble_eq_true rfl) dL_law_1862 ⟨by show (cells + 1) + 0 ≤ 601024; omega, by show (slots + 6) + 0 ≤ 7293034; omega⟩ (fun _ => rfl) (fun u H locs hu hP hD hS => ?_)
  have hP : va_P G vwCl (((hW ah z y vN vC vNow vHaze vCold vHot vPipe vDeg cThaw vTrc vTurb vLeft vLoad vWater vTrips vMi1 vMi2 vSz vBs vCell vDirt vAim vErr vCor vBrk vTop vLm vRows vCols vDown vRight vBound vStrain vPrice vFirm vSums vTk vFl1 vFl2 vTe vAw vRo vBe) ++ oW o0 y a_nO) ++ (mW ad y b_th vN vC vNow vHaze vCold vHot vPipe vDeg vThaw vTrc vTurb vLeft vLoad vWater vTrips vMissed vBRow vBSum vCell vDirt vAim vErr vCor vBrk vTop vLm vRows vCols vDown vRight vBound vStrain vPrice vFirm vSums vRays vFalls vSom vHad)) H := hP
  have hD : va_D (fun q : Nat => s.heap.size ≤ q) (((hW ah z y vN vC vNow vHaze vCold vHot vPipe vDeg cThaw vTrc vTurb vLeft vLoad vWater vTrips vMi1 vMi2 vSz vBs vCell vDirt vAim vErr vCor vBrk vTop vLm vRows vCols vDown vRight vBound vStrain vPrice vFirm vSums vTk vFl1 vFl2 vTe vAw vRo vBe) ++ oW o0 y a_nO) ++ (mW ad y b_th vN vC vNow vHaze vCold vHot vPipe vDeg vThaw vTrc vTurb vLeft vLoad vWater vTrips vMissed vBRow vBSum vCell vDirt vAim vErr vCor vBrk vTop vLm vRows vCols vDown vRight vBound vStrain vPrice vFirm vSums vRays vFalls vSom vHad)) := hD
  refine lv_iload hx hb dL_law_1865 (lv_at hl 1 rfl) ?_
  refine hz_icmp_eq (tgt := 1872) hx hb dL_law_1867 (by decide) (by omega) (fun _ => ?_) (fun q => absurd (by omega) q)
  refine lv_iload hx hb dL_law_1872 (lv_at hl 1 rfl) ?_
  refine hz_if_ne (tgt := 1889) hx hb dL_law_1874 (by decide) (by omega) (fun c1 => ?_) (fun c1 => ?_)
  · have h0 : ¬ (if ¬ (0 ≤ (sc xs (i + 1)) ∧ (sc xs (i + 1)) ≤ 10) then (1 : Int) else 0) = 0 := fun q => c1 (hkc.trans q)
    have hPz := hP
    have hDz := hD
    have hP : va_P G vwCl (((hW ah z y vN vC vNow vHaze vCold vHot vPipe vDeg cThaw vTrc vTurb vLeft vLoad vWater vTrips vMi1 vMi2 vSz vBs vCell vDirt vAim vErr vCor vBrk vTop vLm vRows vCols vDown vRight vBound vStrain vPrice vFirm vSums vTk vFl1 vFl2 vTe vAw vRo vBe) ++ oW o0 y a_nO) ++ (mW ad y b_th vN vC vNow vHaze vCold vHot vPipe vDeg vThaw vTrc vTurb vLeft vLoad vWater vTrips vMissed vBRow vBSum vCell vDirt vAim vErr vCor vBrk vTop vLm vRows vCols vDown vRight vBound vStrain vPrice vFirm vSums vRays vFalls vSom vHad)) H := hPz
    have hD : va_D (fun q : Nat => s.heap.size ≤ q) (((hW ah z y vN vC vNow vHaze vCold vHot vPipe vDeg cThaw vTrc vTurb vLeft vLoad vWater vTrips vMi1 vMi2 vSz vBs vCell vDirt vAim vErr vCor vBrk vTop vLm vRows vCols vDown vRight vBound vStrain vPrice vFirm vSums vTk vFl1 vFl2 vTe vAw vRo vBe) ++ oW o0 y a_nO) ++ (mW ad y b_th vN vC vNow vHaze vCold vHot vPipe vDeg vThaw vTrc vTurb vLeft vLoad vWater vTrips vMissed vBRow vBSum vCell vDirt vAim vErr vCor vBrk vTop vLm vRows vCols vDown vRight vBound vStrain vPrice vFirm vSums vRays vFalls vSom vHad)) := hDz
    refine lv_goto (tgt := 1990) hx hb dL_law_1889 (by decide) ?_
    refine W.widen (k := cells + 40) (n := slots + 400) (by omega) (by omega) ?_
    exact K z vN vC vNow vHaze vCold vHot vPipe vDeg cThaw vThaw vTrc vTurb vLeft vLoad vWater vTrips vMi1 vMi2 vSz vBs b_th vMissed vBRow vBSum vCell vDirt vAim vErr vCor vBrk vTop vLm vRows vCols vDown vRight vBound vStrain vPrice vFirm vSums vTk vFl1 vFl2 vTe vAw vRo vBe vRays vFalls vSom vHad a_nO H locs hFA0 hP hD hS ls (lv_sub hl [2, 3, 4, 5, 6] rfl)
  · have h0 : (if ¬ (0 ≤ (sc xs (i + 1)) ∧ (sc xs (i + 1)) ≤ 10) then (1 : Int) else 0) = 0 := hkc.symm.trans c1
    have hPz := hP
    have hDz := hD
    have hout : a_nO 0 = wI ((if (sc xs (i + 1)) = 0 then vNow else if (sc xs (i + 1)) = 1 then strZ vNow else if (sc xs (i + 1)) = 2 then vCold else if (sc xs (i + 1)) = 3 then vHot else if (sc xs (i + 1)) = 4 then vDeg else if (sc xs (i + 1)) = 5 then vPipe else if (sc xs (i + 1)) = 6 then vTrc else if (sc xs (i + 1)) = 7 then vTurb else if (sc xs (i + 1)) = 8 then vLoad else if (sc xs (i + 1)) = 9 then vWater else vTrips)) := hU.down h0
    have hans : b_r = (if (sc xs (i + 1)) = 0 then vNow else if (sc xs (i + 1)) = 1 then strZ vNow else if (sc xs (i + 1)) = 2 then vCold else if (sc xs (i + 1)) = 3 then vHot else if (sc xs (i + 1)) = 4 then vDeg else if (sc xs (i + 1)) = 5 then vPipe else if (sc xs (i + 1)) = 6 then vTrc else if (sc xs (i + 1)) = 7 then vTurb else if (sc xs (i + 1)) = 8 then vLoad else if (sc xs (i + 1)) = 9 then vWater else vTrips) := hM.down.2 h0
    have hP : va_P G vwCl (((hW ah z y vN vC vNow vHaze vCold vHot vPipe vDeg cThaw vTrc vTurb vLeft vLoad vWater vTrips vMi1 vMi2 vSz vBs vCell vDirt vAim vErr vCor vBrk vTop vLm vRows vCols vDown vRight vBound vStrain vPrice vFirm vSums vTk vFl1 vFl2 vTe vAw vRo vBe) ++ oW o0 y a_nO) ++ (mW ad y b_th vN vC vNow vHaze vCold vHot vPipe vDeg vThaw vTrc vTurb vLeft vLoad vWater vTrips vMissed vBRow vBSum vCell vDirt vAim vErr vCor vBrk vTop vLm vRows vCols vDown vRight vBound vStrain vPrice vFirm vSums vRays vFalls vSom vHad)) H := hPz
    have hD : va_D (fun q : Nat => s.heap.size ≤ q) (((hW ah z y vN vC vNow vHaze vCold vHot vPipe vDeg cThaw vTrc vTurb vLeft vLoad vWater vTrips vMi1 vMi2 vSz vBs vCell vDirt vAim vErr vCor vBrk vTop vLm vRows vCols vDown vRight vBound vStrain vPrice vFirm vSums vTk vFl1 vFl2 vTe vAw vRo vBe) ++ oW o0 y a_nO) ++ (mW ad y b_th vN vC vNow vHaze vCold vHot vPipe vDeg vThaw vTrc vTurb vLeft vLoad vWater vTrips vMissed vBRow vBSum vCell vDirt vAim vErr vCor vBrk vTop vLm vRows vCols vDown vRight vBound vStrain vPrice vFirm vSums vRays vFalls vSom vHad)) := hDz
    refine lv_aload_n hx hb dL_law_1877 rfl (lv_at hl 5 rfl) ?_
    refine hz_iconst hx hb dL_law_1878 ?_
    refine hz_laldo hx hb hK hP dL_law_1879 ?_
    refine lv_iload hx hb dL_law_1880 (lv_at hl 0 rfl) ?_
    refine hz_i2lw hx hb dL_law_1882 ?_
    refine hz_lcmp hx hb dL_law_1883 (fun v hv => ?_)
    refine lv_if_eq (tgt := 1889) hx hb dL_law_1884 (by decide) (fun _ => ?_) (fun q => absurd (hv.mpr (congrArg zL (hout.trans (congrArg wI hans.symm)))) q)
    refine lv_goto (tgt := 1990) hx hb dL_law_1889 (by decide) ?_
    refine W.widen (k := cells + 40) (n := slots + 400) (by omega) (by omega) ?_
    exact K z vN vC vNow vHaze vCold vHot vPipe vDeg cThaw vThaw vTrc vTurb vLeft vLoad vWater vTrips vMi1 vMi2 vSz vBs b_th vMissed vBRow vBSum vCell vDirt vAim vErr vCor vBrk vTop vLm vRows vCols vDown vRight vBound vStrain vPrice vFirm vSums vTk vFl1 vFl2 vTe vAw vRo vBe vRays vFalls vSom vHad a_nO H locs hFA0 hP hD hS ls (lv_sub hl [2, 3, 4, 5, 6] rfl)
set_option maxHeartbeats 16000000 in
set_option maxRecDepth 100000 in
theorem lw_c29 (p : Program) (l : Launch) (e : Env) (s : State) (m : MethodId) (below : List Frame) (meth : Method) (c : Code) (b L : Nat) (xs : Nat → Int32) (G : va_G) (mi zE : Nat) (y : Nat → ClassId) (ah ad : Nat → Nat) (o0 : Nat) (cells slots : Nat) (i : Int) (hQ : LC p l s m meth c b L xs G mi zE y) (hi : 0 ≤ i ∧ i + 7 ≤ L) (hroom : cells + 40 ≤ 601024 ∧ slots + 400 ≤ 7293034) (K : LK p l e s m below meth c b L xs G mi zE y ah ad o0 (cells + 40) (slots + 400) i 1990) : LK p l e s m below meth c b L xs G mi zE y ah ad o0 cells slots i 1892 := by
  intro z vN vC vNow vHaze vCold vHot vPipe vDeg cThaw vThaw vTrc vTurb vLeft vLoad vWater vTrips vMi1 vMi2 vSz vBs vThrown vMissed vBRow vBSum vCell vDirt vAim vErr vCor vBrk vTop vLm vRows vCols vDown vRight vBound vStrain vPrice vFirm vSums vTk vFl1 vFl2 vTe vAw vRo vBe vRays vFalls vSom vHad vO H locs hFA hP hD hS ls hl
  obtain ⟨hx, hb, hr, hts, hown, hml, hX0, hbl, hL, hlocks, hK, hGP, hX, hGN, hlt⟩ := hQ
  have hA : ∀ q : Nat, s.heap.size ≤ q → (fun q : Nat => s.heap.size ≤ q) q := fun _ h => h
  have hbA : ¬ (fun q : Nat => s.heap.size ≤ q) b := Nat.not_le.mpr hbl
  have hFA0 := hFA
  obtain ⟨hZ, hZe, hTk, hN, hC, hNow, hHaze, hSalt, hPipe, hDeg, hThC, hThM, hThE, hTrc, hTurb, hLeft, hLoad, hWater, hTrips, hCell, hDirt, hAim, hErr, hCor, hBrk, hTop, hLm, hRows, hCols, hDown, hRight, hBound, hStrain, hPrice, hFirm, hE0⟩ := hFA
  refine lv_aload_n hx hb dL_law_1892 rfl (lv_at hl 1 rfl) ?_
  refine lv_aload_n hx hb dL_law_1893 rfl (lv_at hl 0 rfl) ?_
  refine lv_iload hx hb dL_law_1894 (lv_at hl 4 rfl) ?_
  refine hz_iconst hx hb dL_law_1896 ?_
  refine hz_iadd hx hb dL_law_1897 ?_
  refine hz_sld hx hb hX0 hbl hbA hS (by omega) (by omega) dL_law_1898 ?_
  refine lv_aload_n hx hb dL_law_1899 rfl (lv_at hl 3 rfl) ?_
  refine hz_lawL (As := [.ref (ah 0), zi (sc xs (i + 1)), .ref o0]) (rest := []) ⟨hx, hb, hml, hown, hts⟩ (c_L_sum l hlt G ah z mi zE y _ vN vC vNow vHaze vCold vHot vPipe vDeg cThaw vTrc vTurb vLeft vLoad vWater vTrips vMi1 vMi2 vSz vBs vCell vDirt vAim vErr vCor vBrk vTop vLm vRows vCols vDown vRight vBound vStrain vPrice vFirm vSums vTk vFl1 vFl2 vTe vAw vRo vBe o0 vO (sc xs (i + 1)) (sc_rng _ _)) (vx_cwSW 3 hts gL_law_L_sum rfl rfl rfl (by decide +kernel) ⟨Nat.le_of_ble_eq_true rfl, Nat.le_of_ble_eq_true rfl⟩) hP hK hD hS hA hGP hX hGN rfl hl.1 rfl (Nat.le_of_ble_eq_true rfl) dL_law_1900 ⟨by show cells + 1 ≤ 601024; omega, by show slots + 6 ≤ 7293034; omega⟩ (fun r u H locs hu hP hD hS => ?_)
  obtain ⟨a_nO, heq9⟩ : ∃ z9, z9 = u := ⟨_, rfl⟩
  subst heq9
  obtain ⟨rfl, hu⟩ := hu
  have hU := PLift.up hu
  clear hu
  refine hz_topi (fun kc hkc => ?_)
  have hP : va_P G vwCl (((hW ah z y vN vC vNow vHaze vCold vHot vPipe vDeg cThaw vTrc vTurb vLeft vLoad vWater vTrips vMi1 vMi2 vSz vBs vCell vDirt vAim vErr vCor vBrk vTop vLm vRows vCols vDown vRight vBound vStrain vPrice vFirm vSums vTk vFl1 vFl2 vTe vAw vRo vBe) ++ oW o0 y a_nO) ++ (mW ad y vThrown vN vC vNow vHaze vCold vHot vPipe vDeg vThaw vTrc vTurb vLeft vLoad vWater vTrips vMissed vBRow vBSum vCell vDirt vAim vErr vCor vBrk vTop vLm vRows vCols vDown vRight vBound vStrain vPrice vFirm vSums vRays vFalls vSom vHad)) H := hP
  have hD : va_D (fun q : Nat => s.heap.size ≤ q) (((hW ah z y vN vC vNow vHaze vCold vHot vPipe vDeg cThaw vTrc vTurb vLeft vLoad vWater vTrips vMi1 vMi2 vSz vBs vCell vDirt vAim vErr vCor vBrk vTop vLm vRows vCols vDown vRight vBound vStrain vPrice vFirm vSums vTk vFl1 vFl2 vTe vAw vRo vBe) ++ oW o0 y a_nO) ++ (mW ad y vThrown vN vC vNow vHaze vCold vHot vPipe vDeg vThaw vTrc vTurb vLeft vLoad vWater vTrips vMissed vBRow vBSum vCell vDirt vAim vErr vCor vBrk vTop vLm vRows vCols vDown vRight vBound vStrain vPrice vFirm vSums vRays vFalls vSom vHad)) := hD
  have hkr : 0 ≤ kc ∧ kc ≤ 3 := by rw [hkc]; first | omega | (split <;> (try split) <;> (try split) <;> omega)
  refine lv_istore (lv' := [(5, zi kc), (0, .ref b), (1, .ref (ah 0)), (2, .ref (ad 0)), (3, .ref o0), (4, zi i)]) hx hb dL_law_1903 hl (by decide) rfl (fun ls hl => ?_)
  refine lv_aload_n hx hb dL_law_1905 rfl (lv_at hl 3 rfl) ?_
  refine lv_aload_n hx hb dL_law_1906 rfl (lv_at hl 1 rfl) ?_
  refine lv_iload hx hb dL_law_1907 (lv_at hl 5 rfl) ?_
  refine hz_iconst hx hb dL_law_1909 ?_
  refine hz_iadd hx hb dL_law_1910 ?_
  refine hz_sld hx hb hX0 hbl hbA hS (by omega) (by omega) dL_law_1911 ?_
  refine hz_lawMl (As := [zi (sc xs (i + 1))]) (rest := []) ⟨hx, hb, hml, hown, hts⟩ (c_X8_sum l G y ad _ vThrown vN vC vNow vHaze vCold vHot vPipe vDeg vThaw vTrc vTurb vLeft vLoad vWater vTrips vMissed vBRow vBSum vCell vDirt vAim vErr vCor vBrk vTop vLm vRows vCols vDown vRight vBound vStrain vPrice vFirm vSums vRays vFalls vSom vHad (sc xs (i + 1)) (sc_rng _ _)) (cwV 1 hts gL_law_X8_sum rfl rfl rfl (by decide +kernel) ⟨Nat.le_of_ble_eq_true rfl, Nat.le_of_ble_eq_true rfl⟩) hP hK hD hS hA 0 9 rfl rfl rfl rfl hl.1 rfl (Nat.le_of_ble_eq_true rfl) dL_law_1912 ⟨by show (cells + 1) + 0 ≤ 601024; omega, by show (slots + 6) + 0 ≤ 7293034; omega⟩ (fun _ => rfl) (fun u H locs hu hP hD hS => ?_)
  obtain ⟨b_th, b_r⟩ := u
  have hM := PLift.up hu
  clear hu
  have hP : va_P G vwCl (((hW ah z y vN vC vNow vHaze vCold vHot vPipe vDeg cThaw vTrc vTurb vLeft vLoad vWater vTrips vMi1 vMi2 vSz vBs vCell vDirt vAim vErr vCor vBrk vTop vLm vRows vCols vDown vRight vBound vStrain vPrice vFirm vSums vTk vFl1 vFl2 vTe vAw vRo vBe) ++ oW o0 y a_nO) ++ (mW ad y b_th vN vC vNow vHaze vCold vHot vPipe vDeg vThaw vTrc vTurb vLeft vLoad vWater vTrips vMissed vBRow vBSum vCell vDirt vAim vErr vCor vBrk vTop vLm vRows vCols vDown vRight vBound vStrain vPrice vFirm vSums vRays vFalls vSom vHad)) H := hP
  have hD : va_D (fun q : Nat => s.heap.size ≤ q) (((hW ah z y vN vC vNow vHaze vCold vHot vPipe vDeg cThaw vTrc vTurb vLeft vLoad vWater vTrips vMi1 vMi2 vSz vBs vCell vDirt vAim vErr vCor vBrk vTop vLm vRows vCols vDown vRight vBound vStrain vPrice vFirm vSums vTk vFl1 vFl2 vTe vAw vRo vBe) ++ oW o0 y a_nO) ++ (mW ad y b_th vN vC vNow vHaze vCold vHot vPipe vDeg vThaw vTrc vTurb vLeft vLoad vWater vTrips vMissed vBRow vBSum vCell vDirt vAim vErr vCor vBrk vTop vLm vRows vCols vDown vRight vBound vStrain vPrice vFirm vSums vRays vFalls vSom vHad)) := hD
  have hmk : b_th = kc := (hM.down.1).trans hkc.symm
  refine lv_lstore (lv' := [(6, zl b_r), (5, zi kc), (0, .ref b), (1, .ref (ah 0)), (2, .ref (ad 0)), (3, .ref o0), (4, zi i)]) hx hb dL_law_1915 hl (by decide) rfl (fun ls hl => ?_)
  refine lv_aload_n hx hb dL_law_1917 rfl (lv_at hl 4 rfl) ?_
  refine hz_lawMi (As := []) (rest := []) ⟨hx, hb, hml, hown, hts⟩ (c_X8_thrown l G y ad _ b_th vN vC vNow vHaze vCold vHot vPipe vDeg vThaw vTrc vTurb vLeft vLoad vWater vTrips vMissed vBRow vBSum vCell vDirt vAim vErr vCor vBrk vTop vLm vRows vCols vDown vRight vBound vStrain vPrice vFirm vSums vRays vFalls vSom vHad) (cwV 0 hts gL_law_X8_thrown rfl rfl rfl (by decide +kernel) ⟨Nat.le_of_ble_eq_true rfl, Nat.le_of_ble_eq_true rfl⟩) hP hK hD hS hA 0 9 rfl rfl rfl rfl hl.1 rfl (Nat.le_of_ble_eq_true rfl) dL_law_1918 ⟨by show (cells + 1) + 0 ≤ 601024; omega, by show (slots + 6) + 0 ≤ 7293034; omega⟩ (fun _ => rfl) (fun u H locs hu hP hD hS => ?_)
  have hP : va_P G vwCl (((hW ah z y vN vC vNow vHaze vCold vHot vPipe vDeg cThaw vTrc vTurb vLeft vLoad vWater vTrips vMi1 vMi2 vSz vBs vCell vDirt vAim vErr vCor vBrk vTop vLm vRows vCols vDown vRight vBound vStrain vPrice vFirm vSums vTk vFl1 vFl2 vTe vAw vRo vBe) ++ oW o0 y a_nO) ++ (mW ad y b_th vN vC vNow vHaze vCold vHot vPipe vDeg vThaw vTrc vTurb vLeft vLoad vWater vTrips vMissed vBRow vBSum vCell vDirt vAim vErr vCor vBrk vTop vLm vRows vCols vDown vRight vBound vStrain vPrice vFirm vSums vRays vFalls vSom vHad)) H := hP
  have hD : va_D (fun q : Nat => s.heap.size ≤ q) (((hW ah z y vN vC vNow vHaze vCold vHot vPipe vDeg cThaw vTrc vTurb vLeft vLoad vWater vTrips vMi1 vMi2 vSz vBs vCell vDirt vAim vErr vCor vBrk vTop vLm vRows vCols vDown vRight vBound vStrain vPrice vFirm vSums vTk vFl1 vFl2 vTe vAw vRo vBe) ++ oW o0 y a_nO) ++ (mW ad y b_th vN vC vNow vHaze vCold vHot vPipe vDeg vThaw vTrc vTurb vLeft vLoad vWater vTrips vMissed vBRow vBSum vCell vDirt vAim vErr vCor vBrk vTop vLm vRows vCols vDown vRight vBound vStrain vPrice vFirm vSums vRays vFalls vSom vHad)) := hD
  refine lv_iload hx hb dL_law_1921 (lv_at hl 1 rfl) ?_
  refine hz_icmp_eq (tgt := 1928) hx hb dL_law_1923 (by decide) (by omega) (fun _ => ?_) (fun q => absurd (by omega) q)
  refine lv_iload hx hb dL_law_1928 (lv_at hl 1 rfl) ?_
  refine hz_if_ne (tgt := 1944) hx hb dL_law_1930 (by decide) (by omega) (fun c1 => ?_) (fun c1 => ?_)
  · have h0 : ¬ (if ¬ (0 ≤ (sc xs (i + 1)) ∧ (sc xs (i + 1)) ≤ 12) then (1 : Int) else 0) = 0 := fun q => c1 (hkc.trans q)
    have hPz := hP
    have hDz := hD
    have hP : va_P G vwCl (((hW ah z y vN vC vNow vHaze vCold vHot vPipe vDeg cThaw vTrc vTurb vLeft vLoad vWater vTrips vMi1 vMi2 vSz vBs vCell vDirt vAim vErr vCor vBrk vTop vLm vRows vCols vDown vRight vBound vStrain vPrice vFirm vSums vTk vFl1 vFl2 vTe vAw vRo vBe) ++ oW o0 y a_nO) ++ (mW ad y b_th vN vC vNow vHaze vCold vHot vPipe vDeg vThaw vTrc vTurb vLeft vLoad vWater vTrips vMissed vBRow vBSum vCell vDirt vAim vErr vCor vBrk vTop vLm vRows vCols vDown vRight vBound vStrain vPrice vFirm vSums vRays vFalls vSom vHad)) H := hPz
    have hD : va_D (fun q : Nat => s.heap.size ≤ q) (((hW ah z y vN vC vNow vHaze vCold vHot vPipe vDeg cThaw vTrc vTurb vLeft vLoad vWater vTrips vMi1 vMi2 vSz vBs vCell vDirt vAim vErr vCor vBrk vTop vLm vRows vCols vDown vRight vBound vStrain vPrice vFirm vSums vTk vFl1 vFl2 vTe vAw vRo vBe) ++ oW o0 y a_nO) ++ (mW ad y b_th vN vC vNow vHaze vCold vHot vPipe vDeg vThaw vTrc vTurb vLeft vLoad vWater vTrips vMissed vBRow vBSum vCell vDirt vAim vErr vCor vBrk vTop vLm vRows vCols vDown vRight vBound vStrain vPrice vFirm vSums vRays vFalls vSom vHad)) := hDz
    refine lv_goto (tgt := 1990) hx hb dL_law_1944 (by decide) ?_
    refine W.widen (k := cells + 40) (n := slots + 400) (by omega) (by omega) ?_
    exact K z vN vC vNow vHaze vCold vHot vPipe vDeg cThaw vThaw vTrc vTurb vLeft vLoad vWater vTrips vMi1 vMi2 vSz vBs b_th vMissed vBRow vBSum vCell vDirt vAim vErr vCor vBrk vTop vLm vRows vCols vDown vRight vBound vStrain vPrice vFirm vSums vTk vFl1 vFl2 vTe vAw vRo vBe vRays vFalls vSom vHad a_nO H locs hFA0 hP hD hS ls (lv_sub hl [2, 3, 4, 5, 6] rfl)
  · have h0 : (if ¬ (0 ≤ (sc xs (i + 1)) ∧ (sc xs (i + 1)) ≤ 12) then (1 : Int) else 0) = 0 := hkc.symm.trans c1
    have hPz := hP
    have hDz := hD
    have hout : a_nO 0 = vSums (sc xs (i + 1)) := hU.down h0
    have hans : b_r = vSums (sc xs (i + 1)) := hM.down.2 h0
    have hP : va_P G vwCl (((hW ah z y vN vC vNow vHaze vCold vHot vPipe vDeg cThaw vTrc vTurb vLeft vLoad vWater vTrips vMi1 vMi2 vSz vBs vCell vDirt vAim vErr vCor vBrk vTop vLm vRows vCols vDown vRight vBound vStrain vPrice vFirm vSums vTk vFl1 vFl2 vTe vAw vRo vBe) ++ oW o0 y a_nO) ++ (mW ad y b_th vN vC vNow vHaze vCold vHot vPipe vDeg vThaw vTrc vTurb vLeft vLoad vWater vTrips vMissed vBRow vBSum vCell vDirt vAim vErr vCor vBrk vTop vLm vRows vCols vDown vRight vBound vStrain vPrice vFirm vSums vRays vFalls vSom vHad)) H := hPz
    have hD : va_D (fun q : Nat => s.heap.size ≤ q) (((hW ah z y vN vC vNow vHaze vCold vHot vPipe vDeg cThaw vTrc vTurb vLeft vLoad vWater vTrips vMi1 vMi2 vSz vBs vCell vDirt vAim vErr vCor vBrk vTop vLm vRows vCols vDown vRight vBound vStrain vPrice vFirm vSums vTk vFl1 vFl2 vTe vAw vRo vBe) ++ oW o0 y a_nO) ++ (mW ad y b_th vN vC vNow vHaze vCold vHot vPipe vDeg vThaw vTrc vTurb vLeft vLoad vWater vTrips vMissed vBRow vBSum vCell vDirt vAim vErr vCor vBrk vTop vLm vRows vCols vDown vRight vBound vStrain vPrice vFirm vSums vRays vFalls vSom vHad)) := hDz
    refine lv_aload_n hx hb dL_law_1933 rfl (lv_at hl 5 rfl) ?_
    refine hz_iconst hx hb dL_law_1934 ?_
    refine hz_laldo hx hb hK hP dL_law_1935 ?_
    refine lv_lload hx hb dL_law_1936 (lv_at hl 0 rfl) ?_
    refine hz_lcmp hx hb dL_law_1938 (fun v hv => ?_)
    refine lv_if_eq (tgt := 1944) hx hb dL_law_1939 (by decide) (fun _ => ?_) (fun q => absurd (hv.mpr (congrArg zL (by omega))) q)
    refine lv_goto (tgt := 1990) hx hb dL_law_1944 (by decide) ?_
    refine W.widen (k := cells + 40) (n := slots + 400) (by omega) (by omega) ?_
    exact K z vN vC vNow vHaze vCold vHot vPipe vDeg cThaw vThaw vTrc vTurb vLeft vLoad vWater vTrips vMi1 vMi2 vSz vBs b_th vMissed vBRow vBSum vCell vDirt vAim vErr vCor vBrk vTop vLm vRows vCols vDown vRight vBound vStrain vPrice vFirm vSums vTk vFl1 vFl2 vTe vAw vRo vBe vRays vFalls vSom vHad a_nO H locs hFA0 hP hD hS ls (lv_sub hl [2, 3, 4, 5, 6] rfl)
set_option maxHeartbeats 16000000 in
set_option maxRecDepth 100000 in
theorem lw_c30 (p : Program) (l : Launch) (e : Env) (s : State) (m : MethodId) (below : List Frame) (meth : Method) (c : Code) (b L : Nat) (xs : Nat → Int32) (G : va_G) (mi zE : Nat) (y : Nat → ClassId) (ah ad : Nat → Nat) (o0 : Nat) (cells slots : Nat) (i : Int) (hQ : LC p l s m meth c b L xs G mi zE y) (hi : 0 ≤ i ∧ i + 7 ≤ L) (hroom : cells + 40 ≤ 601024 ∧ slots + 400 ≤ 7293034) (K : LK p l e s m below meth c b L xs G mi zE y ah ad o0 (cells + 40) (slots + 400) i 1990) : LK p l e s m below meth c b L xs G mi zE y ah ad o0 cells slots i 1947 := by
  intro z vN vC vNow vHaze vCold vHot vPipe vDeg cThaw vThaw vTrc vTurb vLeft vLoad vWater vTrips vMi1 vMi2 vSz vBs vThrown vMissed vBRow vBSum vCell vDirt vAim vErr vCor vBrk vTop vLm vRows vCols vDown vRight vBound vStrain vPrice vFirm vSums vTk vFl1 vFl2 vTe vAw vRo vBe vRays vFalls vSom vHad vO H locs hFA hP hD hS ls hl
  obtain ⟨hx, hb, hr, hts, hown, hml, hX0, hbl, hL, hlocks, hK, hGP, hX, hGN, hlt⟩ := hQ
  have hA : ∀ q : Nat, s.heap.size ≤ q → (fun q : Nat => s.heap.size ≤ q) q := fun _ h => h
  have hbA : ¬ (fun q : Nat => s.heap.size ≤ q) b := Nat.not_le.mpr hbl
  have hFA0 := hFA
  obtain ⟨hZ, hZe, hTk, hN, hC, hNow, hHaze, hSalt, hPipe, hDeg, hThC, hThM, hThE, hTrc, hTurb, hLeft, hLoad, hWater, hTrips, hCell, hDirt, hAim, hErr, hCor, hBrk, hTop, hLm, hRows, hCols, hDown, hRight, hBound, hStrain, hPrice, hFirm, hE0⟩ := hFA
  refine lv_aload_n hx hb dL_law_1947 rfl (lv_at hl 1 rfl) ?_
  refine hz_lawFf (As := []) (rest := []) ⟨hx, hb, hml, hown, hts⟩ (c_X7_kept l G ah z zE y _ vN vC vNow vHaze vCold vHot vPipe vDeg cThaw vTrc vTurb vLeft vLoad vWater vTrips vMi1 vMi2 vSz vBs vCell vDirt vAim vErr vCor vBrk vTop vLm vRows vCols vDown vRight vBound vStrain vPrice vFirm vSums vTk vFl1 vFl2 vTe vAw vRo vBe  ) (cwV 0 hts gL_law_X7_kept rfl rfl rfl (by decide +kernel) ⟨Nat.le_of_ble_eq_true rfl, Nat.le_of_ble_eq_true rfl⟩) hP hK hD hS hA hGP 0 8 rfl rfl rfl rfl hl.1 rfl (Nat.le_of_ble_eq_true rfl) dL_law_1948 ⟨by show cells + 0 ≤ 601024; omega, by show slots + 0 ≤ 7293034; omega⟩ (fun _ => hW_fst) (fun u H locs hu hP hD hS => ?_)
  have hP : va_P G vwCl (((hW ah z y vN vC vNow vHaze vCold vHot vPipe vDeg cThaw vTrc vTurb vLeft vLoad vWater vTrips vMi1 vMi2 vSz vBs vCell vDirt vAim vErr vCor vBrk vTop vLm vRows vCols vDown vRight vBound vStrain vPrice vFirm vSums vTk vFl1 vFl2 vTe vAw vRo vBe) ++ oW o0 y vO) ++ (mW ad y vThrown vN vC vNow vHaze vCold vHot vPipe vDeg vThaw vTrc vTurb vLeft vLoad vWater vTrips vMissed vBRow vBSum vCell vDirt vAim vErr vCor vBrk vTop vLm vRows vCols vDown vRight vBound vStrain vPrice vFirm vSums vRays vFalls vSom vHad)) H := hP
  have hD : va_D (fun q : Nat => s.heap.size ≤ q) (((hW ah z y vN vC vNow vHaze vCold vHot vPipe vDeg cThaw vTrc vTurb vLeft vLoad vWater vTrips vMi1 vMi2 vSz vBs vCell vDirt vAim vErr vCor vBrk vTop vLm vRows vCols vDown vRight vBound vStrain vPrice vFirm vSums vTk vFl1 vFl2 vTe vAw vRo vBe) ++ oW o0 y vO) ++ (mW ad y vThrown vN vC vNow vHaze vCold vHot vPipe vDeg vThaw vTrc vTurb vLeft vLoad vWater vTrips vMissed vBRow vBSum vCell vDirt vAim vErr vCor vBrk vTop vLm vRows vCols vDown vRight vBound vStrain vPrice vFirm vSums vRays vFalls vSom vHad)) := hD
  refine lv_f2d hx hb dL_law_1951 (kp_n _ _) ?_
  refine lv_dstore (lv' := [(5, .double (FP.f2d (kpL (zL (vSums 3)) (zL (vSums 4))))), (0, .ref b), (1, .ref (ah 0)), (2, .ref (ad 0)), (3, .ref o0), (4, zi i)]) hx hb dL_law_1952 hl (by decide) rfl (fun ls hl => ?_)
  refine lv_aload_n hx hb dL_law_1954 rfl (lv_at hl 3 rfl) ?_
  refine hz_lawMf (As := []) (rest := []) ⟨hx, hb, hml, hown, hts⟩ (c_X8_kept l G y ad _ vThrown vN vC vNow vHaze vCold vHot vPipe vDeg vThaw vTrc vTurb vLeft vLoad vWater vTrips vMissed vBRow vBSum vCell vDirt vAim vErr vCor vBrk vTop vLm vRows vCols vDown vRight vBound vStrain vPrice vFirm vSums vRays vFalls vSom vHad  ) (cwV 0 hts gL_law_X8_kept rfl rfl rfl (by decide +kernel) ⟨Nat.le_of_ble_eq_true rfl, Nat.le_of_ble_eq_true rfl⟩) hP hK hD hS hA 0 9 rfl rfl rfl rfl hl.1 rfl (Nat.le_of_ble_eq_true rfl) dL_law_1955 ⟨by show cells + 0 ≤ 601024; omega, by show slots + 0 ≤ 7293034; omega⟩ (fun _ => rfl) (fun u H locs hu hP hD hS => ?_)
  have hM := PLift.up hu
  clear hu
  have hP : va_P G vwCl (((hW ah z y vN vC vNow vHaze vCold vHot vPipe vDeg cThaw vTrc vTurb vLeft vLoad vWater vTrips vMi1 vMi2 vSz vBs vCell vDirt vAim vErr vCor vBrk vTop vLm vRows vCols vDown vRight vBound vStrain vPrice vFirm vSums vTk vFl1 vFl2 vTe vAw vRo vBe) ++ oW o0 y vO) ++ (mW ad y 0 vN vC vNow vHaze vCold vHot vPipe vDeg vThaw vTrc vTurb vLeft vLoad vWater vTrips vMissed vBRow vBSum vCell vDirt vAim vErr vCor vBrk vTop vLm vRows vCols vDown vRight vBound vStrain vPrice vFirm vSums vRays vFalls vSom vHad)) H := hP
  have hD : va_D (fun q : Nat => s.heap.size ≤ q) (((hW ah z y vN vC vNow vHaze vCold vHot vPipe vDeg cThaw vTrc vTurb vLeft vLoad vWater vTrips vMi1 vMi2 vSz vBs vCell vDirt vAim vErr vCor vBrk vTop vLm vRows vCols vDown vRight vBound vStrain vPrice vFirm vSums vTk vFl1 vFl2 vTe vAw vRo vBe) ++ oW o0 y vO) ++ (mW ad y 0 vN vC vNow vHaze vCold vHot vPipe vDeg vThaw vTrc vTurb vLeft vLoad vWater vTrips vMissed vBRow vBSum vCell vDirt vAim vErr vCor vBrk vTop vLm vRows vCols vDown vRight vBound vStrain vPrice vFirm vSums vRays vFalls vSom vHad)) := hD
  refine lv_f2d hx hb dL_law_1958 (kp_n _ _) ?_
  refine lv_dstore (lv' := [(7, .double (FP.f2d (kpL (zL (vSums 3)) (zL (vSums 4))))), (5, .double (FP.f2d (kpL (zL (vSums 3)) (zL (vSums 4))))), (0, .ref b), (1, .ref (ah 0)), (2, .ref (ad 0)), (3, .ref o0), (4, zi i)]) hx hb dL_law_1959 hl (by decide) rfl (fun ls hl => ?_)
  refine lv_dload hx hb dL_law_1961 (lv_at hl 1 rfl) ?_
  refine lv_dload hx hb dL_law_1963 (lv_at hl 0 rfl) ?_
  refine lv_dcmp hx hb dL_law_1965 ?_
  rw [kp_c]
  refine lv_if_eq (tgt := 1987) hx hb dL_law_1966 (by decide) (fun _ => ?_) (fun h => absurd rfl h)
  refine lv_goto (tgt := 1990) hx hb dL_law_1987 (by decide) ?_
  refine W.widen (k := cells + 40) (n := slots + 400) (by omega) (by omega) ?_
  exact K z vN vC vNow vHaze vCold vHot vPipe vDeg cThaw vThaw vTrc vTurb vLeft vLoad vWater vTrips vMi1 vMi2 vSz vBs 0 vMissed vBRow vBSum vCell vDirt vAim vErr vCor vBrk vTop vLm vRows vCols vDown vRight vBound vStrain vPrice vFirm vSums vTk vFl1 vFl2 vTe vAw vRo vBe vRays vFalls vSom vHad vO H locs hFA0 hP hD hS ls (lv_sub hl [2, 3, 4, 5, 6] rfl)
