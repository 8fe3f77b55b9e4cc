section HN
variable {p : Program} {l : Launch} {e : Env} {R : Room} {s : State} {m : MethodId} {args : Array Value} {below : List Frame} {meth : Method} {c : Code} {H H0 : Heap} {locs : List Loc} {cells slots : Nat} {Q : State → Prop} {cc : ByteArray} {pc : Nat} {ls : Array Slot} {rest : List Value} {D : va_G} {A : Nat → Prop} {tys : List (ClassId × FieldType)} {ws : va_W}
theorem hz_astN (hx : p.tables.exec = Jvm.exec) (hb : c.code = cc) (hK : va_K D vwCl tys s) (hP : va_P D vwCl ws H) (hD : va_D A ws) (hS : va_S A H0 H locs) (q0 t0 : Nat) {a : Nat} {cA : ClassId} {N : Nat} {f : Nat → Option Nat} (ha : ws[q0]? = some (a, .inl (cA, N, .inr (.inr (.inr (.inr f)))))) (ht : tys[t0]? = some (cA, .object "java/lang/Object")) {i : Int} (hn : N ≤ 2147483648) (hi : 0 ≤ i ∧ i < N) (hdg : decode cc pc = .ok (.aastore, 1))
    (kk : ∀ (H1 : Heap) (locs1 : List Loc), va_P D vwCl (ws.set q0 (a, .inl (cA, N, .inr (.inr (.inr (.inr (va_up f i.toNat none))))))) H1 → va_D A (ws.set q0 (a, .inl (cA, N, .inr (.inr (.inr (.inr (va_up f i.toNat none))))))) → va_S A H0 H1 locs1 → W p l e R s m args below meth c H1 locs1 cells slots Q (F0 m (pc + 1) ls rest)) : W p l e R s m args below meth c H locs cells slots Q (F0 m pc ls (.null :: zi i :: .ref a :: rest)) := by
  have e1 : (zI i).toNatClampNeg = i.toNat := by
    have := zI_cl (i := i) (by omega)
    omega
  refine va_astqN hx hb hK hP hD hS q0 t0 ha ht (zI_in hi hn) hdg ?_
  rw [e1]
  exact kk
end HN
def mlW (a0 : Nat) (e0 : Nat) (cap : Nat) (y : Nat → ClassId) (xm xN : Int) (fo : Nat → Option Nat) : va_W := [(a0, .inr (0, [zi xm, .ref (e0), zi xN])), (e0, .inl (y 3, cap, .inr (.inr (.inr (.inr fo)))))]
abbrev Q_Jx4a65c_clear_da8c8 (G : va_G) (a0 : Nat) (e0 : Nat) (cap : Nat) (y : Nat → ClassId) (xm xN : Int) (fo : Nat → Option Nat)  (A : Nat → Prop) : Array Value → State → Outcome → State → Prop := va_Qv (fun (u : (Nat → Option Nat)) => True) (fun (u : (Nat → Option Nat)) t => va_P G vwCl (mlW a0 e0 cap y (xm + 1) 0 u) t.heap) A
set_option maxHeartbeats 4000000 in
set_option maxRecDepth 100000 in
theorem c_Jx4a65c_clear_da8c8 (l : Launch) (G : va_G) (a0 : Nat) (e0 : Nat) (cap : Nat) (y : Nat → ClassId) (sz : Nat) (xm xN : Int) (fo : Nat → Option Nat)  (hc : 0 ≤ xN ∧ xN ≤ cap ∧ cap ≤ 1000) : Met l yJx4a65c_clear_da8c8 wsJx4a65c_clear_da8c8 ({ frames := 0, cells := 0, slots := 0, locals := 0 }) (va_Pc [.ref a0] (HPre G (tyL y) (mlW a0 e0 cap y xm xN fo) sz)) (Q_Jx4a65c_clear_da8c8 G a0 e0 cap y xm xN fo (va_A (mlW a0 e0 cap y xm xN fo) sz)) 0 0 (va_A (mlW a0 e0 cap y xm xN fo) sz) := by
  refine hz_ofW (Qf := Q_Jx4a65c_clear_da8c8 G a0 e0 cap y xm xN fo) (cc := cJx4a65c_clear_da8c8) (maxL := 4) (ret := none) (by decide) rfl (Nat.le_of_ble_eq_true rfl) ?_
  intro p e s m below meth c A ls hx hb hr hts hown hin hlocks hml hP hK hA hD hS hl
  have hown : s.vm.findClass RJx4a65c = some m.cls := hown
  have hl : lv_has ls 4 [(0, .ref a0)] := hl
  have hinwsJx4a65c0 : ∀ w ∈ wsJx4a65c0, w ∈ wsJx4a65c_clear_da8c8 := fun _ h => List.mem_cons_of_mem _ (List.mem_append_right _ (h))
  refine lv_aload_n hx hb dJx4a65c_clear_da8c8_0 rfl (lv_at hl 0 rfl) ?_
  refine lv_dup hx hb dJx4a65c_clear_da8c8_1 rfl ?_
  refine va_get (D := G) (ci := 0) (v := zi xm) (C := RJx4a65c) (T := TJx4a65c) (N := 3) hx hb hts hinwsJx4a65c0 hown hK hP 0 rfl rfl 0 (by decide) (hts (.fieldLink RJx4a65c 63 "java/util/ArrayList" "modCount" "I") (List.mem_of_getElem? (i := 1) rfl)) (fun x9 h9 => u_same (hts (.sameField "java/util/ArrayList" "java/util/AbstractList" "modCount" "I") (List.mem_of_getElem? (i := 2) rfl)) x9 h9) rfl dJx4a65c_clear_da8c8_2 ?_
  refine hz_iconst hx hb dJx4a65c_clear_da8c8_5 ?_
  refine hz_iadd hx hb dJx4a65c_clear_da8c8_6 ?_
  refine va_put (D := G) (ci := 0) (v := zi (xm + 1)) (ty := .int) (C := RJx4a65c) (T := TJx4a65c) (N := 3) hx hb hts hinwsJx4a65c0 tyJx4a65c tyJx4a65c_ok nmJx4a65c hown hK hP hD hS 0 rfl rfl 0 (by decide) (hts (.fieldLink RJx4a65c 63 "java/util/ArrayList" "modCount" "I") (List.mem_of_getElem? (i := 1) rfl)) (fun x9 h9 => u_same (hts (.sameField "java/util/ArrayList" "java/util/AbstractList" "modCount" "I") (List.mem_of_getElem? (i := 2) rfl)) x9 h9) rfl (by decide +kernel) rfl rfl (Nat.le_of_ble_eq_true rfl) dJx4a65c_clear_da8c8_7 (fun H locs hP hD hS => ?_)
  have hP : va_P G vwCl (mlW a0 e0 cap y (xm + 1) xN fo) H := hP
  have hD : va_D A (mlW a0 e0 cap y (xm + 1) xN fo) := hD
  refine lv_aload_n hx hb dJx4a65c_clear_da8c8_10 rfl (lv_at hl 0 rfl) ?_
  refine va_get (D := G) (ci := 0) (v := .ref e0) (C := RJx4a65c) (T := TJx4a65c) (N := 3) hx hb hts hinwsJx4a65c0 hown hK hP 0 rfl rfl 1 (by decide) (hts (.fieldLink RJx4a65c 9 "java/util/ArrayList" "elementData" "[Ljava/lang/Object;") (List.mem_of_getElem? (i := 3) rfl)) (fun _ h9 => h9) rfl dJx4a65c_clear_da8c8_11 ?_
  refine lv_astore_n (lv' := [(1, .ref e0), (0, .ref a0)]) hx hb dJx4a65c_clear_da8c8_14 rfl hl (by decide) rfl (fun ls hl => ?_)
  refine lv_aload_n hx hb dJx4a65c_clear_da8c8_15 rfl (lv_at hl 1 rfl) ?_
  refine va_get (D := G) (ci := 0) (v := zi xN) (C := RJx4a65c) (T := TJx4a65c) (N := 3) hx hb hts hinwsJx4a65c0 hown hK hP 0 rfl rfl 2 (by decide) (hts (.fieldLink RJx4a65c 48 "java/util/ArrayList" "size" "I") (List.mem_of_getElem? (i := 4) rfl)) (fun _ h9 => h9) rfl dJx4a65c_clear_da8c8_16 ?_
  refine lv_istore_n (lv' := [(2, zi xN), (1, .ref e0), (0, .ref a0)]) hx hb dJx4a65c_clear_da8c8_19 rfl hl (by decide) rfl (fun ls hl => ?_)
  refine lv_aload_n hx hb dJx4a65c_clear_da8c8_20 rfl (lv_at hl 2 rfl) ?_
  refine hz_iconst hx hb dJx4a65c_clear_da8c8_21 ?_
  refine lv_dup_x1 hx hb dJx4a65c_clear_da8c8_22 rfl rfl ?_
  refine va_put (D := G) (ci := 0) (v := zi 0) (ty := .int) (C := RJx4a65c) (T := TJx4a65c) (N := 3) hx hb hts hinwsJx4a65c0 tyJx4a65c tyJx4a65c_ok nmJx4a65c hown hK hP hD hS 0 rfl rfl 2 (by decide) (hts (.fieldLink RJx4a65c 48 "java/util/ArrayList" "size" "I") (List.mem_of_getElem? (i := 4) rfl)) (fun _ h9 => h9) rfl (by decide +kernel) rfl rfl (Nat.le_of_ble_eq_true rfl) dJx4a65c_clear_da8c8_23 (fun H locs hP hD hS => ?_)
  have hP : va_P G vwCl (mlW a0 e0 cap y (xm + 1) 0 fo) H := hP
  have hD : va_D A (mlW a0 e0 cap y (xm + 1) 0 fo) := hD
  refine lv_istore_n (lv' := [(3, zi 0), (2, zi xN), (1, .ref e0), (0, .ref a0)]) hx hb dJx4a65c_clear_da8c8_26 rfl hl (by decide) rfl (fun ls hl => ?_)
  have L27 : ∀ (n : Nat) (k : Int) (g : Nat → Option Nat) (H : Heap) (locs : List Loc), (0 ≤ k ∧ k ≤ xN) → ((xN - k).toNat) < n → va_P G vwCl (mlW a0 e0 cap y (xm + 1) 0 g) H → va_D A (mlW a0 e0 cap y (xm + 1) 0 g) → va_S A s.heap H locs → ∀ ls : Array Slot, lv_has ls 4 [(1, .ref e0), (2, zi xN), (3, zi k)] → W p l e (headSpec wsJx4a65c_clear_da8c8 ({ frames := 0, cells := 0, slots := 0, locals := 0 })).room s m ([.ref a0] : List Value).toArray below meth c H locs 0 0 (MQ below (Q_Jx4a65c_clear_da8c8 G a0 e0 cap y xm xN fo A) ([.ref a0] : List Value).toArray s 0 0 A) (F0 m 27 ls []) := by
    intro n
    induction n with
    | zero => exact fun k g H locs h_k27 hm => absurd hm (Nat.not_lt_zero _)
    | succ n ih27 =>
      intro k g H locs h_k27 hm27 hP hD hS ls hl
      refine lv_iload_n hx hb dJx4a65c_clear_da8c8_27 rfl (lv_at hl 2 rfl) ?_
      refine lv_iload_n hx hb dJx4a65c_clear_da8c8_28 rfl (lv_at hl 1 rfl) ?_
      refine hz_icmp_ge (tgt := 42) hx hb dJx4a65c_clear_da8c8_29 (by decide) (by omega) (fun c1 => ?_) (fun c1 => ?_)
      · exact W.vret hx hb hr (fun t ht hW => ⟨⟨(g), rfl, trivial, hz_at hP ht⟩, hS.F ht⟩) hS.2.2 dJx4a65c_clear_da8c8_42
      · refine lv_aload_n hx hb dJx4a65c_clear_da8c8_32 rfl (lv_at hl 0 rfl) ?_
        refine lv_iload_n hx hb dJx4a65c_clear_da8c8_33 rfl (lv_at hl 2 rfl) ?_
        refine lv_null hx hb dJx4a65c_clear_da8c8_34 ?_
        refine hz_astN hx hb hK hP hD hS 1 3 rfl rfl (by omega) (by omega) dJx4a65c_clear_da8c8_35 (fun H locs hP hD hS => ?_)
        have hP : va_P G vwCl (mlW a0 e0 cap y (xm + 1) 0 (va_up g (k : Int).toNat none)) H := hP
        have hD : va_D A (mlW a0 e0 cap y (xm + 1) 0 (va_up g (k : Int).toNat none)) := hD
        refine hz_iinc (v := (k + 1)) (lv' := [(3, zi (k + 1)), (1, .ref e0), (2, zi xN)]) hx hb dJx4a65c_clear_da8c8_36 hl (k := 2) rfl (by omega) (by decide) rfl (fun ls hl => ?_)
        refine lv_goto (tgt := 27) hx hb dJx4a65c_clear_da8c8_39 (by decide) ?_
        exact ih27 (k + 1) (va_up g (k : Int).toNat none) _ _ (by omega) (by omega) hP hD hS ls (lv_sub hl [1, 2, 0] rfl)
  exact L27 _ 0 fo _ _ (by omega) (Nat.lt_succ_self _) hP hD hS ls (lv_sub hl [2, 1, 0] rfl)
