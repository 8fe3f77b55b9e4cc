abbrev Q_X0_open (G : va_G) (s0 : Nat) (s1 : Nat) (s2 : Nat) (s3 : Nat) (s4 : Nat) (s5 : Nat) (s6 : Nat) (y : Nat → ClassId) (xS xT xM : Int) (xF xTe xAw xRo xBe : Int → Int)  (A : Nat → Prop) : Array Value → State → Outcome → State → Prop := va_Qv (fun (u : Unit) => True) (fun (u : Unit) t => va_P G vwCl (seW s0 s1 s2 s3 s4 s5 s6 y 0 xT xM xF xTe xAw xRo xBe) t.heap) A
set_option maxHeartbeats 4000000 in
set_option maxRecDepth 100000 in
theorem c_X0_open (l : Launch) (G : va_G) (s0 : Nat) (s1 : Nat) (s2 : Nat) (s3 : Nat) (s4 : Nat) (s5 : Nat) (s6 : Nat) (y : Nat → ClassId) (sz : Nat) (xS xT xM : Int) (xF xTe xAw xRo xBe : Int → Int)   : Met l yX0_open wsX0_open ({ frames := 0, cells := 0, slots := 0, locals := 0 }) (va_Pc [.ref s0] (HPre G (tyL y) (seW s0 s1 s2 s3 s4 s5 s6 y xS xT xM xF xTe xAw xRo xBe) sz)) (Q_X0_open G s0 s1 s2 s3 s4 s5 s6 y xS xT xM xF xTe xAw xRo xBe (va_A (seW s0 s1 s2 s3 s4 s5 s6 y xS xT xM xF xTe xAw xRo xBe) sz)) 0 0 (va_A (seW s0 s1 s2 s3 s4 s5 s6 y xS xT xM xF xTe xAw xRo xBe) sz) := by
  refine hz_ofW (Qf := Q_X0_open G s0 s1 s2 s3 s4 s5 s6 y xS xT xM xF xTe xAw xRo xBe) (cc := cX0_open) (maxL := 1) (ret := none) (by decide) rfl (Nat.le_of_ble_eq_true rfl) ?_
  intro p e s m below meth c A ls hx hb hr hts hown hin hlocks hml hP hK hA hD hS hl
  have hown : s.vm.findClass RX0 = some m.cls := hown
  have hl : lv_has ls 1 [(0, .ref s0)] := hl
  have hinwsX00 : ∀ w ∈ wsX00, w ∈ wsX0_open := fun _ h => List.mem_cons_of_mem _ (List.mem_append_right _ (h))
  refine lv_aload_n hx hb dX0_open_0 rfl (lv_at hl 0 rfl) ?_
  refine hz_iconst hx hb dX0_open_1 ?_
  refine va_put (D := G) (ci := 1) (v := zi 0) (ty := .int) (C := RX0) (T := TX0) (N := 7) hx hb hts hinwsX00 tyX0 tyX0_ok nmX0 hown hK hP hD hS 0 rfl rfl 5 (by decide) (hts (.fieldLink RX0 31 "Heliokeep$AimSearch" "size" "I") (List.mem_of_getElem? (i := 1) rfl)) (fun _ h9 => h9) rfl (by decide +kernel) rfl rfl (Nat.le_of_ble_eq_true rfl) dX0_open_2 (fun H locs hP hD hS => ?_)
  have hP : va_P G vwCl (seW s0 s1 s2 s3 s4 s5 s6 y 0 xT xM xF xTe xAw xRo xBe) H := hP
  have hD : va_D A (seW s0 s1 s2 s3 s4 s5 s6 y 0 xT xM xF xTe xAw xRo xBe) := hD
  exact W.vret hx hb hr (fun t ht hW => ⟨⟨(), rfl, trivial, hz_at hP ht⟩, hS.F ht⟩) hS.2.2 dX0_open_5
abbrev Q_X0_add (G : va_G) (s0 : Nat) (s1 : Nat) (s2 : Nat) (s3 : Nat) (s4 : Nat) (s5 : Nat) (s6 : Nat) (y : Nat → ClassId) (xS xT xM : Int) (xF xTe xAw xRo xBe : Int → Int) (tenth : Int) (aw1 : Int) (A : Nat → Prop) : Array Value → State → Outcome → State → Prop := va_Qv (fun (u : Unit) => True) (fun (u : Unit) t => va_P G vwCl (seW s0 s1 s2 s3 s4 s5 s6 y (xS + 1) xT xM xF (upZ xTe xS tenth) (upZ xAw xS aw1) xRo xBe) t.heap) A
set_option maxHeartbeats 4000000 in
set_option maxRecDepth 100000 in
theorem c_X0_add (l : Launch) (G : va_G) (s0 : Nat) (s1 : Nat) (s2 : Nat) (s3 : Nat) (s4 : Nat) (s5 : Nat) (s6 : Nat) (y : Nat → ClassId) (sz : Nat) (xS xT xM : Int) (xF xTe xAw xRo xBe : Int → Int) (tenth : Int) (aw1 : Int) (hs : 0 ≤ xS ∧ xS ≤ 3) : Met l yX0_add wsX0_add ({ frames := 0, cells := 0, slots := 0, locals := 0 }) (va_Pc [.ref s0, zi tenth, zi aw1] (HPre G (tyL y) (seW s0 s1 s2 s3 s4 s5 s6 y xS xT xM xF xTe xAw xRo xBe) sz)) (Q_X0_add G s0 s1 s2 s3 s4 s5 s6 y xS xT xM xF xTe xAw xRo xBe tenth aw1 (va_A (seW s0 s1 s2 s3 s4 s5 s6 y xS xT xM xF xTe xAw xRo xBe) sz)) 0 0 (va_A (seW s0 s1 s2 s3 s4 s5 s6 y xS xT xM xF xTe xAw xRo xBe) sz) := by
  refine hz_ofW (Qf := Q_X0_add G s0 s1 s2 s3 s4 s5 s6 y xS xT xM xF xTe xAw xRo xBe tenth aw1) (cc := cX0_add) (maxL := 3) (ret := none) (by decide) rfl (Nat.le_of_ble_eq_true rfl) ?_
  intro p e s m below meth c A ls hx hb hr hts hown hin hlocks hml hP hK hA hD hS hl
  have hown : s.vm.findClass RX0 = some m.cls := hown
  have hl : lv_has ls 3 [(0, .ref s0), (1, zi tenth), (2, zi aw1)] := hl
  have hinwsX00 : ∀ w ∈ wsX00, w ∈ wsX0_add := fun _ h => List.mem_cons_of_mem _ (List.mem_append_right _ (h))
  refine lv_aload_n hx hb dX0_add_0 rfl (lv_at hl 0 rfl) ?_
  refine va_get (D := G) (ci := 1) (v := zi xS) (C := RX0) (T := TX0) (N := 7) hx hb hts hinwsX00 hown hK hP 0 rfl rfl 5 (by decide) (hts (.fieldLink RX0 31 "Heliokeep$AimSearch" "size" "I") (List.mem_of_getElem? (i := 1) rfl)) (fun _ h9 => h9) rfl dX0_add_1 ?_
  refine hz_iconst hx hb dX0_add_4 ?_
  refine hz_icmp_lt (tgt := 9) hx hb dX0_add_5 (by decide) (by omega) (fun c1 => ?_) (fun q => absurd q (by omega))
  refine lv_aload_n hx hb dX0_add_9 rfl (lv_at hl 0 rfl) ?_
  refine va_get (D := G) (ci := 1) (v := .ref s3) (C := RX0) (T := TX0) (N := 7) hx hb hts hinwsX00 hown hK hP 0 rfl rfl 1 (by decide) (hts (.fieldLink RX0 18 "Heliokeep$AimSearch" "tenths" "[I") (List.mem_of_getElem? (i := 2) rfl)) (fun _ h9 => h9) rfl dX0_add_10 ?_
  refine lv_aload_n hx hb dX0_add_13 rfl (lv_at hl 0 rfl) ?_
  refine va_get (D := G) (ci := 1) (v := zi xS) (C := RX0) (T := TX0) (N := 7) hx hb hts hinwsX00 hown hK hP 0 rfl rfl 5 (by decide) (hts (.fieldLink RX0 31 "Heliokeep$AimSearch" "size" "I") (List.mem_of_getElem? (i := 1) rfl)) (fun _ h9 => h9) rfl dX0_add_14 ?_
  refine lv_iload_n hx hb dX0_add_17 rfl (lv_at hl 1 rfl) ?_
  refine hz_iast (f := xTe) hx hb hK hP hD hS 3 0 rfl rfl (Nat.le_of_ble_eq_true rfl) (by omega) dX0_add_18 (fun H locs hP hD hS => ?_)
  have hP : va_P G vwCl (seW s0 s1 s2 s3 s4 s5 s6 y xS xT xM xF (upZ xTe xS tenth) xAw xRo xBe) H := hP
  have hD : va_D A (seW s0 s1 s2 s3 s4 s5 s6 y xS xT xM xF (upZ xTe xS tenth) xAw xRo xBe) := hD
  refine lv_aload_n hx hb dX0_add_19 rfl (lv_at hl 0 rfl) ?_
  refine va_get (D := G) (ci := 1) (v := .ref s4) (C := RX0) (T := TX0) (N := 7) hx hb hts hinwsX00 hown hK hP 0 rfl rfl 2 (by decide) (hts (.fieldLink RX0 22 "Heliokeep$AimSearch" "awry" "[I") (List.mem_of_getElem? (i := 3) rfl)) (fun _ h9 => h9) rfl dX0_add_20 ?_
  refine lv_aload_n hx hb dX0_add_23 rfl (lv_at hl 0 rfl) ?_
  refine va_get (D := G) (ci := 1) (v := zi xS) (C := RX0) (T := TX0) (N := 7) hx hb hts hinwsX00 hown hK hP 0 rfl rfl 5 (by decide) (hts (.fieldLink RX0 31 "Heliokeep$AimSearch" "size" "I") (List.mem_of_getElem? (i := 1) rfl)) (fun _ h9 => h9) rfl dX0_add_24 ?_
  refine lv_iload_n hx hb dX0_add_27 rfl (lv_at hl 2 rfl) ?_
  refine hz_iast (f := xAw) hx hb hK hP hD hS 4 0 rfl rfl (Nat.le_of_ble_eq_true rfl) (by omega) dX0_add_28 (fun H locs hP hD hS => ?_)
  have hP : va_P G vwCl (seW s0 s1 s2 s3 s4 s5 s6 y xS xT xM xF (upZ xTe xS tenth) (upZ xAw xS aw1) xRo xBe) H := hP
  have hD : va_D A (seW s0 s1 s2 s3 s4 s5 s6 y xS xT xM xF (upZ xTe xS tenth) (upZ xAw xS aw1) xRo xBe) := hD
  refine lv_aload_n hx hb dX0_add_29 rfl (lv_at hl 0 rfl) ?_
  refine lv_dup hx hb dX0_add_30 rfl ?_
  refine va_get (D := G) (ci := 1) (v := zi xS) (C := RX0) (T := TX0) (N := 7) hx hb hts hinwsX00 hown hK hP 0 rfl rfl 5 (by decide) (hts (.fieldLink RX0 31 "Heliokeep$AimSearch" "size" "I") (List.mem_of_getElem? (i := 1) rfl)) (fun _ h9 => h9) rfl dX0_add_31 ?_
  refine hz_iconst hx hb dX0_add_34 ?_
  refine hz_iadd hx hb dX0_add_35 ?_
  refine va_put (D := G) (ci := 1) (v := zi (xS + 1)) (ty := .int) (C := RX0) (T := TX0) (N := 7) hx hb hts hinwsX00 tyX0 tyX0_ok nmX0 hown hK hP hD hS 0 rfl rfl 5 (by decide) (hts (.fieldLink RX0 31 "Heliokeep$AimSearch" "size" "I") (List.mem_of_getElem? (i := 1) rfl)) (fun _ h9 => h9) rfl (by decide +kernel) rfl rfl (Nat.le_of_ble_eq_true rfl) dX0_add_36 (fun H locs hP hD hS => ?_)
  have hP : va_P G vwCl (seW s0 s1 s2 s3 s4 s5 s6 y (xS + 1) xT xM xF (upZ xTe xS tenth) (upZ xAw xS aw1) xRo xBe) H := hP
  have hD : va_D A (seW s0 s1 s2 s3 s4 s5 s6 y (xS + 1) xT xM xF (upZ xTe xS tenth) (upZ xAw xS aw1) xRo xBe) := hD
  exact W.vret hx hb hr (fun t ht hW => ⟨⟨(), rfl, trivial, hz_at hP ht⟩, hS.F ht⟩) hS.2.2 dX0_add_39
set_option maxHeartbeats 4000000 in
set_option maxRecDepth 100000 in
theorem c_X0_bestAim (l : Launch) (G : va_G) (s0 : Nat) (s1 : Nat) (s2 : Nat) (s3 : Nat) (s4 : Nat) (s5 : Nat) (s6 : Nat) (y : Nat → ClassId) (xS xT xM : Int) (xF xTe xAw xRo xBe : Int → Int) (which : Int) (rwhich : -2147483648 ≤ which ∧ which < 2147483648) (hs : 0 ≤ xS ∧ xS ≤ 4) : Met l yX0_bestAim wsX0_bestAim ({ frames := 0, cells := 0, slots := 0, locals := 0 }) (va_Pc [.ref s0, zi which] (HPr G (tyL y) (seW s0 s1 s2 s3 s4 s5 s6 y xS xT xM xF xTe xAw xRo xBe))) (vp_Si (fun r => r = zI ((if 0 ≤ which ∧ which < xS then xBe which else -1)))) 0 0 (fun _ => False) := by
  refine hz_ofR (cc := cX0_bestAim) (maxL := 2) (ret := (some .int)) (by decide) rfl (Nat.le_of_ble_eq_true rfl) ?_
  intro p e s m below meth c ls hx hb hr hts hown hlocks hml hP hK hl
  have hown : s.vm.findClass RX0 = some m.cls := hown
  have hl : lv_has ls 2 [(0, .ref s0), (1, zi which)] := hl
  have hinwsX00 : ∀ w ∈ wsX00, w ∈ wsX0_bestAim := fun _ h => List.mem_cons_of_mem _ (List.mem_append_right _ (h))
  refine lv_iload_n hx hb dX0_bestAim_0 rfl (lv_at hl 1 rfl) ?_
  refine hz_if_lt (tgt := 21) hx hb dX0_bestAim_1 (by decide) (by omega) (fun c1 => ?_) (fun c1 => ?_)
  · refine hz_iconst hx hb dX0_bestAim_21 ?_
    exact W.iret (v := zI (-1)) hx hb hr (fun t ht hW => ⟨zI (-1), rfl, congrArg zI (by first | exact (if_pos (by omega)).symm | exact (if_neg (by omega)).symm), ht⟩) (fun q hq => absurd hq List.not_mem_nil) dX0_bestAim_22
  · refine lv_iload_n hx hb dX0_bestAim_4 rfl (lv_at hl 1 rfl) ?_
    refine lv_aload_n hx hb dX0_bestAim_5 rfl (lv_at hl 0 rfl) ?_
    refine va_get (D := G) (ci := 1) (v := zi xS) (C := RX0) (T := TX0) (N := 7) hx hb hts hinwsX00 hown hK hP 0 rfl rfl 5 (by decide) (hts (.fieldLink RX0 31 "Heliokeep$AimSearch" "size" "I") (List.mem_of_getElem? (i := 1) rfl)) (fun _ h9 => h9) rfl dX0_bestAim_6 ?_
    refine hz_icmp_ge (tgt := 21) hx hb dX0_bestAim_9 (by decide) (by omega) (fun c2 => ?_) (fun c2 => ?_)
    · refine hz_iconst hx hb dX0_bestAim_21 ?_
      exact W.iret (v := zI (-1)) hx hb hr (fun t ht hW => ⟨zI (-1), rfl, congrArg zI (by first | exact (if_pos (by omega)).symm | exact (if_neg (by omega)).symm), ht⟩) (fun q hq => absurd hq List.not_mem_nil) dX0_bestAim_22
    · refine lv_aload_n hx hb dX0_bestAim_12 rfl (lv_at hl 0 rfl) ?_
      refine va_get (D := G) (ci := 1) (v := .ref s6) (C := RX0) (T := TX0) (N := 7) hx hb hts hinwsX00 hown hK hP 0 rfl rfl 4 (by decide) (hts (.fieldLink RX0 28 "Heliokeep$AimSearch" "bestRow" "[I") (List.mem_of_getElem? (i := 2) rfl)) (fun _ h9 => h9) rfl dX0_bestAim_13 ?_
      refine lv_iload_n hx hb dX0_bestAim_16 rfl (lv_at hl 1 rfl) ?_
      refine hz_iald (f := xBe) hx hb hK hP 6 0 rfl rfl (Nat.le_of_ble_eq_true rfl) (by omega) dX0_bestAim_17 ?_
      refine lv_goto (tgt := 22) hx hb dX0_bestAim_18 (by decide) ?_
      exact W.iret (v := zI (xBe which)) hx hb hr (fun t ht hW => ⟨zI (xBe which), rfl, congrArg zI (by first | exact (if_pos (by omega)).symm | exact (if_neg (by omega)).symm), ht⟩) (fun q hq => absurd hq List.not_mem_nil) dX0_bestAim_22
set_option maxHeartbeats 4000000 in
set_option maxRecDepth 100000 in
theorem c_X0_mostFrom (l : Launch) (G : va_G) (s0 : Nat) (s1 : Nat) (s2 : Nat) (s3 : Nat) (s4 : Nat) (s5 : Nat) (s6 : Nat) (y : Nat → ClassId) (xS xT xM : Int) (xF xTe xAw xRo xBe : Int → Int) (d : Int) (hd : 0 ≤ d ∧ d ≤ xS ∧ xS ≤ 4) : Met l yX0_mostFrom wsX0_mostFrom ({ frames := 0, cells := 0, slots := 0, locals := 0 }) (va_Pc [.ref s0, zi d] (HPr G (tyL y) (seW s0 s1 s2 s3 s4 s5 s6 y xS xT xM xF xTe xAw xRo xBe))) (vp_Si (fun r => r = zI (10 * (smZ xTe xS.toNat - smZ xTe d.toNat)))) 0 0 (fun _ => False) := by
  refine hz_ofR (cc := cX0_mostFrom) (maxL := 4) (ret := (some .int)) (by decide) rfl (Nat.le_of_ble_eq_true rfl) ?_
  intro p e s m below meth c ls hx hb hr hts hown hlocks hml hP hK hl
  have hown : s.vm.findClass RX0 = some m.cls := hown
  have hl : lv_has ls 4 [(0, .ref s0), (1, zi d)] := hl
  have hinwsX00 : ∀ w ∈ wsX00, w ∈ wsX0_mostFrom := fun _ h => List.mem_cons_of_mem _ (List.mem_append_right _ (h))
  refine hz_iconst hx hb dX0_mostFrom_0 ?_
  refine lv_istore_n (lv' := [(2, zi 0), (0, .ref s0), (1, zi d)]) hx hb dX0_mostFrom_1 rfl hl (by decide) rfl (fun ls hl => ?_)
  refine lv_iload_n hx hb dX0_mostFrom_2 rfl (lv_at hl 2 rfl) ?_
  refine lv_istore_n (lv' := [(3, zi d), (2, zi 0), (0, .ref s0), (1, zi d)]) hx hb dX0_mostFrom_3 rfl hl (by decide) rfl (fun ls hl => ?_)
  have L4 : ∀ (n : Nat) (mo : Int) (k : Int), (d ≤ k ∧ k ≤ xS) → (mo = 10 * (smZ xTe k.toNat - smZ xTe d.toNat)) → ((xS - k).toNat) < n → ∀ ls : Array Slot, lv_has ls 4 [(0, .ref s0), (2, zi mo), (3, zi k)] → W p l e (headSpec wsX0_mostFrom ({ frames := 0, cells := 0, slots := 0, locals := 0 })).room s m ([.ref s0, zi d] : List Value).toArray below meth c s.heap [] 0 0 (MQ below (vp_Si (fun r => r = zI (10 * (smZ xTe xS.toNat - smZ xTe d.toNat)))) ([.ref s0, zi d] : List Value).toArray s 0 0 (fun _ => False)) (F0 m 4 ls []) := by
    intro n
    induction n with
    | zero => exact fun mo k h_k4 h_c4 hm => absurd hm (Nat.not_lt_zero _)
    | succ n ih4 =>
      intro mo k h_k4 h_c4 hm4 ls hl
      refine lv_iload_n hx hb dX0_mostFrom_4 rfl (lv_at hl 2 rfl) ?_
      refine lv_aload_n hx hb dX0_mostFrom_5 rfl (lv_at hl 0 rfl) ?_
      refine va_get (D := G) (ci := 1) (v := zi xS) (C := RX0) (T := TX0) (N := 7) hx hb hts hinwsX00 hown hK hP 0 rfl rfl 5 (by decide) (hts (.fieldLink RX0 31 "Heliokeep$AimSearch" "size" "I") (List.mem_of_getElem? (i := 1) rfl)) (fun _ h9 => h9) rfl dX0_mostFrom_6 ?_
      refine hz_icmp_ge (tgt := 30) hx hb dX0_mostFrom_9 (by decide) (by omega) (fun c1 => ?_) (fun c1 => ?_)
      · refine lv_iload_n hx hb dX0_mostFrom_30 rfl (lv_at hl 1 rfl) ?_
        exact W.iret (v := zI mo) hx hb hr (fun t ht hW => ⟨zI mo, rfl, congrArg zI (by rw [h_c4, show k = xS from by omega]), ht⟩) (fun q hq => absurd hq List.not_mem_nil) dX0_mostFrom_31
      · refine lv_iload_n hx hb dX0_mostFrom_12 rfl (lv_at hl 1 rfl) ?_
        refine hz_bipush hx hb dX0_mostFrom_13 (by decide) ?_
        refine lv_aload_n hx hb dX0_mostFrom_15 rfl (lv_at hl 0 rfl) ?_
        refine va_get (D := G) (ci := 1) (v := .ref s3) (C := RX0) (T := TX0) (N := 7) hx hb hts hinwsX00 hown hK hP 0 rfl rfl 1 (by decide) (hts (.fieldLink RX0 18 "Heliokeep$AimSearch" "tenths" "[I") (List.mem_of_getElem? (i := 2) rfl)) (fun _ h9 => h9) rfl dX0_mostFrom_16 ?_
        refine lv_iload_n hx hb dX0_mostFrom_19 rfl (lv_at hl 2 rfl) ?_
        refine hz_iald (f := xTe) hx hb hK hP 3 0 rfl rfl (Nat.le_of_ble_eq_true rfl) (by omega) dX0_mostFrom_20 ?_
        refine hz_imul hx hb dX0_mostFrom_21 ?_
        refine hz_iadd hx hb dX0_mostFrom_22 ?_
        refine lv_istore_n (lv' := [(2, zi (mo + (10 * (xTe k)))), (0, .ref s0), (3, zi k)]) hx hb dX0_mostFrom_23 rfl hl (by decide) rfl (fun ls hl => ?_)
        refine hz_iinc (v := (k + 1)) (lv' := [(3, zi (k + 1)), (2, zi (mo + (10 * (xTe k)))), (0, .ref s0)]) hx hb dX0_mostFrom_24 hl (k := 2) rfl (by omega) (by decide) rfl (fun ls hl => ?_)
        refine lv_goto (tgt := 4) hx hb dX0_mostFrom_27 (by decide) ?_
        exact ih4 (mo + (10 * (xTe k))) (k + 1) (by omega) (by rw [smZ_s (by omega), h_c4]; omega) (by omega) ls (lv_sub hl [2, 1, 0] rfl)
  exact L4 _ 0 d (by omega) (by omega) (Nat.lt_succ_self _) ls (lv_sub hl [2, 1, 0] rfl)
abbrev Q_X0_shine (G : va_G) (s0 : Nat) (s1 : Nat) (s2 : Nat) (s3 : Nat) (s4 : Nat) (s5 : Nat) (s6 : Nat) (y : Nat → ClassId) (xS xT xM : Int) (xF xTe xAw xRo xBe : Int → Int) (wh : Int) (at1 : Int) (sg : Int) (A : Nat → Prop) : Array Value → State → Outcome → State → Prop := va_Qv (fun (u : (Int → Int) × Int) => (∀ q : Int, 0 ≤ q → q ≤ 5 → u.1 q = xF q + (if at1 = -1 then 0 else raZ (at1 + xAw wh) (sg * xTe wh) q))) (fun (u : (Int → Int) × Int) t => va_P G vwCl (seW s0 s1 s2 s3 s4 s5 s6 y xS xT u.2 u.1 xTe xAw xRo xBe) t.heap) A
set_option maxHeartbeats 4000000 in
set_option maxRecDepth 100000 in
theorem c_X0_shine (l : Launch) (G : va_G) (s0 : Nat) (s1 : Nat) (s2 : Nat) (s3 : Nat) (s4 : Nat) (s5 : Nat) (s6 : Nat) (y : Nat → ClassId) (sz : Nat) (xS xT xM : Int) (xF xTe xAw xRo xBe : Int → Int) (wh : Int) (at1 : Int) (sg : Int) (hw : 0 ≤ wh ∧ wh ≤ 3) (ha : -1 ≤ at1 ∧ at1 ≤ 5) (haw : -6 ≤ xAw wh ∧ xAw wh ≤ 6) : Met l yX0_shine wsX0_shine ({ frames := 2, cells := 0, slots := 0, locals := 44 }) (va_Pc [.ref s0, zi wh, zi at1, zi sg] (HPre G (tyL y) (seW s0 s1 s2 s3 s4 s5 s6 y xS xT xM xF xTe xAw xRo xBe) sz)) (Q_X0_shine G s0 s1 s2 s3 s4 s5 s6 y xS xT xM xF xTe xAw xRo xBe wh at1 sg (va_A (seW s0 s1 s2 s3 s4 s5 s6 y xS xT xM xF xTe xAw xRo xBe) sz)) 0 0 (va_A (seW s0 s1 s2 s3 s4 s5 s6 y xS xT xM xF xTe xAw xRo xBe) sz) := by
  refine hz_ofW (Qf := Q_X0_shine G s0 s1 s2 s3 s4 s5 s6 y xS xT xM xF xTe xAw xRo xBe wh at1 sg) (cc := cX0_shine) (maxL := 4) (ret := none) (by decide) rfl (Nat.le_of_ble_eq_true rfl) ?_
  intro p e s m below meth c A ls hx hb hr hts hown hin hlocks hml hP hK hA hD hS hl
  have hown : s.vm.findClass RX0 = some m.cls := hown
  have hl : lv_has ls 4 [(0, .ref s0), (1, zi wh), (2, zi at1), (3, zi sg)] := hl
  have hinwsX00 : ∀ w ∈ wsX00, w ∈ wsX0_shine := fun _ h => List.mem_cons_of_mem _ (List.mem_append_left _ (List.mem_append_right _ (h)))
  have hinwsX30 : ∀ w ∈ wsX30, w ∈ wsX0_shine := fun _ h => List.mem_cons_of_mem _ (List.mem_append_right _ (h))
  refine lv_iload_n hx hb dX0_shine_0 rfl (lv_at hl 2 rfl) ?_
  refine hz_iconst hx hb dX0_shine_1 ?_
  refine hz_icmp_eq (tgt := 28) hx hb dX0_shine_2 (by decide) (by omega) (fun c1 => ?_) (fun c1 => ?_)
  · exact W.vret hx hb hr (fun t ht hW => ⟨⟨(xF, xM), rfl, (show ∀ q : Int, 0 ≤ q → q ≤ 5 → xF q = xF q + (if at1 = -1 then 0 else raZ (at1 + xAw wh) (sg * xTe wh) q) from by
          intro q h0 h1
          rw [if_pos (by omega)]
          omega), hz_at hP ht⟩, hS.F ht⟩) hS.2.2 dX0_shine_28
  · refine lv_aload_n hx hb dX0_shine_5 rfl (lv_at hl 0 rfl) ?_
    refine va_get (D := G) (ci := 1) (v := .ref s1) (C := RX0) (T := TX0) (N := 7) hx hb hts hinwsX00 hown hK hP 0 rfl rfl 0 (by decide) (hts (.fieldLink RX0 12 "Heliokeep$AimSearch" "light" "LHeliokeep$Light;") (List.mem_of_getElem? (i := 1) rfl)) (fun _ h9 => h9) rfl dX0_shine_6 ?_
    refine lv_iload_n hx hb dX0_shine_9 rfl (lv_at hl 2 rfl) ?_
    refine lv_aload_n hx hb dX0_shine_10 rfl (lv_at hl 0 rfl) ?_
    refine va_get (D := G) (ci := 1) (v := .ref s4) (C := RX0) (T := TX0) (N := 7) hx hb hts hinwsX00 hown hK hP 0 rfl rfl 2 (by decide) (hts (.fieldLink RX0 22 "Heliokeep$AimSearch" "awry" "[I") (List.mem_of_getElem? (i := 2) rfl)) (fun _ h9 => h9) rfl dX0_shine_11 ?_
    refine lv_iload_n hx hb dX0_shine_14 rfl (lv_at hl 1 rfl) ?_
    refine hz_iald (f := xAw) hx hb hK hP 4 0 rfl rfl (Nat.le_of_ble_eq_true rfl) (by omega) dX0_shine_15 ?_
    refine hz_iadd hx hb dX0_shine_16 ?_
    refine lv_iload_n hx hb dX0_shine_17 rfl (lv_at hl 3 rfl) ?_
    refine lv_aload_n hx hb dX0_shine_18 rfl (lv_at hl 0 rfl) ?_
    refine va_get (D := G) (ci := 1) (v := .ref s3) (C := RX0) (T := TX0) (N := 7) hx hb hts hinwsX00 hown hK hP 0 rfl rfl 1 (by decide) (hts (.fieldLink RX0 18 "Heliokeep$AimSearch" "tenths" "[I") (List.mem_of_getElem? (i := 3) rfl)) (fun _ h9 => h9) rfl dX0_shine_19 ?_
    refine lv_iload_n hx hb dX0_shine_22 rfl (lv_at hl 1 rfl) ?_
    refine hz_iald (f := xTe) hx hb hK hP 3 0 rfl rfl (Nat.le_of_ble_eq_true rfl) (by omega) dX0_shine_23 ?_
    refine hz_imul hx hb dX0_shine_24 ?_
    refine hz_callVv (ws := (seW s0 s1 s2 s3 s4 s5 s6 y xS xT xM xF xTe xAw xRo xBe)) (wc := (lW s1 s2 y xM xF)) (As := [zi (at1 + (xAw wh)), zi (sg * (xTe wh))]) (rest := []) ⟨hx, hb, hml, hown, hts⟩ (c_X3_shine l G s1 s2 y _ xM xF (at1 + (xAw wh)) (sg * (xTe wh)) (by omega)) (cwV 2 hts gX0_shine_X3_shine rfl rfl rfl (by decide +kernel) ⟨Nat.le_of_ble_eq_true rfl, Nat.le_of_ble_eq_true rfl⟩) hP hK hD hS hA [1, 2] [0, 1, 2, 3] rfl rfl rfl 1 4 rfl rfl rfl rfl hl.1 rfl (Nat.le_of_ble_eq_true rfl) dX0_shine_25 ⟨Nat.zero_le _, Nat.zero_le _⟩ (fun _ => rfl) (fun u H locs hu hP hD hS => ?_)
    obtain ⟨f_2, m_3⟩ := u
    have p4 : ∀ q : Int, 0 ≤ q → q ≤ 5 → f_2 q = xF q + raZ (at1 + (xAw wh)) (sg * (xTe wh)) q := hu.1
    have p5 : m_3 = xM + rmZ (at1 + (xAw wh)) (sg * (xTe wh)) := hu.2
    have hP : va_P G vwCl (seW s0 s1 s2 s3 s4 s5 s6 y xS xT m_3 f_2 xTe xAw xRo xBe) H := hP
    have hD : va_D A (seW s0 s1 s2 s3 s4 s5 s6 y xS xT m_3 f_2 xTe xAw xRo xBe) := hD
    exact W.vret hx hb hr (fun t ht hW => ⟨⟨(f_2, m_3), rfl, (show ∀ q : Int, 0 ≤ q → q ≤ 5 → f_2 q = xF q + (if at1 = -1 then 0 else raZ (at1 + xAw wh) (sg * xTe wh) q) from by
          intro q h0 h1
          rw [if_neg (by omega)]
          exact p4 q h0 h1), hz_at hP ht⟩, hS.F ht⟩) hS.2.2 dX0_shine_28
abbrev Q_seekD (G : va_G) (s0 : Nat) (s1 : Nat) (s2 : Nat) (s3 : Nat) (s4 : Nat) (s5 : Nat) (s6 : Nat) (b0 : Nat) (y : Nat → ClassId) (xS xT xM : Int) (xF xTe xAw xRo xBe xB : Int → Int) (d : Int) (ba : Int → Int) (P : Int) (A : Nat → Prop) : Array Value → State → Outcome → State → Prop := va_Qv (fun (u : Int × Int × (Int → Int) × (Int → Int) × (Int → Int)) => (∀ q : Int, 0 ≤ q → q ≤ 5 → u.2.2.1 q = xF q) ∧ (∀ j : Int, 0 ≤ j → j < d → u.2.2.2.1 j = xRo j) ∧ (BSH ba xTe xAw xB xS ((P + 1) * 7 ^ (xS - d).toNat) u.1 u.2.2.2.2) ∧ (-1 ≤ u.1 ∧ u.1 ≤ 91200)) (fun (u : Int × Int × (Int → Int) × (Int → Int) × (Int → Int)) t => va_P G vwCl (sbW s0 s1 s2 s3 s4 s5 s6 b0 y xS u.1 u.2.1 u.2.2.1 xTe xAw u.2.2.2.1 u.2.2.2.2 xB) t.heap) A
def SKP (l : Launch) (G : va_G) (y : Nat → ClassId) (k : Nat) : Prop := ∀ (s0 : Nat) (s1 : Nat) (s2 : Nat) (s3 : Nat) (s4 : Nat) (s5 : Nat) (s6 : Nat) (b0 : Nat) (sz : Nat) (xS xT xM : Int) (xF xTe xAw xRo xBe xB : Int → Int) (d : Int) (ba : Int → Int) (P : Int), (0 ≤ d ∧ d + ((k : Nat) : Int) = xS ∧ xS ≤ 4) → (∀ j : Int, 0 ≤ j → j < xS → 0 ≤ xTe j ∧ xTe j ≤ 95) → (∀ j : Int, 0 ≤ j → j < xS → -6 ≤ xAw j ∧ xAw j ≤ 6) → (∀ q : Int, 0 ≤ q → q ≤ 5 → 0 ≤ ba q ∧ ba q ≤ 11400) → (∀ q : Int, 0 ≤ q → q ≤ 5 → xF q = fS ba xTe xAw xRo d q) → (∀ q : Int, 0 ≤ xB q ∧ xB q ≤ 9999) → (∀ j : Int, 0 ≤ j → j < d → xRo j = rwZ d P j) → (0 ≤ P) → (-1 ≤ xT ∧ xT ≤ 91200) → (trN xF xB 6 = 0) → (BSH ba xTe xAw xB xS (P * 7 ^ (xS - d).toNat) xT xBe) → Met l yX0_seekFrom wsX0_seekFrom ({ frames := 2 + 2 * k, cells := 0, slots := 0, locals := 200 + 60 * k }) (va_Pc [.ref s0, zi d, .ref b0] (HPre G (tyL y) (sbW s0 s1 s2 s3 s4 s5 s6 b0 y xS xT xM xF xTe xAw xRo xBe xB) sz)) (Q_seekD G s0 s1 s2 s3 s4 s5 s6 b0 y xS xT xM xF xTe xAw xRo xBe xB d ba P (va_A (sbW s0 s1 s2 s3 s4 s5 s6 b0 y xS xT xM xF xTe xAw xRo xBe xB) sz)) 0 0 (va_A (sbW s0 s1 s2 s3 s4 s5 s6 b0 y xS xT xM xF xTe xAw xRo xBe xB) sz)
abbrev Q_X0_tryAim (G : va_G) (s0 : Nat) (s1 : Nat) (s2 : Nat) (s3 : Nat) (s4 : Nat) (s5 : Nat) (s6 : Nat) (b0 : Nat) (y : Nat → ClassId) (xS xT xM : Int) (xF xTe xAw xRo xBe xB : Int → Int) (d : Int) (at1 : Int) (ba : Int → Int) (P : Int) (A : Nat → Prop) : Array Value → State → Outcome → State → Prop := va_Qv (fun (u : Int × Int × (Int → Int) × (Int → Int) × (Int → Int)) => (∀ q : Int, 0 ≤ q → q ≤ 5 → u.2.2.1 q = xF q) ∧ (∀ j : Int, 0 ≤ j → j < d → u.2.2.2.1 j = xRo j) ∧ (BSH ba xTe xAw xB xS ((P * 7 + (at1 + 2)) * 7 ^ (xS - (d + 1)).toNat) u.1 u.2.2.2.2) ∧ (-1 ≤ u.1 ∧ u.1 ≤ 91200)) (fun (u : Int × Int × (Int → Int) × (Int → Int) × (Int → Int)) t => va_P G vwCl (sbW s0 s1 s2 s3 s4 s5 s6 b0 y xS u.1 u.2.1 u.2.2.1 xTe xAw u.2.2.2.1 u.2.2.2.2 xB) t.heap) A
def TAP (l : Launch) (G : va_G) (y : Nat → ClassId) (k : Nat) : Prop := ∀ (s0 : Nat) (s1 : Nat) (s2 : Nat) (s3 : Nat) (s4 : Nat) (s5 : Nat) (s6 : Nat) (b0 : Nat) (sz : Nat) (xS xT xM : Int) (xF xTe xAw xRo xBe xB : Int → Int) (d : Int) (at1 : Int) (ba : Int → Int) (P : Int), (0 ≤ d ∧ d + ((k : Nat) : Int) + 1 = xS ∧ xS ≤ 4) → (∀ j : Int, 0 ≤ j → j < xS → 0 ≤ xTe j ∧ xTe j ≤ 95) → (∀ j : Int, 0 ≤ j → j < xS → -6 ≤ xAw j ∧ xAw j ≤ 6) → (∀ q : Int, 0 ≤ q → q ≤ 5 → 0 ≤ ba q ∧ ba q ≤ 11400) → (∀ q : Int, 0 ≤ q → q ≤ 5 → xF q = fS ba xTe xAw xRo d q) → (∀ q : Int, 0 ≤ xB q ∧ xB q ≤ 9999) → (∀ j : Int, 0 ≤ j → j < d → xRo j = rwZ d P j) → (0 ≤ P) → (-1 ≤ xT ∧ xT ≤ 91200) → (-1 ≤ at1 ∧ at1 ≤ 5) → (BSH ba xTe xAw xB xS ((P * 7 + (at1 + 1)) * 7 ^ (xS - (d + 1)).toNat) xT xBe) → Met l yX0_tryAim wsX0_tryAim ({ frames := 3 + 2 * k, cells := 0, slots := 0, locals := 230 + 60 * k }) (va_Pc [.ref s0, zi d, zi at1, .ref b0] (HPre G (tyL y) (sbW s0 s1 s2 s3 s4 s5 s6 b0 y xS xT xM xF xTe xAw xRo xBe xB) sz)) (Q_X0_tryAim G s0 s1 s2 s3 s4 s5 s6 b0 y xS xT xM xF xTe xAw xRo xBe xB d at1 ba P (va_A (sbW s0 s1 s2 s3 s4 s5 s6 b0 y xS xT xM xF xTe xAw xRo xBe xB) sz)) 0 0 (va_A (sbW s0 s1 s2 s3 s4 s5 s6 b0 y xS xT xM xF xTe xAw xRo xBe xB) sz)
set_option maxHeartbeats 4000000 in
set_option maxRecDepth 100000 in
theorem c_tryA (l : Launch) (G : va_G) (y : Nat → ClassId) (k : Nat) (hSK : SKP l G y k) : TAP l G y k := by
  intro s0 s1 s2 s3 s4 s5 s6 b0 sz xS xT xM xF xTe xAw xRo xBe xB d at1 ba P hd hte haw hba hF hB hR hPp hTr hat hT
  refine hz_ofW (Qf := Q_X0_tryAim G s0 s1 s2 s3 s4 s5 s6 b0 y xS xT xM xF xTe xAw xRo xBe xB d at1 ba P) (cc := cX0_tryAim) (maxL := 4) (ret := none) (by decide) rfl (Nat.le_of_ble_eq_true rfl) ?_
  intro p e s m below meth c A ls hx hb hr hts hown hin hlocks hml hP hK hA hD hS hl
  have hown : s.vm.findClass RX0 = some m.cls := hown
  have hl : lv_has ls 4 [(0, .ref s0), (1, zi d), (2, zi at1), (3, .ref b0)] := hl
  have hinwsX00 : ∀ w ∈ wsX00, w ∈ wsX0_tryAim := fun _ h => List.mem_cons_of_mem _ (List.mem_append_left _ (List.mem_append_right _ (h)))
  have hinwsX30 : ∀ w ∈ wsX30, w ∈ wsX0_tryAim := fun _ h => List.mem_cons_of_mem _ (List.mem_append_right _ (h))
  have qaw := haw d (by omega) (by omega)
  refine lv_iload_n hx hb dX0_tryAim_0 rfl (lv_at hl 1 rfl) ?_
  refine hz_if_lt (tgt := 9) hx hb dX0_tryAim_1 (by decide) (by omega) (fun q => absurd q (by omega)) (fun c1 => ?_)
  refine lv_iload_n hx hb dX0_tryAim_4 rfl (lv_at hl 1 rfl) ?_
  refine hz_iconst hx hb dX0_tryAim_5 ?_
  refine hz_icmp_lt (tgt := 10) hx hb dX0_tryAim_6 (by decide) (by omega) (fun c2 => ?_) (fun q => absurd q (by omega))
  refine lv_aload_n hx hb dX0_tryAim_10 rfl (lv_at hl 0 rfl) ?_
  refine va_get (D := G) (ci := 1) (v := .ref s5) (C := RX0) (T := TX0) (N := 7) hx hb hts hinwsX00 hown hK hP 0 rfl rfl 3 (by decide) (hts (.fieldLink RX0 25 "Heliokeep$AimSearch" "row" "[I") (List.mem_of_getElem? (i := 1) rfl)) (fun _ h9 => h9) rfl dX0_tryAim_11 ?_
  refine lv_iload_n hx hb dX0_tryAim_14 rfl (lv_at hl 1 rfl) ?_
  refine lv_iload_n hx hb dX0_tryAim_15 rfl (lv_at hl 2 rfl) ?_
  refine hz_iast (f := xRo) hx hb hK hP hD hS 5 0 rfl rfl (Nat.le_of_ble_eq_true rfl) (by omega) dX0_tryAim_16 (fun H locs hP hD hS => ?_)
  have hP : va_P G vwCl (sbW s0 s1 s2 s3 s4 s5 s6 b0 y xS xT xM xF xTe xAw (upZ xRo d at1) xBe xB) H := hP
  have hD : va_D A (sbW s0 s1 s2 s3 s4 s5 s6 b0 y xS xT xM xF xTe xAw (upZ xRo d at1) xBe xB) := hD
  refine lv_aload_n hx hb dX0_tryAim_17 rfl (lv_at hl 0 rfl) ?_
  refine lv_iload_n hx hb dX0_tryAim_18 rfl (lv_at hl 1 rfl) ?_
  refine lv_iload_n hx hb dX0_tryAim_19 rfl (lv_at hl 2 rfl) ?_
  refine hz_iconst hx hb dX0_tryAim_20 ?_
  refine hz_callVv (ws := (sbW s0 s1 s2 s3 s4 s5 s6 b0 y xS xT xM xF xTe xAw (upZ xRo d at1) xBe xB)) (wc := (seW s0 s1 s2 s3 s4 s5 s6 y xS xT xM xF xTe xAw (upZ xRo d at1) xBe)) (As := [zi d, zi at1, zi 1]) (rest := []) ⟨hx, hb, hml, hown, hts⟩ (c_X0_shine l G s0 s1 s2 s3 s4 s5 s6 y _ xS xT xM xF xTe xAw (upZ xRo d at1) xBe d at1 1 (by omega) (by omega) (by omega)) (cwV 3 hts gX0_tryAim_X0_shine rfl rfl rfl (by decide +kernel) ⟨by show 2 + 1 ≤ 3 + 2 * k; omega, by show 8 + (4 + 11) + (44) ≤ 230 + 60 * k; omega⟩) hP hK hD hS hA [0, 1, 2, 3, 4, 5, 6] [0, 1, 2, 3] rfl rfl rfl 0 1 rfl rfl rfl rfl hl.1 rfl (Nat.le_of_ble_eq_true rfl) dX0_tryAim_21 ⟨Nat.zero_le _, Nat.zero_le _⟩ (fun _ => rfl) (fun u H locs hu hP hD hS => ?_)
  obtain ⟨f_3, m_4⟩ := u
  have p5 : ∀ q : Int, 0 ≤ q → q ≤ 5 → f_3 q = xF q + (if at1 = -1 then 0 else raZ (at1 + xAw d) (1 * xTe d) q) := hu
  have hP : va_P G vwCl (sbW s0 s1 s2 s3 s4 s5 s6 b0 y xS xT m_4 f_3 xTe xAw (upZ xRo d at1) xBe xB) H := hP
  have hD : va_D A (sbW s0 s1 s2 s3 s4 s5 s6 b0 y xS xT m_4 f_3 xTe xAw (upZ xRo d at1) xBe xB) := hD
  have eF1 := fS_ext hd.1 hF p5
  have hR1 := rw_ext hd.1 hat hR
  have eFr : ∀ q : Int, 0 ≤ q → q ≤ 5 → -2147483648 ≤ f_3 q ∧ f_3 q < 2147483648 := fun q a b => by
    have q1 := fS_rng (aw := xAw) (a := upZ xRo d at1) (q := q) (hba q a b) (m := d + 1) (fun j c e => hte j c (by omega)) (by omega)
    rw [← eF1 q a b] at q1
    omega
  have e01 : trN f_3 xB 6 = 0 ∨ trN f_3 xB 6 = 1 := isZ_01 _
  refine lv_aload_n hx hb dX0_tryAim_24 rfl (lv_at hl 0 rfl) ?_
  refine va_get (D := G) (ci := 1) (v := .ref s1) (C := RX0) (T := TX0) (N := 7) hx hb hts hinwsX00 hown hK hP 0 rfl rfl 0 (by decide) (hts (.fieldLink RX0 12 "Heliokeep$AimSearch" "light" "LHeliokeep$Light;") (List.mem_of_getElem? (i := 2) rfl)) (fun _ h9 => h9) rfl dX0_tryAim_25 ?_
  refine lv_aload_n hx hb dX0_tryAim_28 rfl (lv_at hl 3 rfl) ?_
  refine hz_callRi (As := [.ref b0]) (rest := []) ⟨hx, hb, hml, hown, hts⟩ (c_X3_isAbove l G s1 s2 b0 y m_4 f_3 xB  eFr hB) (cwV 1 hts gX0_tryAim_X3_isAbove rfl rfl rfl (by decide +kernel) ⟨by show 0 + 1 ≤ 3 + 2 * k; omega, by show 8 + (3 + 11) + (0) ≤ 230 + 60 * k; omega⟩) (hz_cons hP (i := 1) rfl (hz_cons hP (i := 2) rfl (hz_cons hP (i := 7) rfl hz_nil))) hK 0 4 rfl rfl rfl rfl hl.1 rfl (Nat.le_of_ble_eq_true rfl) dX0_tryAim_29 ⟨Nat.zero_le _, Nat.zero_le _⟩ ?_
  refine hz_if_ne (tgt := 43) hx hb dX0_tryAim_32 (by decide) (by omega) (fun c6 => ?_) (fun c6 => ?_)
  · refine lv_aload_n hx hb dX0_tryAim_43 rfl (lv_at hl 0 rfl) ?_
    refine lv_iload_n hx hb dX0_tryAim_44 rfl (lv_at hl 1 rfl) ?_
    refine lv_iload_n hx hb dX0_tryAim_45 rfl (lv_at hl 2 rfl) ?_
    refine hz_iconst hx hb dX0_tryAim_46 ?_
    refine hz_callVv (ws := (sbW s0 s1 s2 s3 s4 s5 s6 b0 y xS xT m_4 f_3 xTe xAw (upZ xRo d at1) xBe xB)) (wc := (seW s0 s1 s2 s3 s4 s5 s6 y xS xT m_4 f_3 xTe xAw (upZ xRo d at1) xBe)) (As := [zi d, zi at1, zi (-1)]) (rest := []) ⟨hx, hb, hml, hown, hts⟩ (c_X0_shine l G s0 s1 s2 s3 s4 s5 s6 y _ xS xT m_4 f_3 xTe xAw (upZ xRo d at1) xBe d at1 (-1) (by omega) (by omega) (by omega)) (cwV 3 hts gX0_tryAim_X0_shine rfl rfl rfl (by decide +kernel) ⟨by show 2 + 1 ≤ 3 + 2 * k; omega, by show 8 + (4 + 11) + (44) ≤ 230 + 60 * k; omega⟩) hP hK hD hS hA [0, 1, 2, 3, 4, 5, 6] [0, 1, 2, 3] rfl rfl rfl 0 1 rfl rfl rfl rfl hl.1 rfl (Nat.le_of_ble_eq_true rfl) dX0_tryAim_47 ⟨Nat.zero_le _, Nat.zero_le _⟩ (fun _ => rfl) (fun u H locs hu hP hD hS => ?_)
    obtain ⟨f_7, m_8⟩ := u
    have p9 : ∀ q : Int, 0 ≤ q → q ≤ 5 → f_7 q = f_3 q + (if at1 = -1 then 0 else raZ (at1 + xAw d) ((-1) * xTe d) q) := hu
    have hP : va_P G vwCl (sbW s0 s1 s2 s3 s4 s5 s6 b0 y xS xT m_8 f_7 xTe xAw (upZ xRo d at1) xBe xB) H := hP
    have hD : va_D A (sbW s0 s1 s2 s3 s4 s5 s6 b0 y xS xT m_8 f_7 xTe xAw (upZ xRo d at1) xBe xB) := hD
    exact W.vret hx hb hr (fun t ht hW => ⟨⟨(xT, m_8, f_7, (upZ xRo d at1), xBe), rfl, ⟨(show ∀ q : Int, 0 ≤ q → q ≤ 5 → f_7 q = xF q from by
          intro q h0 h1
          rw [p9 q h0 h1, p5 q h0 h1, raZ_neg, raZ_one]
          split <;> omega), (show ∀ j : Int, 0 ≤ j → j < d → (upZ xRo d at1) j = xRo j from fun j a b => by
          rw [upZ_n (by omega)]), (show BSH ba xTe xAw xB xS ((P * 7 + (at1 + 2)) * 7 ^ (xS - (d + 1)).toNat) xT xBe from by have q := sk_above (by omega) (by omega) hte eF1 hR1 (by omega) hT; rw [show P * 7 + (at1 + 1) + 1 = P * 7 + (at1 + 2) from by omega] at q; exact q), (show -1 ≤ xT ∧ xT ≤ 91200 from by omega)⟩, hz_at hP ht⟩, hS.F ht⟩) hS.2.2 dX0_tryAim_50
  · refine lv_aload_n hx hb dX0_tryAim_35 rfl (lv_at hl 0 rfl) ?_
    refine lv_iload_n hx hb dX0_tryAim_36 rfl (lv_at hl 1 rfl) ?_
    refine hz_iconst hx hb dX0_tryAim_37 ?_
    refine hz_iadd hx hb dX0_tryAim_38 ?_
    refine lv_aload_n hx hb dX0_tryAim_39 rfl (lv_at hl 3 rfl) ?_
    refine hz_callWv (As := [zi (d + 1), .ref b0]) (rest := []) ⟨hx, hb, hml, hown, hts⟩ (hSK s0 s1 s2 s3 s4 s5 s6 b0 _ xS xT m_4 f_3 xTe xAw (upZ xRo d at1) xBe xB (d + 1) ba (P * 7 + (at1 + 1)) (by omega) hte haw hba eF1 hB hR1 (by omega) (by omega) (by omega) hT) (cwV 2 hts gX0_tryAim_X0_seekFrom rfl rfl rfl (by decide +kernel) ⟨by show 2 + 2 * k + 1 ≤ 3 + 2 * k; omega, by show 8 + (5 + 11) + (200 + 60 * k) ≤ 230 + 60 * k; omega⟩) hP hK hD hS hA 0 1 rfl rfl rfl rfl hl.1 rfl (Nat.le_of_ble_eq_true rfl) dX0_tryAim_40 ⟨Nat.zero_le _, Nat.zero_le _⟩ (fun _ => rfl) (fun u H locs hu hP hD hS => ?_)
    obtain ⟨n_10, n_11, n_12, n_13, n_14⟩ := u
    have p15 : ∀ q : Int, 0 ≤ q → q ≤ 5 → n_12 q = f_3 q := hu.1
    have p16 : ∀ j : Int, 0 ≤ j → j < (d + 1) → n_13 j = (upZ xRo d at1) j := hu.2.1
    have p17 : BSH ba xTe xAw xB xS (((P * 7 + (at1 + 1)) + 1) * 7 ^ (xS - (d + 1)).toNat) n_10 n_14 := hu.2.2.1
    have p18 : -1 ≤ n_10 ∧ n_10 ≤ 91200 := hu.2.2.2
    have hP : va_P G vwCl (sbW s0 s1 s2 s3 s4 s5 s6 b0 y xS n_10 n_11 n_12 xTe xAw n_13 n_14 xB) H := hP
    have hD : va_D A (sbW s0 s1 s2 s3 s4 s5 s6 b0 y xS n_10 n_11 n_12 xTe xAw n_13 n_14 xB) := hD
    refine lv_aload_n hx hb dX0_tryAim_43 rfl (lv_at hl 0 rfl) ?_
    refine lv_iload_n hx hb dX0_tryAim_44 rfl (lv_at hl 1 rfl) ?_
    refine lv_iload_n hx hb dX0_tryAim_45 rfl (lv_at hl 2 rfl) ?_
    refine hz_iconst hx hb dX0_tryAim_46 ?_
    refine hz_callVv (ws := (sbW s0 s1 s2 s3 s4 s5 s6 b0 y xS n_10 n_11 n_12 xTe xAw n_13 n_14 xB)) (wc := (seW s0 s1 s2 s3 s4 s5 s6 y xS n_10 n_11 n_12 xTe xAw n_13 n_14)) (As := [zi d, zi at1, zi (-1)]) (rest := []) ⟨hx, hb, hml, hown, hts⟩ (c_X0_shine l G s0 s1 s2 s3 s4 s5 s6 y _ xS n_10 n_11 n_12 xTe xAw n_13 n_14 d at1 (-1) (by omega) (by omega) (by omega)) (cwV 3 hts gX0_tryAim_X0_shine rfl rfl rfl (by decide +kernel) ⟨by show 2 + 1 ≤ 3 + 2 * k; omega, by show 8 + (4 + 11) + (44) ≤ 230 + 60 * k; omega⟩) hP hK hD hS hA [0, 1, 2, 3, 4, 5, 6] [0, 1, 2, 3] rfl rfl rfl 0 1 rfl rfl rfl rfl hl.1 rfl (Nat.le_of_ble_eq_true rfl) dX0_tryAim_47 ⟨Nat.zero_le _, Nat.zero_le _⟩ (fun _ => rfl) (fun u H locs hu hP hD hS => ?_)
    obtain ⟨f_19, m_20⟩ := u
    have p21 : ∀ q : Int, 0 ≤ q → q ≤ 5 → f_19 q = n_12 q + (if at1 = -1 then 0 else raZ (at1 + xAw d) ((-1) * xTe d) q) := hu
    have hP : va_P G vwCl (sbW s0 s1 s2 s3 s4 s5 s6 b0 y xS n_10 m_20 f_19 xTe xAw n_13 n_14 xB) H := hP
    have hD : va_D A (sbW s0 s1 s2 s3 s4 s5 s6 b0 y xS n_10 m_20 f_19 xTe xAw n_13 n_14 xB) := hD
    exact W.vret hx hb hr (fun t ht hW => ⟨⟨(n_10, m_20, f_19, n_13, n_14), rfl, ⟨(show ∀ q : Int, 0 ≤ q → q ≤ 5 → f_19 q = xF q from by
          intro q h0 h1
          rw [p21 q h0 h1, p15 q h0 h1, p5 q h0 h1, raZ_neg, raZ_one]
          split <;> omega), (show ∀ j : Int, 0 ≤ j → j < d → n_13 j = xRo j from fun j a b => by
          rw [p16 j a (by omega)]; rw [upZ_n (by omega)]), (show BSH ba xTe xAw xB xS ((P * 7 + (at1 + 2)) * 7 ^ (xS - (d + 1)).toNat) n_10 n_14 from by have q := p17; rw [show P * 7 + (at1 + 1) + 1 = P * 7 + (at1 + 2) from by omega] at q; exact q), (show -1 ≤ n_10 ∧ n_10 ≤ 91200 from by omega)⟩, hz_at hP ht⟩, hS.F ht⟩) hS.2.2 dX0_tryAim_50
set_option maxHeartbeats 4000000 in
set_option maxRecDepth 100000 in
theorem c_seek0 (l : Launch) (G : va_G) (y : Nat → ClassId) : SKP l G y 0 := by
  intro s0 s1 s2 s3 s4 s5 s6 b0 sz xS xT xM xF xTe xAw xRo xBe xB d ba P hd hte haw hba hF hB hR hPp hTr hlaw hT
  refine hz_ofW (Qf := Q_seekD G s0 s1 s2 s3 s4 s5 s6 b0 y xS xT xM xF xTe xAw xRo xBe xB d ba P) (cc := cX0_seekFrom) (maxL := 5) (ret := none) (by decide) rfl (Nat.le_of_ble_eq_true rfl) ?_
  intro p e s m below meth c A ls hx hb hr hts hown hin hlocks hml hP hK hA hD hS hl
  have hown : s.vm.findClass RX0 = some m.cls := hown
  have hl : lv_has ls 5 [(0, .ref s0), (1, zi d), (2, .ref b0)] := hl
  have hinwsX00 : ∀ w ∈ wsX00, w ∈ wsX0_seekFrom := fun _ h => List.mem_cons_of_mem _ (List.mem_append_left _ (List.mem_append_right _ (h)))
  have hinwsX30 : ∀ w ∈ wsX30, w ∈ wsX0_seekFrom := fun _ h => List.mem_cons_of_mem _ (List.mem_append_right _ (h))
  have hal := al_rng (base := ba) (te := xTe) (aw := xAw) (a := xRo) (m := d) hba (fun j a b => hte j a (by omega)) (by omega)
  rw [← alZ_cong hF] at hal
  have hs1 := smZ_rng (f := xTe) (b := 95) (k := xS) hte (by omega) xS.toNat (by omega)
  have hs2 := smZ_rng (f := xTe) (b := 95) (k := xS) hte (by omega) d.toNat (by omega)
  refine lv_aload_n hx hb dX0_seekFrom_0 rfl (lv_at hl 0 rfl) ?_
  refine va_get (D := G) (ci := 1) (v := .ref s1) (C := RX0) (T := TX0) (N := 7) hx hb hts hinwsX00 hown hK hP 0 rfl rfl 0 (by decide) (hts (.fieldLink RX0 12 "Heliokeep$AimSearch" "light" "LHeliokeep$Light;") (List.mem_of_getElem? (i := 1) rfl)) (fun _ h9 => h9) rfl dX0_seekFrom_1 ?_
  refine hz_callRi (As := []) (rest := []) ⟨hx, hb, hml, hown, hts⟩ (c_X3_onPanels l G s1 s2 y xM xF  ) (cwV 0 hts gX0_seekFrom_X3_onPanels rfl rfl rfl (by decide +kernel) ⟨by show 0 + 1 ≤ 2 + 2 * 0; omega, by show 8 + (3 + 11) + (0) ≤ 200 + 60 * 0; omega⟩) (hz_cons hP (i := 1) rfl (hz_cons hP (i := 2) rfl hz_nil)) hK 0 4 rfl rfl rfl rfl hl.1 rfl (Nat.le_of_ble_eq_true rfl) dX0_seekFrom_4 ⟨Nat.zero_le _, Nat.zero_le _⟩ ?_
  refine lv_istore_n (lv' := [(3, zi (alZ xF)), (0, .ref s0), (1, zi d), (2, .ref b0)]) hx hb dX0_seekFrom_7 rfl hl (by decide) rfl (fun ls hl => ?_)
  refine lv_iload_n hx hb dX0_seekFrom_8 rfl (lv_at hl 0 rfl) ?_
  refine lv_aload_n hx hb dX0_seekFrom_9 rfl (lv_at hl 1 rfl) ?_
  refine lv_iload_n hx hb dX0_seekFrom_10 rfl (lv_at hl 2 rfl) ?_
  refine hz_callRi (As := [zi d]) (rest := [zi (alZ xF)]) ⟨hx, hb, hml, hown, hts⟩ (c_X0_mostFrom l G s0 s1 s2 s3 s4 s5 s6 y xS xT xM xF xTe xAw xRo xBe d (by omega)) (cwV 1 hts gX0_seekFrom_X0_mostFrom rfl rfl rfl (by decide +kernel) ⟨by show 0 + 1 ≤ 2 + 2 * 0; omega, by show 8 + (4 + 11) + (0) ≤ 200 + 60 * 0; omega⟩) (hz_cons hP (i := 0) rfl (hz_cons hP (i := 1) rfl (hz_cons hP (i := 2) rfl (hz_cons hP (i := 3) rfl (hz_cons hP (i := 4) rfl (hz_cons hP (i := 5) rfl (hz_cons hP (i := 6) rfl hz_nil))))))) hK 0 1 rfl rfl rfl rfl hl.1 rfl (Nat.le_of_ble_eq_true rfl) dX0_seekFrom_11 ⟨Nat.zero_le _, Nat.zero_le _⟩ ?_
  refine hz_iadd hx hb dX0_seekFrom_14 ?_
  refine lv_aload_n hx hb dX0_seekFrom_15 rfl (lv_at hl 1 rfl) ?_
  refine va_get (D := G) (ci := 1) (v := zi xT) (C := RX0) (T := TX0) (N := 7) hx hb hts hinwsX00 hown hK hP 0 rfl rfl 6 (by decide) (hts (.fieldLink RX0 35 "Heliokeep$AimSearch" "bestSum" "I") (List.mem_of_getElem? (i := 2) rfl)) (fun _ h9 => h9) rfl dX0_seekFrom_16 ?_
  refine hz_icmp_gt (tgt := 23) hx hb dX0_seekFrom_19 (by decide) (by omega) (fun c1 => ?_) (fun c1 => ?_)
  · refine lv_iload_n hx hb dX0_seekFrom_23 rfl (lv_at hl 2 rfl) ?_
    refine lv_aload_n hx hb dX0_seekFrom_24 rfl (lv_at hl 1 rfl) ?_
    refine va_get (D := G) (ci := 1) (v := zi xS) (C := RX0) (T := TX0) (N := 7) hx hb hts hinwsX00 hown hK hP 0 rfl rfl 5 (by decide) (hts (.fieldLink RX0 31 "Heliokeep$AimSearch" "size" "I") (List.mem_of_getElem? (i := 3) rfl)) (fun _ h9 => h9) rfl dX0_seekFrom_25 ?_
    refine hz_icmp_lt (tgt := 69) hx hb dX0_seekFrom_28 (by decide) (by omega) (fun q => absurd q (by omega)) (fun c2 => ?_)
    refine lv_aload_n hx hb dX0_seekFrom_31 rfl (lv_at hl 1 rfl) ?_
    refine lv_iload_n hx hb dX0_seekFrom_32 rfl (lv_at hl 0 rfl) ?_
    refine va_put (D := G) (ci := 1) (v := zi (alZ xF)) (ty := .int) (C := RX0) (T := TX0) (N := 7) hx hb hts hinwsX00 tyX0 tyX0_ok nmX0 hown hK hP hD hS 0 rfl rfl 6 (by decide) (hts (.fieldLink RX0 35 "Heliokeep$AimSearch" "bestSum" "I") (List.mem_of_getElem? (i := 2) rfl)) (fun _ h9 => h9) rfl (by decide +kernel) rfl rfl (Nat.le_of_ble_eq_true rfl) dX0_seekFrom_33 (fun H locs hP hD hS => ?_)
    have hP : va_P G vwCl (sbW s0 s1 s2 s3 s4 s5 s6 b0 y xS (alZ xF) xM xF xTe xAw xRo xBe xB) H := hP
    have hD : va_D A (sbW s0 s1 s2 s3 s4 s5 s6 b0 y xS (alZ xF) xM xF xTe xAw xRo xBe xB) := hD
    refine hz_iconst hx hb dX0_seekFrom_36 ?_
    refine lv_istore (lv' := [(4, zi 0), (3, zi (alZ xF)), (0, .ref s0), (1, zi d), (2, .ref b0)]) hx hb dX0_seekFrom_37 hl (by decide) rfl (fun ls hl => ?_)
    have L39 : ∀ (n : Nat) (i : Int) (f : Int → Int) (H : Heap) (locs : List Loc), (0 ≤ i ∧ i ≤ xS) → (∀ j : Int, 0 ≤ j → j < i → f j = xRo j) → ((xS - i).toNat) < n → va_P G vwCl (sbW s0 s1 s2 s3 s4 s5 s6 b0 y xS (alZ xF) xM xF xTe xAw xRo f xB) H → va_D A (sbW s0 s1 s2 s3 s4 s5 s6 b0 y xS (alZ xF) xM xF xTe xAw xRo f xB) → va_S A s.heap H locs → ∀ ls : Array Slot, lv_has ls 5 [(0, .ref s0), (4, zi i)] → W p l e (headSpec wsX0_seekFrom ({ frames := 2 + 2 * 0, cells := 0, slots := 0, locals := 200 + 60 * 0 })).room s m ([.ref s0, zi d, .ref b0] : List Value).toArray below meth c H locs 0 0 (MQ below (Q_seekD G s0 s1 s2 s3 s4 s5 s6 b0 y xS xT xM xF xTe xAw xRo xBe xB d ba P A) ([.ref s0, zi d, .ref b0] : List Value).toArray s 0 0 A) (F0 m 39 ls []) := by
      intro n
      induction n with
      | zero => exact fun i f H locs h_k39 h_f39 hm => absurd hm (Nat.not_lt_zero _)
      | succ n ih39 =>
        intro i f H locs h_k39 h_f39 hm39 hP hD hS ls hl
        refine lv_iload hx hb dX0_seekFrom_39 (lv_at hl 1 rfl) ?_
        refine lv_aload_n hx hb dX0_seekFrom_41 rfl (lv_at hl 0 rfl) ?_
        refine va_get (D := G) (ci := 1) (v := zi xS) (C := RX0) (T := TX0) (N := 7) hx hb hts hinwsX00 hown hK hP 0 rfl rfl 5 (by decide) (hts (.fieldLink RX0 31 "Heliokeep$AimSearch" "size" "I") (List.mem_of_getElem? (i := 3) rfl)) (fun _ h9 => h9) rfl dX0_seekFrom_42 ?_
        refine hz_icmp_ge (tgt := 68) hx hb dX0_seekFrom_45 (by decide) (by omega) (fun c3 => ?_) (fun c3 => ?_)
        · exact W.vret hx hb hr (fun t ht hW => ⟨⟨((alZ xF), xM, xF, xRo, f), rfl, ⟨(show ∀ q : Int, 0 ≤ q → q ≤ 5 → xF q = xF q from by first | exact (fun q a b => rfl) | exact h_F72), (show ∀ j : Int, 0 ≤ j → j < d → xRo j = xRo j from by first | exact (fun j a b => rfl) | exact h_Ro72), (show BSH ba xTe xAw xB xS ((P + 1) * 7 ^ (xS - d).toNat) (alZ xF) f from by first | exact sk_bound (by omega) hPp hte hF hR (by omega) hT | exact sk_leaf (by omega) (by omega) hPp hF hR hlaw (by omega) hT (fun j a b => h_f39 j a (by omega)) | (have q := h_T72; rw [show a1 = 6 from by omega] at q; rw [pow7_e (show d < xS from by omega), show (P + 1) * (7 * 7 ^ (xS - (d + 1)).toNat) = (P * 7 + (6 + 1)) * 7 ^ (xS - (d + 1)).toNat from by rw [← Int.mul_assoc]; exact congrArg (fun z => z * 7 ^ (xS - (d + 1)).toNat) (by omega)]; exact q)), (show -1 ≤ (alZ xF) ∧ (alZ xF) ≤ 91200 from by omega)⟩, hz_at hP ht⟩, hS.F ht⟩) hS.2.2 dX0_seekFrom_68
        · refine lv_aload_n hx hb dX0_seekFrom_48 rfl (lv_at hl 0 rfl) ?_
          refine va_get (D := G) (ci := 1) (v := .ref s6) (C := RX0) (T := TX0) (N := 7) hx hb hts hinwsX00 hown hK hP 0 rfl rfl 4 (by decide) (hts (.fieldLink RX0 28 "Heliokeep$AimSearch" "bestRow" "[I") (List.mem_of_getElem? (i := 4) rfl)) (fun _ h9 => h9) rfl dX0_seekFrom_49 ?_
          refine lv_iload hx hb dX0_seekFrom_52 (lv_at hl 1 rfl) ?_
          refine lv_aload_n hx hb dX0_seekFrom_54 rfl (lv_at hl 0 rfl) ?_
          refine va_get (D := G) (ci := 1) (v := .ref s5) (C := RX0) (T := TX0) (N := 7) hx hb hts hinwsX00 hown hK hP 0 rfl rfl 3 (by decide) (hts (.fieldLink RX0 25 "Heliokeep$AimSearch" "row" "[I") (List.mem_of_getElem? (i := 5) rfl)) (fun _ h9 => h9) rfl dX0_seekFrom_55 ?_
          refine lv_iload hx hb dX0_seekFrom_58 (lv_at hl 1 rfl) ?_
          refine hz_iald (f := xRo) hx hb hK hP 5 0 rfl rfl (Nat.le_of_ble_eq_true rfl) (by omega) dX0_seekFrom_60 ?_
          refine hz_iast (f := f) hx hb hK hP hD hS 6 0 rfl rfl (Nat.le_of_ble_eq_true rfl) (by omega) dX0_seekFrom_61 (fun H locs hP hD hS => ?_)
          have hP : va_P G vwCl (sbW s0 s1 s2 s3 s4 s5 s6 b0 y xS (alZ xF) xM xF xTe xAw xRo (upZ f i (xRo i)) xB) H := hP
          have hD : va_D A (sbW s0 s1 s2 s3 s4 s5 s6 b0 y xS (alZ xF) xM xF xTe xAw xRo (upZ f i (xRo i)) xB) := hD
          refine hz_iinc (v := (i + 1)) (lv' := [(4, zi (i + 1)), (0, .ref s0)]) hx hb dX0_seekFrom_62 hl (k := 1) rfl (by omega) (by decide) rfl (fun ls hl => ?_)
          refine lv_goto (tgt := 39) hx hb dX0_seekFrom_65 (by decide) ?_
          exact ih39 (i + 1) (upZ f i (xRo i)) _ _ (by omega) (by
          intro j a b
          by_cases e : j = i
          · rw [upZ_s e, e]
          · rw [upZ_n e]; exact h_f39 j a (by omega)) (by omega) hP hD hS ls (lv_sub hl [1, 0] rfl)
    exact L39 _ 0 xBe _ _ (by omega) (fun j a b => absurd b (by omega)) (Nat.lt_succ_self _) hP hD hS ls (lv_sub hl [2, 0] rfl)
  · exact W.vret hx hb hr (fun t ht hW => ⟨⟨(xT, xM, xF, xRo, xBe), rfl, ⟨(show ∀ q : Int, 0 ≤ q → q ≤ 5 → xF q = xF q from by first | exact (fun q a b => rfl) | exact h_F72), (show ∀ j : Int, 0 ≤ j → j < d → xRo j = xRo j from by first | exact (fun j a b => rfl) | exact h_Ro72), (show BSH ba xTe xAw xB xS ((P + 1) * 7 ^ (xS - d).toNat) xT xBe from by first | exact sk_bound (by omega) hPp hte hF hR (by omega) hT | exact sk_leaf (by omega) (by omega) hPp hF hR hlaw (by omega) hT (fun j a b => h_f39 j a (by omega)) | (have q := h_T72; rw [show a1 = 6 from by omega] at q; rw [pow7_e (show d < xS from by omega), show (P + 1) * (7 * 7 ^ (xS - (d + 1)).toNat) = (P * 7 + (6 + 1)) * 7 ^ (xS - (d + 1)).toNat from by rw [← Int.mul_assoc]; exact congrArg (fun z => z * 7 ^ (xS - (d + 1)).toNat) (by omega)]; exact q)), (show -1 ≤ xT ∧ xT ≤ 91200 from by omega)⟩, hz_at hP ht⟩, hS.F ht⟩) hS.2.2 dX0_seekFrom_22
set_option maxHeartbeats 4000000 in
set_option maxRecDepth 100000 in
theorem c_seekS (l : Launch) (G : va_G) (y : Nat → ClassId) (k : Nat) (hTA : TAP l G y k) : SKP l G y (k + 1) := by
  intro s0 s1 s2 s3 s4 s5 s6 b0 sz xS xT xM xF xTe xAw xRo xBe xB d ba P hd hte haw hba hF hB hR hPp hTr hlaw hT
  refine hz_ofW (Qf := Q_seekD G s0 s1 s2 s3 s4 s5 s6 b0 y xS xT xM xF xTe xAw xRo xBe xB d ba P) (cc := cX0_seekFrom) (maxL := 5) (ret := none) (by decide) rfl (Nat.le_of_ble_eq_true rfl) ?_
  intro p e s m below meth c A ls hx hb hr hts hown hin hlocks hml hP hK hA hD hS hl
  have hown : s.vm.findClass RX0 = some m.cls := hown
  have hl : lv_has ls 5 [(0, .ref s0), (1, zi d), (2, .ref b0)] := hl
  have hinwsX00 : ∀ w ∈ wsX00, w ∈ wsX0_seekFrom := fun _ h => List.mem_cons_of_mem _ (List.mem_append_left _ (List.mem_append_right _ (h)))
  have hinwsX30 : ∀ w ∈ wsX30, w ∈ wsX0_seekFrom := fun _ h => List.mem_cons_of_mem _ (List.mem_append_right _ (h))
  have hal := al_rng (base := ba) (te := xTe) (aw := xAw) (a := xRo) (m := d) hba (fun j a b => hte j a (by omega)) (by omega)
  rw [← alZ_cong hF] at hal
  have hs1 := smZ_rng (f := xTe) (b := 95) (k := xS) hte (by omega) xS.toNat (by omega)
  have hs2 := smZ_rng (f := xTe) (b := 95) (k := xS) hte (by omega) d.toNat (by omega)
  refine lv_aload_n hx hb dX0_seekFrom_0 rfl (lv_at hl 0 rfl) ?_
  refine va_get (D := G) (ci := 1) (v := .ref s1) (C := RX0) (T := TX0) (N := 7) hx hb hts hinwsX00 hown hK hP 0 rfl rfl 0 (by decide) (hts (.fieldLink RX0 12 "Heliokeep$AimSearch" "light" "LHeliokeep$Light;") (List.mem_of_getElem? (i := 1) rfl)) (fun _ h9 => h9) rfl dX0_seekFrom_1 ?_
  refine hz_callRi (As := []) (rest := []) ⟨hx, hb, hml, hown, hts⟩ (c_X3_onPanels l G s1 s2 y xM xF  ) (cwV 0 hts gX0_seekFrom_X3_onPanels rfl rfl rfl (by decide +kernel) ⟨by show 0 + 1 ≤ 2 + 2 * (k + 1); omega, by show 8 + (3 + 11) + (0) ≤ 200 + 60 * (k + 1); omega⟩) (hz_cons hP (i := 1) rfl (hz_cons hP (i := 2) rfl hz_nil)) hK 0 4 rfl rfl rfl rfl hl.1 rfl (Nat.le_of_ble_eq_true rfl) dX0_seekFrom_4 ⟨Nat.zero_le _, Nat.zero_le _⟩ ?_
  refine lv_istore_n (lv' := [(3, zi (alZ xF)), (0, .ref s0), (1, zi d), (2, .ref b0)]) hx hb dX0_seekFrom_7 rfl hl (by decide) rfl (fun ls hl => ?_)
  refine lv_iload_n hx hb dX0_seekFrom_8 rfl (lv_at hl 0 rfl) ?_
  refine lv_aload_n hx hb dX0_seekFrom_9 rfl (lv_at hl 1 rfl) ?_
  refine lv_iload_n hx hb dX0_seekFrom_10 rfl (lv_at hl 2 rfl) ?_
  refine hz_callRi (As := [zi d]) (rest := [zi (alZ xF)]) ⟨hx, hb, hml, hown, hts⟩ (c_X0_mostFrom l G s0 s1 s2 s3 s4 s5 s6 y xS xT xM xF xTe xAw xRo xBe d (by omega)) (cwV 1 hts gX0_seekFrom_X0_mostFrom rfl rfl rfl (by decide +kernel) ⟨by show 0 + 1 ≤ 2 + 2 * (k + 1); omega, by show 8 + (4 + 11) + (0) ≤ 200 + 60 * (k + 1); omega⟩) (hz_cons hP (i := 0) rfl (hz_cons hP (i := 1) rfl (hz_cons hP (i := 2) rfl (hz_cons hP (i := 3) rfl (hz_cons hP (i := 4) rfl (hz_cons hP (i := 5) rfl (hz_cons hP (i := 6) rfl hz_nil))))))) hK 0 1 rfl rfl rfl rfl hl.1 rfl (Nat.le_of_ble_eq_true rfl) dX0_seekFrom_11 ⟨Nat.zero_le _, Nat.zero_le _⟩ ?_
  refine hz_iadd hx hb dX0_seekFrom_14 ?_
  refine lv_aload_n hx hb dX0_seekFrom_15 rfl (lv_at hl 1 rfl) ?_
  refine va_get (D := G) (ci := 1) (v := zi xT) (C := RX0) (T := TX0) (N := 7) hx hb hts hinwsX00 hown hK hP 0 rfl rfl 6 (by decide) (hts (.fieldLink RX0 35 "Heliokeep$AimSearch" "bestSum" "I") (List.mem_of_getElem? (i := 2) rfl)) (fun _ h9 => h9) rfl dX0_seekFrom_16 ?_
  refine hz_icmp_gt (tgt := 23) hx hb dX0_seekFrom_19 (by decide) (by omega) (fun c1 => ?_) (fun c1 => ?_)
  · refine lv_iload_n hx hb dX0_seekFrom_23 rfl (lv_at hl 2 rfl) ?_
    refine lv_aload_n hx hb dX0_seekFrom_24 rfl (lv_at hl 1 rfl) ?_
    refine va_get (D := G) (ci := 1) (v := zi xS) (C := RX0) (T := TX0) (N := 7) hx hb hts hinwsX00 hown hK hP 0 rfl rfl 5 (by decide) (hts (.fieldLink RX0 31 "Heliokeep$AimSearch" "size" "I") (List.mem_of_getElem? (i := 3) rfl)) (fun _ h9 => h9) rfl dX0_seekFrom_25 ?_
    refine hz_icmp_lt (tgt := 69) hx hb dX0_seekFrom_28 (by decide) (by omega) (fun c2 => ?_) (fun q => absurd q (by omega))
    refine hz_iconst hx hb dX0_seekFrom_69 ?_
    refine lv_istore (lv' := [(4, zi (-1)), (3, zi (alZ xF)), (0, .ref s0), (1, zi d), (2, .ref b0)]) hx hb dX0_seekFrom_70 hl (by decide) rfl (fun ls hl => ?_)
    have L72 : ∀ (n : Nat) (a1 : Int) (nT : Int) (nM : Int) (nF : Int → Int) (nRo : Int → Int) (nBe : Int → Int) (H : Heap) (locs : List Loc), (-1 ≤ a1 ∧ a1 ≤ 6) → (∀ q : Int, 0 ≤ q → q ≤ 5 → nF q = xF q) → (∀ j : Int, 0 ≤ j → j < d → nRo j = xRo j) → (BSH ba xTe xAw xB xS ((P * 7 + (a1 + 1)) * 7 ^ (xS - (d + 1)).toNat) nT nBe) → (-1 ≤ nT ∧ nT ≤ 91200) → ((6 - a1).toNat) < n → va_P G vwCl (sbW s0 s1 s2 s3 s4 s5 s6 b0 y xS nT nM nF xTe xAw nRo nBe xB) H → va_D A (sbW s0 s1 s2 s3 s4 s5 s6 b0 y xS nT nM nF xTe xAw nRo nBe xB) → va_S A s.heap H locs → ∀ ls : Array Slot, lv_has ls 5 [(0, .ref s0), (1, zi d), (2, .ref b0), (4, zi a1)] → W p l e (headSpec wsX0_seekFrom ({ frames := 2 + 2 * (k + 1), cells := 0, slots := 0, locals := 200 + 60 * (k + 1) })).room s m ([.ref s0, zi d, .ref b0] : List Value).toArray below meth c H locs 0 0 (MQ below (Q_seekD G s0 s1 s2 s3 s4 s5 s6 b0 y xS xT xM xF xTe xAw xRo xBe xB d ba P A) ([.ref s0, zi d, .ref b0] : List Value).toArray s 0 0 A) (F0 m 72 ls []) := by
      intro n
      induction n with
      | zero => exact fun a1 nT nM nF nRo nBe H locs h_a72 h_F72 h_Ro72 h_T72 h_Tr72 hm => absurd hm (Nat.not_lt_zero _)
      | succ n ih72 =>
        intro a1 nT nM nF nRo nBe H locs h_a72 h_F72 h_Ro72 h_T72 h_Tr72 hm72 hP hD hS ls hl
        refine lv_iload hx hb dX0_seekFrom_72 (lv_at hl 3 rfl) ?_
        refine hz_bipush hx hb dX0_seekFrom_74 (by decide) ?_
        refine hz_icmp_ge (tgt := 93) hx hb dX0_seekFrom_76 (by decide) (by omega) (fun c3 => ?_) (fun c3 => ?_)
        · exact W.vret hx hb hr (fun t ht hW => ⟨⟨(nT, nM, nF, nRo, nBe), rfl, ⟨(show ∀ q : Int, 0 ≤ q → q ≤ 5 → nF q = xF q from by first | exact (fun q a b => rfl) | exact h_F72), (show ∀ j : Int, 0 ≤ j → j < d → nRo j = xRo j from by first | exact (fun j a b => rfl) | exact h_Ro72), (show BSH ba xTe xAw xB xS ((P + 1) * 7 ^ (xS - d).toNat) nT nBe from by first | exact sk_bound (by omega) hPp hte hF hR (by omega) hT | exact sk_leaf (by omega) (by omega) hPp hF hR hlaw (by omega) hT (fun j a b => h_f39 j a (by omega)) | (have q := h_T72; rw [show a1 = 6 from by omega] at q; rw [pow7_e (show d < xS from by omega), show (P + 1) * (7 * 7 ^ (xS - (d + 1)).toNat) = (P * 7 + (6 + 1)) * 7 ^ (xS - (d + 1)).toNat from by rw [← Int.mul_assoc]; exact congrArg (fun z => z * 7 ^ (xS - (d + 1)).toNat) (by omega)]; exact q)), (show -1 ≤ nT ∧ nT ≤ 91200 from by omega)⟩, hz_at hP ht⟩, hS.F ht⟩) hS.2.2 dX0_seekFrom_93
        · have eF2 : ∀ q : Int, 0 ≤ q → q ≤ 5 → nF q = fS ba xTe xAw nRo d q := fun q a b => by rw [h_F72 q a b, hF q a b]; exact fS_row (by omega) (fun j c e => (h_Ro72 j c e).symm) q
          have eR2 : ∀ j : Int, 0 ≤ j → j < d → nRo j = rwZ d P j := fun j a b => (h_Ro72 j a b).trans (hR j a b)
          refine lv_aload_n hx hb dX0_seekFrom_79 rfl (lv_at hl 0 rfl) ?_
          refine lv_iload_n hx hb dX0_seekFrom_80 rfl (lv_at hl 1 rfl) ?_
          refine lv_iload hx hb dX0_seekFrom_81 (lv_at hl 3 rfl) ?_
          refine lv_aload_n hx hb dX0_seekFrom_83 rfl (lv_at hl 2 rfl) ?_
          refine hz_callWv (As := [zi d, zi a1, .ref b0]) (rest := []) ⟨hx, hb, hml, hown, hts⟩ (hTA s0 s1 s2 s3 s4 s5 s6 b0 _ xS nT nM nF xTe xAw nRo nBe xB d a1 ba P (by omega) hte haw hba eF2 hB eR2 hPp (by omega) (by omega) h_T72) (cwV 3 hts gX0_seekFrom_X0_tryAim rfl rfl rfl (by decide +kernel) ⟨by show 3 + 2 * k + 1 ≤ 2 + 2 * (k + 1); omega, by show 8 + (4 + 11) + (230 + 60 * k) ≤ 200 + 60 * (k + 1); omega⟩) hP hK hD hS hA 0 1 rfl rfl rfl rfl hl.1 rfl (Nat.le_of_ble_eq_true rfl) dX0_seekFrom_84 ⟨Nat.zero_le _, Nat.zero_le _⟩ (fun _ => rfl) (fun u H locs hu hP hD hS => ?_)
          obtain ⟨n_4, n_5, n_6, n_7, n_8⟩ := u
          have p9 : ∀ q : Int, 0 ≤ q → q ≤ 5 → n_6 q = nF q := hu.1
          have p10 : ∀ j : Int, 0 ≤ j → j < d → n_7 j = nRo j := hu.2.1
          have p11 : BSH ba xTe xAw xB xS ((P * 7 + (a1 + 2)) * 7 ^ (xS - (d + 1)).toNat) n_4 n_8 := hu.2.2.1
          have p12 : -1 ≤ n_4 ∧ n_4 ≤ 91200 := hu.2.2.2
          have hP : va_P G vwCl (sbW s0 s1 s2 s3 s4 s5 s6 b0 y xS n_4 n_5 n_6 xTe xAw n_7 n_8 xB) H := hP
          have hD : va_D A (sbW s0 s1 s2 s3 s4 s5 s6 b0 y xS n_4 n_5 n_6 xTe xAw n_7 n_8 xB) := hD
          refine hz_iinc (v := (a1 + 1)) (lv' := [(4, zi (a1 + 1)), (0, .ref s0), (1, zi d), (2, .ref b0)]) hx hb dX0_seekFrom_87 hl (k := 3) rfl (by omega) (by decide) rfl (fun ls hl => ?_)
          refine lv_goto (tgt := 72) hx hb dX0_seekFrom_90 (by decide) ?_
          exact ih72 (a1 + 1) n_4 n_5 n_6 n_7 n_8 _ _ (by omega) (fun q a b => (p9 q a b).trans (h_F72 q a b)) (fun j a b => (p10 j a b).trans (h_Ro72 j a b)) (by have q := p11; rw [show a1 + 2 = a1 + 1 + 1 from by omega] at q; exact q) (by omega) (by omega) hP hD hS ls (lv_sub hl [1, 2, 3, 0] rfl)
    exact L72 _ (-1) xT xM xF xRo xBe _ _ (by omega) (fun q a b => rfl) (fun j a b => rfl) (by have q := hT; rw [pow7_e (show d < xS from by omega)] at q; rw [show (P * 7 + (-1 + 1)) * 7 ^ (xS - (d + 1)).toNat = P * (7 * 7 ^ (xS - (d + 1)).toNat) from by rw [← Int.mul_assoc]; exact congrArg (fun z => z * 7 ^ (xS - (d + 1)).toNat) (by omega)]; exact q) (by omega) (Nat.lt_succ_self _) hP hD hS ls (lv_sub hl [2, 3, 4, 0] rfl)
  · exact W.vret hx hb hr (fun t ht hW => ⟨⟨(xT, xM, xF, xRo, xBe), rfl, ⟨(show ∀ q : Int, 0 ≤ q → q ≤ 5 → xF q = xF q from by first | exact (fun q a b => rfl) | exact h_F72), (show ∀ j : Int, 0 ≤ j → j < d → xRo j = xRo j from by first | exact (fun j a b => rfl) | exact h_Ro72), (show BSH ba xTe xAw xB xS ((P + 1) * 7 ^ (xS - d).toNat) xT xBe from by first | exact sk_bound (by omega) hPp hte hF hR (by omega) hT | exact sk_leaf (by omega) (by omega) hPp hF hR hlaw (by omega) hT (fun j a b => h_f39 j a (by omega)) | (have q := h_T72; rw [show a1 = 6 from by omega] at q; rw [pow7_e (show d < xS from by omega), show (P + 1) * (7 * 7 ^ (xS - (d + 1)).toNat) = (P * 7 + (6 + 1)) * 7 ^ (xS - (d + 1)).toNat from by rw [← Int.mul_assoc]; exact congrArg (fun z => z * 7 ^ (xS - (d + 1)).toNat) (by omega)]; exact q)), (show -1 ≤ xT ∧ xT ≤ 91200 from by omega)⟩, hz_at hP ht⟩, hS.F ht⟩) hS.2.2 dX0_seekFrom_22
theorem c_seek (l : Launch) (G : va_G) (y : Nat → ClassId) : ∀ k : Nat, SKP l G y k
  | 0 => c_seek0 l G y
  | k + 1 => c_seekS l G y k (c_tryA l G y k (c_seek l G y k))
