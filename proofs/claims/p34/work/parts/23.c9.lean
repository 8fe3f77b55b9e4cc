theorem c_J6_bitCount_0f7a4 (l : Launch) (set : Int) (hs : 0 ≤ set ∧ set < 4096) : Met l yJ6_bitCount_0f7a4 wsJ6_bitCount_0f7a4 ({ frames := 0, cells := 0, slots := 0, locals := 0 }) (va_Pc [zi set] (fun _ => True)) (vp_Si (fun r => r = zI (cntZ set 12))) 0 0 (fun _ => False) := by
  refine hz_ofS (cc := cJ6_bitCount_0f7a4) (maxL := 1) (ret := (some .int)) (by decide) rfl (Nat.le_of_ble_eq_true rfl) ?_
  intro p e s m below meth c ls hx hb hr hts hown hlocks hml hl
  have hown : s.vm.findClass RJ6 = some m.cls := hown
  have hl : lv_has ls 1 [(0, zi set)] := hl
  have b1 : bc1 set.toNat ≤ set.toNat := by unfold bc1; omega
  have b2 : bc2 set.toNat ≤ 2 * set.toNat := by unfold bc2; have q1 := @Nat.and_le_left (bc1 set.toNat) 858993459; have q2 := @Nat.and_le_left (bc1 set.toNat / 4) 858993459; omega
  have b3 : bc3 set.toNat ≤ 4 * set.toNat := by unfold bc3; have q1 := @Nat.and_le_left (bc2 set.toNat + bc2 set.toNat / 16) 252645135; omega
  have b4 : bc4 set.toNat ≤ 8 * set.toNat := by unfold bc4; omega
  have b5 : bc5 set.toNat ≤ 16 * set.toNat := by unfold bc5; omega
  have a1 : anZ (set / 2) 1431655765 = ((set.toNat / 2 &&& 1431655765 : Nat) : Int) := anZ_c (by omega) rfl
  have q9 := @Nat.and_le_left (set.toNat / 2) 1431655765
  have a2 : anZ ((bc1 set.toNat : Nat) : Int) 858993459 = ((bc1 set.toNat &&& 858993459 : Nat) : Int) := anZ_c rfl rfl
  have a3 : anZ (((bc1 set.toNat : Nat) : Int) / 4) 858993459 = ((bc1 set.toNat / 4 &&& 858993459 : Nat) : Int) := anZ_c (by omega) rfl
  have a4 : anZ (((bc2 set.toNat : Nat) : Int) + ((bc2 set.toNat : Nat) : Int) / 16) 252645135 = ((bc2 set.toNat + bc2 set.toNat / 16 &&& 252645135 : Nat) : Int) := anZ_c (by omega) rfl
  have a5 : anZ ((bc5 set.toNat : Nat) : Int) 63 = ((bc5 set.toNat &&& 63 : Nat) : Int) := anZ_c rfl rfl
  refine lv_iload_n hx hb dJ6_bitCount_0f7a4_0 rfl (lv_at hl 0 rfl) ?_
  refine lv_iload_n hx hb dJ6_bitCount_0f7a4_1 rfl (lv_at hl 0 rfl) ?_
  refine hz_iconst hx hb dJ6_bitCount_0f7a4_2 ?_
  refine hz_iushr (d := 2) hx hb dJ6_bitCount_0f7a4_3 (by omega) rfl ?_
  refine lv_ldcw (v := zI 1431655765) hx hb hown (hts (.constant RJ6 265 (1431655765)) (List.mem_of_getElem? (i := 1) rfl)) dJ6_bitCount_0f7a4_4 ?_
  refine hz_iandZ hx hb dJ6_bitCount_0f7a4_7 (by omega) ?_
  refine hz_isub hx hb dJ6_bitCount_0f7a4_8 ?_
  refine hz_tope (z2 := ((bc1 set.toNat : Nat) : Int)) (by rw [a1]; unfold bc1; omega) ?_
  refine lv_istore_n (lv' := [(0, zi ((bc1 set.toNat : Nat) : Int))]) hx hb dJ6_bitCount_0f7a4_9 rfl hl (by decide) rfl (fun ls hl => ?_)
  refine lv_iload_n hx hb dJ6_bitCount_0f7a4_10 rfl (lv_at hl 0 rfl) ?_
  refine lv_ldcw (v := zI 858993459) hx hb hown (hts (.constant RJ6 266 (858993459)) (List.mem_of_getElem? (i := 2) rfl)) dJ6_bitCount_0f7a4_11 ?_
  refine hz_iandZ hx hb dJ6_bitCount_0f7a4_14 (by omega) ?_
  refine lv_iload_n hx hb dJ6_bitCount_0f7a4_15 rfl (lv_at hl 0 rfl) ?_
  refine hz_iconst hx hb dJ6_bitCount_0f7a4_16 ?_
  refine hz_iushr (d := 4) hx hb dJ6_bitCount_0f7a4_17 (by omega) rfl ?_
  refine lv_ldcw (v := zI 858993459) hx hb hown (hts (.constant RJ6 266 (858993459)) (List.mem_of_getElem? (i := 2) rfl)) dJ6_bitCount_0f7a4_18 ?_
  refine hz_iandZ hx hb dJ6_bitCount_0f7a4_21 (by omega) ?_
  refine hz_iadd hx hb dJ6_bitCount_0f7a4_22 ?_
  refine hz_tope (z2 := ((bc2 set.toNat : Nat) : Int)) (by rw [a2, a3]; unfold bc2; omega) ?_
  refine lv_istore_n (lv' := [(0, zi ((bc2 set.toNat : Nat) : Int))]) hx hb dJ6_bitCount_0f7a4_23 rfl hl (by decide) rfl (fun ls hl => ?_)
  refine lv_iload_n hx hb dJ6_bitCount_0f7a4_24 rfl (lv_at hl 0 rfl) ?_
  refine lv_iload_n hx hb dJ6_bitCount_0f7a4_25 rfl (lv_at hl 0 rfl) ?_
  refine hz_iconst hx hb dJ6_bitCount_0f7a4_26 ?_
  refine hz_iushr (d := 16) hx hb dJ6_bitCount_0f7a4_27 (by omega) rfl ?_
  refine hz_iadd hx hb dJ6_bitCount_0f7a4_28 ?_
  refine lv_ldcw (v := zI 252645135) hx hb hown (hts (.constant RJ6 267 (252645135)) (List.mem_of_getElem? (i := 3) rfl)) dJ6_bitCount_0f7a4_29 ?_
  refine hz_iandZ hx hb dJ6_bitCount_0f7a4_32 (by omega) ?_
  refine hz_tope (z2 := ((bc3 set.toNat : Nat) : Int)) (by rw [a4]; rfl) ?_
  refine lv_istore_n (lv' := [(0, zi ((bc3 set.toNat : Nat) : Int))]) hx hb dJ6_bitCount_0f7a4_33 rfl hl (by decide) rfl (fun ls hl => ?_)
  refine lv_iload_n hx hb dJ6_bitCount_0f7a4_34 rfl (lv_at hl 0 rfl) ?_
  refine lv_iload_n hx hb dJ6_bitCount_0f7a4_35 rfl (lv_at hl 0 rfl) ?_
  refine hz_bipush hx hb dJ6_bitCount_0f7a4_36 (by decide) ?_
  refine hz_iushr (d := 256) hx hb dJ6_bitCount_0f7a4_38 (by omega) rfl ?_
  refine hz_iadd hx hb dJ6_bitCount_0f7a4_39 ?_
  refine hz_tope (z2 := ((bc4 set.toNat : Nat) : Int)) (by unfold bc4; omega) ?_
  refine lv_istore_n (lv' := [(0, zi ((bc4 set.toNat : Nat) : Int))]) hx hb dJ6_bitCount_0f7a4_40 rfl hl (by decide) rfl (fun ls hl => ?_)
  refine lv_iload_n hx hb dJ6_bitCount_0f7a4_41 rfl (lv_at hl 0 rfl) ?_
  refine lv_iload_n hx hb dJ6_bitCount_0f7a4_42 rfl (lv_at hl 0 rfl) ?_
  refine hz_bipush hx hb dJ6_bitCount_0f7a4_43 (by decide) ?_
  refine hz_iushr (d := 65536) hx hb dJ6_bitCount_0f7a4_45 (by omega) rfl ?_
  refine hz_iadd hx hb dJ6_bitCount_0f7a4_46 ?_
  refine hz_tope (z2 := ((bc5 set.toNat : Nat) : Int)) (by unfold bc5; omega) ?_
  refine lv_istore_n (lv' := [(0, zi ((bc5 set.toNat : Nat) : Int))]) hx hb dJ6_bitCount_0f7a4_47 rfl hl (by decide) rfl (fun ls hl => ?_)
  refine lv_iload_n hx hb dJ6_bitCount_0f7a4_48 rfl (lv_at hl 0 rfl) ?_
  refine hz_bipush hx hb dJ6_bitCount_0f7a4_49 (by decide) ?_
  refine hz_iandZ hx hb dJ6_bitCount_0f7a4_51 (by omega) ?_
  exact W.iret (v := zI (anZ ((bc5 set.toNat : Nat) : Int) 63)) hx hb hr (fun t ht hW => ⟨zI (anZ ((bc5 set.toNat : Nat) : Int) 63), rfl, congrArg zI (by rw [a5, bc_eq (by omega)]; exact bc_cnt hs.1), ht⟩) (fun q hq => absurd hq List.not_mem_nil) dJ6_bitCount_0f7a4_52
abbrev Q_X7_needSet (G : va_G) (ah : Nat → Nat) (z : LZ) (y : Nat → ClassId) (vN vC vNow vHaze vCold vHot vPipe vDeg vThaw vTrc vTurb vLeft vLoad vWater vTrips vMi1 vMi2 vSz vBs : Int) (vCell vDirt vAim vErr vCor vBrk vTop vLm vRows vCols vDown vRight vBound vStrain vPrice vFirm vSums vTk vFl1 vFl2 vTe vAw vRo vBe : Int → Int) (sid : Int) (A : Nat → Prop) : Array Value → State → Outcome → State → Prop := QXv G (fun (u : Unit) => (okZ sid vN vBrk = 1) ∧ (1 ≤ sid ∧ sid < 4096) ∧ (cntZ sid 12 = cntZ sid vN) ∧ (0 ≤ cntZ sid vN ∧ cntZ sid vN ≤ 4)) (fun u => (hW ah z y vN vC vNow vHaze vCold vHot vPipe vDeg vThaw vTrc vTurb vLeft vLoad vWater vTrips vMi1 vMi2 vSz vBs vCell vDirt vAim vErr vCor vBrk vTop vLm vRows vCols vDown vRight vBound vStrain vPrice vFirm vSums vTk vFl1 vFl2 vTe vAw vRo vBe)) A
abbrev X_X7_needSet (G : va_G) (ah : Nat → Nat) (z : LZ) (y : Nat → ClassId) (vN vC vNow vHaze vCold vHot vPipe vDeg vThaw vTrc vTurb vLeft vLoad vWater vTrips vMi1 vMi2 vSz vBs : Int) (vCell vDirt vAim vErr vCor vBrk vTop vLm vRows vCols vDown vRight vBound vStrain vPrice vFirm vSums vTk vFl1 vFl2 vTe vAw vRo vBe : Int → Int) (sid : Int) (A : Nat → Prop) : String → State → State → Prop := XXw G (fun (E : String) (u : Unit) => (E = XA ∧ okZ sid vN vBrk = 0)) (fun u => (hW ah z y vN vC vNow vHaze vCold vHot vPipe vDeg vThaw vTrc vTurb vLeft vLoad vWater vTrips vMi1 vMi2 vSz vBs vCell vDirt vAim vErr vCor vBrk vTop vLm vRows vCols vDown vRight vBound vStrain vPrice vFirm vSums vTk vFl1 vFl2 vTe vAw vRo vBe)) A
set_option maxHeartbeats 4000000 in
set_option maxRecDepth 100000 in
theorem c_X7_needSet (l : Launch) (hlt : l.stackTraces = false) (G : va_G) (ah : Nat → Nat) (z : LZ) (zE : Nat) (y : Nat → ClassId) (sz : Nat) (vN vC vNow vHaze vCold vHot vPipe vDeg vThaw vTrc vTurb vLeft vLoad vWater vTrips vMi1 vMi2 vSz vBs : Int) (vCell vDirt vAim vErr vCor vBrk vTop vLm vRows vCols vDown vRight vBound vStrain vPrice vFirm vSums vTk vFl1 vFl2 vTe vAw vRo vBe : Int → Int) (sid : Int) (hZ : LZok z vN vC) (hN : 0 ≤ vN ∧ vN ≤ 12) (hBrk : ∀ j9 : Int, 0 ≤ vBrk j9 ∧ vBrk j9 ≤ 1) (rsid : -2147483648 ≤ sid ∧ sid < 2147483648) : vx_Met l yX7_needSet wsX7_needSet ({ frames := 6, cells := 1, slots := 6, locals := 95 }) (va_Pc [.ref (ah 0), zi sid] (HPreG zE G (tyL y) (hW ah z y vN vC vNow vHaze vCold vHot vPipe vDeg vThaw vTrc vTurb vLeft vLoad vWater vTrips vMi1 vMi2 vSz vBs vCell vDirt vAim vErr vCor vBrk vTop vLm vRows vCols vDown vRight vBound vStrain vPrice vFirm vSums vTk vFl1 vFl2 vTe vAw vRo vBe) sz)) (Q_X7_needSet G ah z y vN vC vNow vHaze vCold vHot vPipe vDeg vThaw vTrc vTurb vLeft vLoad vWater vTrips vMi1 vMi2 vSz vBs vCell vDirt vAim vErr vCor vBrk vTop vLm vRows vCols vDown vRight vBound vStrain vPrice vFirm vSums vTk vFl1 vFl2 vTe vAw vRo vBe sid (va_A (hW ah z y vN vC vNow vHaze vCold vHot vPipe vDeg vThaw vTrc vTurb vLeft vLoad vWater vTrips vMi1 vMi2 vSz vBs vCell vDirt vAim vErr vCor vBrk vTop vLm vRows vCols vDown vRight vBound vStrain vPrice vFirm vSums vTk vFl1 vFl2 vTe vAw vRo vBe) sz)) (X_X7_needSet G ah z y vN vC vNow vHaze vCold vHot vPipe vDeg vThaw vTrc vTurb vLeft vLoad vWater vTrips vMi1 vMi2 vSz vBs vCell vDirt vAim vErr vCor vBrk vTop vLm vRows vCols vDown vRight vBound vStrain vPrice vFirm vSums vTk vFl1 vFl2 vTe vAw vRo vBe sid (va_A (hW ah z y vN vC vNow vHaze vCold vHot vPipe vDeg vThaw vTrc vTurb vLeft vLoad vWater vTrips vMi1 vMi2 vSz vBs vCell vDirt vAim vErr vCor vBrk vTop vLm vRows vCols vDown vRight vBound vStrain vPrice vFirm vSums vTk vFl1 vFl2 vTe vAw vRo vBe) sz)) 1 6 (va_A (hW ah z y vN vC vNow vHaze vCold vHot vPipe vDeg vThaw vTrc vTurb vLeft vLoad vWater vTrips vMi1 vMi2 vSz vBs vCell vDirt vAim vErr vCor vBrk vTop vLm vRows vCols vDown vRight vBound vStrain vPrice vFirm vSums vTk vFl1 vFl2 vTe vAw vRo vBe) sz) := by
  refine hz_ofWX (Qf := Q_X7_needSet G ah z y vN vC vNow vHaze vCold vHot vPipe vDeg vThaw vTrc vTurb vLeft vLoad vWater vTrips vMi1 vMi2 vSz vBs vCell vDirt vAim vErr vCor vBrk vTop vLm vRows vCols vDown vRight vBound vStrain vPrice vFirm vSums vTk vFl1 vFl2 vTe vAw vRo vBe sid) (Xf := X_X7_needSet G ah z y vN vC vNow vHaze vCold vHot vPipe vDeg vThaw vTrc vTurb vLeft vLoad vWater vTrips vMi1 vMi2 vSz vBs vCell vDirt vAim vErr vCor vBrk vTop vLm vRows vCols vDown vRight vBound vStrain vPrice vFirm vSums vTk vFl1 vFl2 vTe vAw vRo vBe sid) (cc := cX7_needSet) (maxL := 3) (ret := none) (by decide) rfl (Nat.le_of_ble_eq_true rfl) ?_
  intro p e s m below meth c A ls hx hb hr hts hown hlocks hml htab hP hK hA hD hS hGP hl
  have hown : s.vm.findClass RX7 = some m.cls := hown
  have hl : lv_has ls 3 [(0, .ref (ah 0)), (1, zi sid)] := hl
  have hinwsJx4a65c0 : ∀ w ∈ wsJx4a65c0, w ∈ wsX7_needSet := fun _ h => List.mem_cons_of_mem _ (List.mem_append_left _ (List.mem_append_right _ (h)))
  have hinwsX20 : ∀ w ∈ wsX20, w ∈ wsX7_needSet := fun _ h => List.mem_cons_of_mem _ (List.mem_append_left _ (List.mem_append_left _ (List.mem_append_left _ (List.mem_append_right _ (h)))))
  have hinwsX40 : ∀ w ∈ wsX40, w ∈ wsX7_needSet := fun _ h => List.mem_cons_of_mem _ (List.mem_append_left _ (List.mem_append_left _ (List.mem_append_right _ (h))))
  have hinwsX70 : ∀ w ∈ wsX70, w ∈ wsX7_needSet := fun _ h => List.mem_cons_of_mem _ (List.mem_append_left _ (List.mem_append_left _ (List.mem_append_left _ (List.mem_append_left _ (List.mem_append_right _ (h))))))
  have hp12 := pow2_12 hN
  have hpp : (0 : Int) < 2 ^ vN.toNat := Int.pow_pos (by omega)
  have hc12 := cnt_le12 sid
  refine lv_iload_n hx hb dX7_needSet_0 rfl (lv_at hl 1 rfl) ?_
  refine hz_if_le (tgt := 20) hx hb dX7_needSet_1 (by decide) (by omega) (fun c1 => ?_) (fun c1 => ?_)
  · exact hz_thrW (E := XA) (text := "no such set") (ik := 166) (is := 310) (ic := 170) hx hb hlt hown hts (fun _ h => List.mem_cons_of_mem _ (by first | exact List.mem_append_right _ h | exact List.mem_append_left _ (List.mem_append_right _ h) | exact List.mem_append_left _ (List.mem_append_left _ (List.mem_append_right _ h)))) (List.mem_of_getElem? (i := 1) rfl) (List.mem_of_getElem? (i := 2) rfl) hx0_XA hx1_XA hx2_XA hGP (by decide) hS (hl.1.trans hml.symm) dX7_needSet_20 dX7_needSet_23 dX7_needSet_24 dX7_needSet_27 dX7_needSet_30 htab (Nat.le_of_ble_eq_true rfl) (Nat.le_of_ble_eq_true rfl) (Nat.le_of_ble_eq_true rfl) (Nat.le_of_ble_eq_true rfl) hlocks (fun t h1 h2 => ⟨(), trivial, ⟨⟨rfl, by
          have h9 := shr_0 (a := sid) (k := vN.toNat)
          first
            | exact okZ_n1 (by omega)
            | exact isZ_0 (fun q => by have q1 := q.2.1; omega)
            | exact okZ_n2 (k := k) (by omega) (by omega) (by omega) (by omega)⟩, hz_keptAll hP (fun q hq _ => h2 q hq)⟩, hz_FX hS h1 h2⟩) hS.2.2 (Nat.le_of_ble_eq_true rfl) (Nat.le_of_ble_eq_true rfl)
  · refine lv_iload_n hx hb dX7_needSet_4 rfl (lv_at hl 1 rfl) ?_
    refine hz_iconst hx hb dX7_needSet_5 ?_
    refine lv_aload_n hx hb dX7_needSet_6 rfl (lv_at hl 0 rfl) ?_
    refine va_get (D := G) (ci := 8) (v := .ref (ah 1)) (C := RX7) (T := TX7) (N := 14) hx hb hts hinwsX70 hown hK hP 0 rfl rfl 0 (by decide) (hts (.fieldLink RX7 10 "Heliokeep" "field" "LHeliokeep$Field;") (List.mem_of_getElem? (i := 3) rfl)) (fun _ h9 => h9) rfl dX7_needSet_7 ?_
    refine va_get (D := G) (ci := 3) (v := .ref (ah 19)) (C := RX2) (T := TX2) (N := 5) hx hb hts hinwsX20 hown hK hP 1 rfl rfl 0 (by decide) (hts (.fieldLink RX7 81 "Heliokeep$Field" "mirrors" "Ljava/util/ArrayList;") (List.mem_of_getElem? (i := 4) rfl)) (fun _ h9 => h9) rfl dX7_needSet_10 ?_
    refine hz_callRi (As := []) (rest := [zi 1, zi sid]) ⟨hx, hb, hml, hown, hts⟩ (c_Jx4a65c_size_8abf5 l G (ah 19) (.int z.1) (.ref z.2.2.1) y vN) (cwV 0 hts gX7_needSet_Jx4a65c_size_8abf5 rfl rfl rfl (by decide +kernel) ⟨Nat.le_of_ble_eq_true rfl, Nat.le_of_ble_eq_true rfl⟩) (hz_cons hP (i := 19) rfl hz_nil) hK 0 0 rfl rfl rfl rfl hl.1 rfl (Nat.le_of_ble_eq_true rfl) dX7_needSet_13 ⟨Nat.le_of_ble_eq_true rfl, Nat.le_of_ble_eq_true rfl⟩ ?_
    refine hz_ishl1 hx hb dX7_needSet_16 (by omega) ?_
    refine hz_icmp_lt (tgt := 31) hx hb dX7_needSet_17 (by decide) (by omega) (fun c2 => ?_) (fun c2 => ?_)
    · have hct := cnt_hi hN (by omega) (show sid < 2 ^ vN.toNat by omega)
      have hc0 := cntZ_0 (set := sid) hN.1
      refine lv_iload_n hx hb dX7_needSet_31 rfl (lv_at hl 1 rfl) ?_
      refine hz_callSi (As := [zi sid]) (rest := []) ⟨hx, hb, hml, hown, hts⟩ (c_J6_bitCount_0f7a4 l sid (by omega)) (va_cwS 1 hts gX7_needSet_J6_bitCount_0f7a4 rfl rfl rfl (by decide +kernel) ⟨Nat.le_of_ble_eq_true rfl, Nat.le_of_ble_eq_true rfl⟩) rfl hl.1 rfl (Nat.le_of_ble_eq_true rfl) dX7_needSet_32 ⟨Nat.le_of_ble_eq_true rfl, Nat.le_of_ble_eq_true rfl⟩ ?_
      refine hz_iconst hx hb dX7_needSet_35 ?_
      refine hz_icmp_le (tgt := 50) hx hb dX7_needSet_36 (by decide) (by omega) (fun c3 => ?_) (fun c3 => ?_)
      · refine hz_iconst hx hb dX7_needSet_50 ?_
        refine lv_istore_n (lv' := [(2, zi 0), (0, .ref (ah 0)), (1, zi sid)]) hx hb dX7_needSet_51 rfl hl (by decide) rfl (fun ls hl => ?_)
        have L52 : ∀ (n : Nat) (k : Int) (H : Heap) (locs : List Loc), (0 ≤ k ∧ k ≤ vN) → (∀ i : Int, 0 ≤ i → i < k → memZ sid i = 1 → ¬ vBrk i = 1) → ((vN - k).toNat) < n → va_P G vwCl (hW ah z y vN vC vNow vHaze vCold vHot vPipe vDeg vThaw vTrc vTurb vLeft vLoad vWater vTrips vMi1 vMi2 vSz vBs vCell vDirt vAim vErr vCor vBrk vTop vLm vRows vCols vDown vRight vBound vStrain vPrice vFirm vSums vTk vFl1 vFl2 vTe vAw vRo vBe) H → va_D A (hW ah z y vN vC vNow vHaze vCold vHot vPipe vDeg vThaw vTrc vTurb vLeft vLoad vWater vTrips vMi1 vMi2 vSz vBs vCell vDirt vAim vErr vCor vBrk vTop vLm vRows vCols vDown vRight vBound vStrain vPrice vFirm vSums vTk vFl1 vFl2 vTe vAw vRo vBe) → va_S A s.heap H locs → ∀ ls : Array Slot, lv_has ls 3 [(0, .ref (ah 0)), (1, zi sid), (2, zi k)] → W p l e (headSpec wsX7_needSet ({ frames := 6, cells := 1, slots := 6, locals := 95 })).room s m ([.ref (ah 0), zi sid] : List Value).toArray below meth c H locs 0 0 (vx_MQ below (Q_X7_needSet G ah z y vN vC vNow vHaze vCold vHot vPipe vDeg vThaw vTrc vTurb vLeft vLoad vWater vTrips vMi1 vMi2 vSz vBs vCell vDirt vAim vErr vCor vBrk vTop vLm vRows vCols vDown vRight vBound vStrain vPrice vFirm vSums vTk vFl1 vFl2 vTe vAw vRo vBe sid A) (X_X7_needSet G ah z y vN vC vNow vHaze vCold vHot vPipe vDeg vThaw vTrc vTurb vLeft vLoad vWater vTrips vMi1 vMi2 vSz vBs vCell vDirt vAim vErr vCor vBrk vTop vLm vRows vCols vDown vRight vBound vStrain vPrice vFirm vSums vTk vFl1 vFl2 vTe vAw vRo vBe sid A) ([.ref (ah 0), zi sid] : List Value).toArray s 1 6 A) (F0 m 52 ls []) := by
          intro n
          induction n with
          | zero => exact fun k H locs h_k52 h_b52 hm => absurd hm (Nat.not_lt_zero _)
          | succ n ih52 =>
            intro k H locs h_k52 h_b52 hm52 hP hD hS ls hl
            refine lv_iload_n hx hb dX7_needSet_52 rfl (lv_at hl 2 rfl) ?_
            refine lv_aload_n hx hb dX7_needSet_53 rfl (lv_at hl 0 rfl) ?_
            refine va_get (D := G) (ci := 8) (v := .ref (ah 1)) (C := RX7) (T := TX7) (N := 14) hx hb hts hinwsX70 hown hK hP 0 rfl rfl 0 (by decide) (hts (.fieldLink RX7 10 "Heliokeep" "field" "LHeliokeep$Field;") (List.mem_of_getElem? (i := 3) rfl)) (fun _ h9 => h9) rfl dX7_needSet_54 ?_
            refine va_get (D := G) (ci := 3) (v := .ref (ah 19)) (C := RX2) (T := TX2) (N := 5) hx hb hts hinwsX20 hown hK hP 1 rfl rfl 0 (by decide) (hts (.fieldLink RX7 81 "Heliokeep$Field" "mirrors" "Ljava/util/ArrayList;") (List.mem_of_getElem? (i := 4) rfl)) (fun _ h9 => h9) rfl dX7_needSet_57 ?_
            refine hz_callRi (As := []) (rest := [zi k]) ⟨hx, hb, hml, hown, hts⟩ (c_Jx4a65c_size_8abf5 l G (ah 19) (.int z.1) (.ref z.2.2.1) y vN) (cwV 0 hts gX7_needSet_Jx4a65c_size_8abf5 rfl rfl rfl (by decide +kernel) ⟨Nat.le_of_ble_eq_true rfl, Nat.le_of_ble_eq_true rfl⟩) (hz_cons hP (i := 19) rfl hz_nil) hK 0 0 rfl rfl rfl rfl hl.1 rfl (Nat.le_of_ble_eq_true rfl) dX7_needSet_60 ⟨Nat.le_of_ble_eq_true rfl, Nat.le_of_ble_eq_true rfl⟩ ?_
            refine hz_icmp_ge (tgt := 111) hx hb dX7_needSet_63 (by decide) (by omega) (fun c4 => ?_) (fun c4 => ?_)
            · exact hz_up (Nat.le_of_ble_eq_true rfl) (Nat.le_of_ble_eq_true rfl) (W.vret hx hb hr (fun t ht hW => ⟨⟨(), rfl, ⟨(show okZ sid vN vBrk = 1 from by have h9 := (shr_0 (a := sid) (k := vN.toNat) (by omega)).2 (by omega); exact okZ_y (k := k) ⟨by omega, h9⟩ (by omega) (by rw [show k = vN from by omega]; omega) h_b52), (show 1 ≤ sid ∧ sid < 4096 from by omega), (show cntZ sid 12 = cntZ sid vN from by omega), (show 0 ≤ cntZ sid vN ∧ cntZ sid vN ≤ 4 from by omega)⟩, hz_at hP ht⟩, hS.F ht⟩) hS.2.2 dX7_needSet_111)
            · refine lv_iload_n hx hb dX7_needSet_66 rfl (lv_at hl 1 rfl) ?_
              refine lv_iload_n hx hb dX7_needSet_67 rfl (lv_at hl 2 rfl) ?_
              refine hz_callSi (As := [zi sid, zi k]) (rest := []) ⟨hx, hb, hml, hown, hts⟩ (c_X7_isIn l sid k (by omega) (by omega)) (va_cwS 2 hts gX7_needSet_X7_isIn rfl rfl rfl (by decide +kernel) ⟨Nat.le_of_ble_eq_true rfl, Nat.le_of_ble_eq_true rfl⟩) rfl hl.1 rfl (Nat.le_of_ble_eq_true rfl) dX7_needSet_68 ⟨Nat.le_of_ble_eq_true rfl, Nat.le_of_ble_eq_true rfl⟩ ?_
              have q01 := memZ_01 sid k
              have qb := hBrk k
              refine hz_if_eq (tgt := 105) hx hb dX7_needSet_71 (by decide) (by omega) (fun c5 => ?_) (fun c5 => ?_)
              · refine hz_iinc (v := (k + 1)) (lv' := [(2, zi (k + 1)), (0, .ref (ah 0)), (1, zi sid)]) hx hb dX7_needSet_105 hl (k := 2) rfl (by omega) (by decide) rfl (fun ls hl => ?_)
                refine lv_goto (tgt := 52) hx hb dX7_needSet_108 (by decide) ?_
                exact ih52 (k + 1) _ _ (by omega) (by
          intro i a b d
          by_cases e : i = k
          · rw [e] at d ⊢; omega
          · exact h_b52 i a (by omega) d) (by omega) hP hD hS ls (lv_sub hl [1, 2, 0] rfl)
              · refine lv_aload_n hx hb dX7_needSet_74 rfl (lv_at hl 0 rfl) ?_
                refine va_get (D := G) (ci := 8) (v := .ref (ah 1)) (C := RX7) (T := TX7) (N := 14) hx hb hts hinwsX70 hown hK hP 0 rfl rfl 0 (by decide) (hts (.fieldLink RX7 10 "Heliokeep" "field" "LHeliokeep$Field;") (List.mem_of_getElem? (i := 3) rfl)) (fun _ h9 => h9) rfl dX7_needSet_75 ?_
                refine va_get (D := G) (ci := 3) (v := .ref (ah 19)) (C := RX2) (T := TX2) (N := 5) hx hb hts hinwsX20 hown hK hP 1 rfl rfl 0 (by decide) (hts (.fieldLink RX7 81 "Heliokeep$Field" "mirrors" "Ljava/util/ArrayList;") (List.mem_of_getElem? (i := 4) rfl)) (fun _ h9 => h9) rfl dX7_needSet_78 ?_
                refine lv_iload_n hx hb dX7_needSet_81 rfl (lv_at hl 2 rfl) ?_
                obtain ⟨i6, hi6⟩ := hW_l1 (ah := ah) (z := z) (y := y) (vN := vN) (vC := vC) (vNow := vNow) (vHaze := vHaze) (vCold := vCold) (vHot := vHot) (vPipe := vPipe) (vDeg := vDeg) (vThaw := vThaw) (vTrc := vTrc) (vTurb := vTurb) (vLeft := vLeft) (vLoad := vLoad) (vWater := vWater) (vTrips := vTrips) (vMi1 := vMi1) (vMi2 := vMi2) (vSz := vSz) (vBs := vBs) (vCell := vCell) (vDirt := vDirt) (vAim := vAim) (vErr := vErr) (vCor := vCor) (vBrk := vBrk) (vTop := vTop) (vLm := vLm) (vRows := vRows) (vCols := vCols) (vDown := vDown) (vRight := vRight) (vBound := vBound) (vStrain := vStrain) (vPrice := vPrice) (vFirm := vFirm) (vSums := vSums) (vTk := vTk) (vFl1 := vFl1) (vFl2 := vFl2) (vTe := vTe) (vAw := vAw) (vRo := vRo) (vBe := vBe) hZ (by omega)
                refine hz_callRq (As := [zi k]) (rest := []) ⟨hx, hb, hml, hown, hts⟩ (c_Jx4a65c_get_915e3 l G (ah 19) z.2.2.1 (.int z.1) z.2.2.2.1 z.2.2.2.2.1 y vN k (zam z k) (by omega) hZ.1.2.1 (hZ.1.2.2 k (by omega) (by omega))) (cwV 1 hts gX7_needSet_Jx4a65c_get_915e3 rfl rfl rfl (by decide +kernel) ⟨Nat.le_of_ble_eq_true rfl, Nat.le_of_ble_eq_true rfl⟩) (hz_cons hP (i := 19) rfl (hz_cons hP (i := i6) hi6 hz_nil)) hK 0 0 rfl rfl rfl rfl hl.1 rfl (Nat.le_of_ble_eq_true rfl) dX7_needSet_82 ⟨Nat.le_of_ble_eq_true rfl, Nat.le_of_ble_eq_true rfl⟩ ?_
                obtain ⟨i7, hi7, i7hd, i7ha, i7he, i7hc, i7hk⟩ := hW_m (ah := ah) (z := z) (y := y) (vN := vN) (vC := vC) (vNow := vNow) (vHaze := vHaze) (vCold := vCold) (vHot := vHot) (vPipe := vPipe) (vDeg := vDeg) (vThaw := vThaw) (vTrc := vTrc) (vTurb := vTurb) (vLeft := vLeft) (vLoad := vLoad) (vWater := vWater) (vTrips := vTrips) (vMi1 := vMi1) (vMi2 := vMi2) (vSz := vSz) (vBs := vBs) (vCell := vCell) (vDirt := vDirt) (vAim := vAim) (vErr := vErr) (vCor := vCor) (vBrk := vBrk) (vTop := vTop) (vLm := vLm) (vRows := vRows) (vCols := vCols) (vDown := vDown) (vRight := vRight) (vBound := vBound) (vStrain := vStrain) (vPrice := vPrice) (vFirm := vFirm) (vSums := vSums) (vTk := vTk) (vFl1 := vFl1) (vFl2 := vFl2) (vTe := vTe) (vAw := vAw) (vRo := vRo) (vBe := vBe) (k := k) (by omega) (by omega)
                refine va_castS (cC := G.1 5) hx hb hown (hts (.classLink RX7 106 "Heliokeep$Mirror") (List.mem_of_getElem? (i := 5) rfl)) (hK.1 5 (RX4, TX4, 8) rfl).2 (va_recv hK hP (ci := 5) (q0 := i7) rfl hi7) dX7_needSet_85 ?_
                obtain ⟨i8, hi8, i8hd, i8ha, i8he, i8hc, i8hk⟩ := hW_m (ah := ah) (z := z) (y := y) (vN := vN) (vC := vC) (vNow := vNow) (vHaze := vHaze) (vCold := vCold) (vHot := vHot) (vPipe := vPipe) (vDeg := vDeg) (vThaw := vThaw) (vTrc := vTrc) (vTurb := vTurb) (vLeft := vLeft) (vLoad := vLoad) (vWater := vWater) (vTrips := vTrips) (vMi1 := vMi1) (vMi2 := vMi2) (vSz := vSz) (vBs := vBs) (vCell := vCell) (vDirt := vDirt) (vAim := vAim) (vErr := vErr) (vCor := vCor) (vBrk := vBrk) (vTop := vTop) (vLm := vLm) (vRows := vRows) (vCols := vCols) (vDown := vDown) (vRight := vRight) (vBound := vBound) (vStrain := vStrain) (vPrice := vPrice) (vFirm := vFirm) (vSums := vSums) (vTk := vTk) (vFl1 := vFl1) (vFl2 := vFl2) (vTe := vTe) (vAw := vAw) (vRo := vRo) (vBe := vBe) (k := k) (by omega) (by omega)
                refine va_get (D := G) (ci := 5) (v := zi (vBrk k)) (C := RX4) (T := TX4) (N := 8) hx hb hts hinwsX40 hown hK hP i8 hi8 rfl 7 (by decide) (hts (.fieldLink RX7 131 "Heliokeep$Mirror" "broken" "Z") (List.mem_of_getElem? (i := 6) rfl)) (fun _ h9 => h9) rfl dX7_needSet_88 ?_
                refine hz_if_eq (tgt := 105) hx hb dX7_needSet_91 (by decide) (by omega) (fun c9 => ?_) (fun c9 => ?_)
                · refine hz_iinc (v := (k + 1)) (lv' := [(2, zi (k + 1)), (0, .ref (ah 0)), (1, zi sid)]) hx hb dX7_needSet_105 hl (k := 2) rfl (by omega) (by decide) rfl (fun ls hl => ?_)
                  refine lv_goto (tgt := 52) hx hb dX7_needSet_108 (by decide) ?_
                  exact ih52 (k + 1) _ _ (by omega) (by
          intro i a b d
          by_cases e : i = k
          · rw [e] at d ⊢; omega
          · exact h_b52 i a (by omega) d) (by omega) hP hD hS ls (lv_sub hl [1, 2, 0] rfl)
                · exact hz_thrW (E := XA) (text := "one is broken") (ik := 166) (is := 318) (ic := 170) hx hb hlt hown hts (fun _ h => List.mem_cons_of_mem _ (by first | exact List.mem_append_right _ h | exact List.mem_append_left _ (List.mem_append_right _ h) | exact List.mem_append_left _ (List.mem_append_left _ (List.mem_append_right _ h)))) (List.mem_of_getElem? (i := 1) rfl) (List.mem_of_getElem? (i := 2) rfl) hx0_XA hx1_XA hx2_XA hGP (by decide) hS (hl.1.trans hml.symm) dX7_needSet_94 dX7_needSet_97 dX7_needSet_98 dX7_needSet_101 dX7_needSet_104 htab (Nat.le_of_ble_eq_true rfl) (Nat.le_of_ble_eq_true rfl) (Nat.le_of_ble_eq_true rfl) (Nat.le_of_ble_eq_true rfl) hlocks (fun t h1 h2 => ⟨(), trivial, ⟨⟨rfl, by
          have h9 := shr_0 (a := sid) (k := vN.toNat)
          first
            | exact okZ_n1 (by omega)
            | exact isZ_0 (fun q => by have q1 := q.2.1; omega)
            | exact okZ_n2 (k := k) (by omega) (by omega) (by omega) (by omega)⟩, hz_keptAll hP (fun q hq _ => h2 q hq)⟩, hz_FX hS h1 h2⟩) hS.2.2 (Nat.le_of_ble_eq_true rfl) (Nat.le_of_ble_eq_true rfl)
        exact L52 _ 0 _ _ (by omega) (fun i a b => absurd b (by omega)) (Nat.lt_succ_self _) hP hD hS ls (lv_sub hl [1, 2, 0] rfl)
      · exact hz_thrW (E := XA) (text := "too many in the set") (ik := 166) (is := 312) (ic := 170) hx hb hlt hown hts (fun _ h => List.mem_cons_of_mem _ (by first | exact List.mem_append_right _ h | exact List.mem_append_left _ (List.mem_append_right _ h) | exact List.mem_append_left _ (List.mem_append_left _ (List.mem_append_right _ h)))) (List.mem_of_getElem? (i := 1) rfl) (List.mem_of_getElem? (i := 2) rfl) hx0_XA hx1_XA hx2_XA hGP (by decide) hS (hl.1.trans hml.symm) dX7_needSet_39 dX7_needSet_42 dX7_needSet_43 dX7_needSet_46 dX7_needSet_49 htab (Nat.le_of_ble_eq_true rfl) (Nat.le_of_ble_eq_true rfl) (Nat.le_of_ble_eq_true rfl) (Nat.le_of_ble_eq_true rfl) hlocks (fun t h1 h2 => ⟨(), trivial, ⟨⟨rfl, by
          have h9 := shr_0 (a := sid) (k := vN.toNat)
          first
            | exact okZ_n1 (by omega)
            | exact isZ_0 (fun q => by have q1 := q.2.1; omega)
            | exact okZ_n2 (k := k) (by omega) (by omega) (by omega) (by omega)⟩, hz_keptAll hP (fun q hq _ => h2 q hq)⟩, hz_FX hS h1 h2⟩) hS.2.2 (Nat.le_of_ble_eq_true rfl) (Nat.le_of_ble_eq_true rfl)
    · exact hz_thrW (E := XA) (text := "no such set") (ik := 166) (is := 310) (ic := 170) hx hb hlt hown hts (fun _ h => List.mem_cons_of_mem _ (by first | exact List.mem_append_right _ h | exact List.mem_append_left _ (List.mem_append_right _ h) | exact List.mem_append_left _ (List.mem_append_left _ (List.mem_append_right _ h)))) (List.mem_of_getElem? (i := 1) rfl) (List.mem_of_getElem? (i := 2) rfl) hx0_XA hx1_XA hx2_XA hGP (by decide) hS (hl.1.trans hml.symm) dX7_needSet_20 dX7_needSet_23 dX7_needSet_24 dX7_needSet_27 dX7_needSet_30 htab (Nat.le_of_ble_eq_true rfl) (Nat.le_of_ble_eq_true rfl) (Nat.le_of_ble_eq_true rfl) (Nat.le_of_ble_eq_true rfl) hlocks (fun t h1 h2 => ⟨(), trivial, ⟨⟨rfl, by
          have h9 := shr_0 (a := sid) (k := vN.toNat)
          first
            | exact okZ_n1 (by omega)
            | exact isZ_0 (fun q => by have q1 := q.2.1; omega)
            | exact okZ_n2 (k := k) (by omega) (by omega) (by omega) (by omega)⟩, hz_keptAll hP (fun q hq _ => h2 q hq)⟩, hz_FX hS h1 h2⟩) hS.2.2 (Nat.le_of_ble_eq_true rfl) (Nat.le_of_ble_eq_true rfl)
