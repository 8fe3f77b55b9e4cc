/-! the reference: its state, and its inner methods -/
def mW (ad : Nat → Nat) (y : Nat → ClassId) (vThrown vN vC vNow vHaze vCold vHot vPipe vDeg vThaw vTrc vTurb vLeft vLoad vWater vTrips vMissed vBRow vBSum : Int) (vCell vDirt vAim vErr vCor vBrk vTop vLm vRows vCols vDown vRight vBound vStrain vPrice vFirm vSums vRays vFalls vSom vHad : Int → Int) : va_W := [(ad 0, .inr (9, [zi vThrown, zi vN, .ref (ad 1), .ref (ad 2), .ref (ad 3), .ref (ad 4), .ref (ad 5), .ref (ad 6), zi vC, .ref (ad 7), .ref (ad 8), .ref (ad 9), .ref (ad 10), .ref (ad 11), .ref (ad 12), .ref (ad 13), .ref (ad 14), .ref (ad 15), .ref (ad 16), .ref (ad 17), zi vNow, zi vHaze, zi vCold, zi vHot, zi vPipe, zi vDeg, zi vThaw, zi vTrc, zi vTurb, zi vLeft, zi vLoad, zi vWater, zi vTrips, .ref (ad 18), .ref (ad 19), zi vMissed, .ref (ad 20), .ref (ad 21), zi vBRow, zi vBSum])), (ad 1, .inl (y 0, 12, .inl (IA vCell))), (ad 2, .inl (y 0, 12, .inl (IA vDirt))), (ad 3, .inl (y 0, 12, .inl (IA vAim))), (ad 4, .inl (y 0, 12, .inl (IA vErr))), (ad 5, .inl (y 0, 12, .inl (IA vCor))), (ad 6, .inl (y 2, 12, .inl (IA vBrk))), (ad 7, .inl (y 0, 4, .inl (IA vTop))), (ad 8, .inl (y 0, 4, .inl (IA vLm))), (ad 9, .inl (y 0, 4, .inl (IA vRows))), (ad 10, .inl (y 0, 4, .inl (IA vCols))), (ad 11, .inl (y 0, 4, .inl (IA vDown))), (ad 12, .inl (y 0, 4, .inl (IA vRight))), (ad 13, .inl (y 0, 6, .inl (IA vBound))), (ad 14, .inl (y 0, 6, .inl (IA vStrain))), (ad 15, .inl (y 0, 24, .inl (IA vPrice))), (ad 16, .inl (y 0, 24, .inl (IA vFirm))), (ad 17, .inl (y 1, 13, .inr (.inl (LA vSums)))), (ad 18, .inl (y 0, 12, .inl (IA vRays))), (ad 19, .inl (y 0, 6, .inl (IA vFalls))), (ad 20, .inl (y 0, 4, .inl (IA vSom))), (ad 21, .inl (y 0, 4, .inl (IA vHad)))]
theorem c_X8_isIn (l : Launch) (v : Int) (least : Int) (most : Int) (rv : -2147483648 ≤ v ∧ v < 2147483648) (rleast : -2147483648 ≤ least ∧ least < 2147483648) (rmost : -2147483648 ≤ most ∧ most < 2147483648) : Met l yX8_isIn wsX8_isIn ({ frames := 0, cells := 0, slots := 0, locals := 0 }) (va_Pc [zi v, zi least, zi most] (fun _ => True)) (vp_Si (fun r => r = zI ((if least ≤ v ∧ v ≤ most then 1 else 0)))) 0 0 (fun _ => False) := by
  refine hz_ofS (cc := cX8_isIn) (maxL := 3) (ret := (some .boolean)) (by decide) rfl (Nat.le_of_ble_eq_true rfl) ?_
  intro p e s m below meth c ls hx hb hr hts hown hlocks hml hl
  have hown : s.vm.findClass RX8 = some m.cls := hown
  have hl : lv_has ls 3 [(0, zi v), (1, zi least), (2, zi most)] := hl
  refine lv_iload_n hx hb dX8_isIn_0 rfl (lv_at hl 0 rfl) ?_
  refine lv_iload_n hx hb dX8_isIn_1 rfl (lv_at hl 1 rfl) ?_
  refine hz_icmp_lt (tgt := 14) hx hb dX8_isIn_2 (by decide) (by omega) (fun c1 => ?_) (fun c1 => ?_)
  · refine hz_iconst hx hb dX8_isIn_14 ?_
    exact W.zret (ty := .boolean) (v := zI 0) hx hb hr (zI_nb (by omega)) (fun t ht hW => ⟨zI 0, rfl, congrArg zI (by omega), ht⟩) (fun q hq => absurd hq List.not_mem_nil) dX8_isIn_15
  · refine lv_iload_n hx hb dX8_isIn_5 rfl (lv_at hl 0 rfl) ?_
    refine lv_iload_n hx hb dX8_isIn_6 rfl (lv_at hl 2 rfl) ?_
    refine hz_icmp_gt (tgt := 14) hx hb dX8_isIn_7 (by decide) (by omega) (fun c2 => ?_) (fun c2 => ?_)
    · refine hz_iconst hx hb dX8_isIn_14 ?_
      exact W.zret (ty := .boolean) (v := zI 0) hx hb hr (zI_nb (by omega)) (fun t ht hW => ⟨zI 0, rfl, congrArg zI (by omega), ht⟩) (fun q hq => absurd hq List.not_mem_nil) dX8_isIn_15
    · refine hz_iconst hx hb dX8_isIn_10 ?_
      refine lv_goto (tgt := 15) hx hb dX8_isIn_11 (by decide) ?_
      exact W.zret (ty := .boolean) (v := zI 1) hx hb hr (zI_nb (by omega)) (fun t ht hW => ⟨zI 1, rfl, congrArg zI (by omega), ht⟩) (fun q hq => absurd hq List.not_mem_nil) dX8_isIn_15
theorem c_X8_isPanel (l : Launch) (its : Int) (rits : -2147483648 ≤ its ∧ its < 2147483648) : Met l yX8_isPanel wsX8_isPanel ({ frames := 1, cells := 0, slots := 0, locals := 22 }) (va_Pc [zi its] (fun _ => True)) (vp_Si (fun r => r = zI ((if 0 ≤ its ∧ its ≤ 5 then 1 else 0)))) 0 0 (fun _ => False) := by
  refine hz_ofS (cc := cX8_isPanel) (maxL := 1) (ret := (some .boolean)) (by decide) rfl (Nat.le_of_ble_eq_true rfl) ?_
  intro p e s m below meth c ls hx hb hr hts hown hlocks hml hl
  have hown : s.vm.findClass RX8 = some m.cls := hown
  have hl : lv_has ls 1 [(0, zi its)] := hl
  refine lv_iload_n hx hb dX8_isPanel_0 rfl (lv_at hl 0 rfl) ?_
  refine hz_iconst hx hb dX8_isPanel_1 ?_
  refine hz_iconst hx hb dX8_isPanel_2 ?_
  refine hz_callSi (As := [zi its, zi 0, zi 5]) (rest := []) ⟨hx, hb, hml, hown, hts⟩ (c_X8_isIn l its 0 5 (by omega) (by omega) (by omega)) (va_cwS 3 hts gX8_isPanel_X8_isIn rfl rfl rfl (by decide +kernel) ⟨Nat.le_of_ble_eq_true rfl, Nat.le_of_ble_eq_true rfl⟩) rfl hl.1 rfl (Nat.le_of_ble_eq_true rfl) dX8_isPanel_3 ⟨Nat.zero_le _, Nat.zero_le _⟩ ?_
  exact W.zret (ty := .boolean) (v := zI (if 0 ≤ its ∧ its ≤ 5 then 1 else 0)) hx hb hr (zI_nb (by omega)) (fun t ht hW => ⟨zI (if 0 ≤ its ∧ its ≤ 5 then 1 else 0), rfl, congrArg zI (by omega), ht⟩) (fun q hq => absurd hq List.not_mem_nil) dX8_isPanel_6
theorem c_X8_isHour (l : Launch) (its : Int) (rits : -2147483648 ≤ its ∧ its < 2147483648) : Met l yX8_isHour wsX8_isHour ({ frames := 1, cells := 0, slots := 0, locals := 22 }) (va_Pc [zi its] (fun _ => True)) (vp_Si (fun r => r = zI ((if 0 ≤ its ∧ its ≤ 23 then 1 else 0)))) 0 0 (fun _ => False) := by
  refine hz_ofS (cc := cX8_isHour) (maxL := 1) (ret := (some .boolean)) (by decide) rfl (Nat.le_of_ble_eq_true rfl) ?_
  intro p e s m below meth c ls hx hb hr hts hown hlocks hml hl
  have hown : s.vm.findClass RX8 = some m.cls := hown
  have hl : lv_has ls 1 [(0, zi its)] := hl
  refine lv_iload_n hx hb dX8_isHour_0 rfl (lv_at hl 0 rfl) ?_
  refine hz_iconst hx hb dX8_isHour_1 ?_
  refine hz_bipush hx hb dX8_isHour_2 (by decide) ?_
  refine hz_callSi (As := [zi its, zi 0, zi 23]) (rest := []) ⟨hx, hb, hml, hown, hts⟩ (c_X8_isIn l its 0 23 (by omega) (by omega) (by omega)) (va_cwS 3 hts gX8_isHour_X8_isIn rfl rfl rfl (by decide +kernel) ⟨Nat.le_of_ble_eq_true rfl, Nat.le_of_ble_eq_true rfl⟩) rfl hl.1 rfl (Nat.le_of_ble_eq_true rfl) dX8_isHour_4 ⟨Nat.zero_le _, Nat.zero_le _⟩ ?_
  exact W.zret (ty := .boolean) (v := zI (if 0 ≤ its ∧ its ≤ 23 then 1 else 0)) hx hb hr (zI_nb (by omega)) (fun t ht hW => ⟨zI (if 0 ≤ its ∧ its ≤ 23 then 1 else 0), rfl, congrArg zI (by omega), ht⟩) (fun q hq => absurd hq List.not_mem_nil) dX8_isHour_7
theorem c_X8_held (l : Launch) (v : Int) (least : Int) (most : Int) (rv : -2147483648 ≤ v ∧ v < 2147483648) (rleast : -2147483648 ≤ least ∧ least < 2147483648) (rmost : -2147483648 ≤ most ∧ most < 2147483648) : Met l yX8_held wsX8_held ({ frames := 0, cells := 0, slots := 0, locals := 0 }) (va_Pc [zi v, zi least, zi most] (fun _ => True)) (vp_Si (fun r => r = zI (hdZ v least most))) 0 0 (fun _ => False) := by
  refine hz_ofS (cc := cX8_held) (maxL := 3) (ret := (some .int)) (by decide) rfl (Nat.le_of_ble_eq_true rfl) ?_
  intro p e s m below meth c ls hx hb hr hts hown hlocks hml hl
  have hown : s.vm.findClass RX8 = some m.cls := hown
  have hl : lv_has ls 3 [(0, zi v), (1, zi least), (2, zi most)] := hl
  refine lv_iload_n hx hb dX8_held_0 rfl (lv_at hl 0 rfl) ?_
  refine lv_iload_n hx hb dX8_held_1 rfl (lv_at hl 1 rfl) ?_
  refine hz_icmp_ge (tgt := 9) hx hb dX8_held_2 (by decide) (by omega) (fun c1 => ?_) (fun c1 => ?_)
  · refine lv_iload_n hx hb dX8_held_9 rfl (lv_at hl 0 rfl) ?_
    refine lv_iload_n hx hb dX8_held_10 rfl (lv_at hl 2 rfl) ?_
    refine hz_icmp_le (tgt := 18) hx hb dX8_held_11 (by decide) (by omega) (fun c2 => ?_) (fun c2 => ?_)
    · refine lv_iload_n hx hb dX8_held_18 rfl (lv_at hl 0 rfl) ?_
      exact W.iret (v := zI v) hx hb hr (fun t ht hW => ⟨zI v, rfl, congrArg zI (by unfold hdZ; omega), ht⟩) (fun q hq => absurd hq List.not_mem_nil) dX8_held_19
    · refine lv_iload_n hx hb dX8_held_14 rfl (lv_at hl 2 rfl) ?_
      refine lv_goto (tgt := 19) hx hb dX8_held_15 (by decide) ?_
      exact W.iret (v := zI most) hx hb hr (fun t ht hW => ⟨zI most, rfl, congrArg zI (by unfold hdZ; omega), ht⟩) (fun q hq => absurd hq List.not_mem_nil) dX8_held_19
  · refine lv_iload_n hx hb dX8_held_5 rfl (lv_at hl 1 rfl) ?_
    refine lv_goto (tgt := 19) hx hb dX8_held_6 (by decide) ?_
    exact W.iret (v := zI least) hx hb hr (fun t ht hW => ⟨zI least, rfl, congrArg zI (by unfold hdZ; omega), ht⟩) (fun q hq => absurd hq List.not_mem_nil) dX8_held_19
theorem c_X8_strength (l : Launch) (t : Int) (rt : -2147483648 ≤ t ∧ t < 2147483648) (ht : 0 ≤ t) : Met l yX8_strength wsX8_strength ({ frames := 0, cells := 0, slots := 0, locals := 0 }) (va_Pc [zi t] (fun _ => True)) (vp_Si (fun r => r = zI (strZ t))) 0 0 (fun _ => False) := by
  refine hz_ofS (cc := cX8_strength) (maxL := 1) (ret := (some .int)) (by decide) rfl (Nat.le_of_ble_eq_true rfl) ?_
  intro p e s m below meth c ls hx hb hr hts hown hlocks hml hl
  have hown : s.vm.findClass RX8 = some m.cls := hown
  have hl : lv_has ls 1 [(0, zi t)] := hl
  refine lv_iload_n hx hb dX8_strength_0 rfl (lv_at hl 0 rfl) ?_
  refine hz_bipush hx hb dX8_strength_1 (by decide) ?_
  refine hz_irem hx hb dX8_strength_3 (by omega) ?_
  rcases (show ((t % 24) < 6 ∨ 17 < (t % 24)) ∨ (t % 24) = 6 ∨ (t % 24) = 7 ∨ (t % 24) = 8 ∨ (t % 24) = 9 ∨ (t % 24) = 10 ∨ (t % 24) = 11 ∨ (t % 24) = 12 ∨ (t % 24) = 13 ∨ (t % 24) = 14 ∨ (t % 24) = 15 ∨ (t % 24) = 16 ∨ (t % 24) = 17 from by omega) with c1 | c1 | c1 | c1 | c1 | c1 | c1 | c1 | c1 | c1 | c1 | c1 | c1
  · refine hz_tableOut (tgt := 83) hx hb dX8_strength_4 (by omega) (by omega) (by decide) ?_
    refine hz_iconst hx hb dX8_strength_83 ?_
    exact W.iret (v := zI 0) hx hb hr (fun t ht hW => ⟨zI 0, rfl, congrArg zI (by unfold strZ; omega), ht⟩) (fun q hq => absurd hq List.not_mem_nil) dX8_strength_84
  · refine hz_tableIn (j := 6) (off := 64) (tgt := 68) hx hb dX8_strength_4 (by omega) (by omega) rfl (by decide) ?_
    refine hz_iconst hx hb dX8_strength_68 ?_
    exact W.iret (v := zI 1) hx hb hr (fun t ht hW => ⟨zI 1, rfl, congrArg zI (by unfold strZ; omega), ht⟩) (fun q hq => absurd hq List.not_mem_nil) dX8_strength_69
  · refine hz_tableIn (j := 7) (off := 66) (tgt := 70) hx hb dX8_strength_4 (by omega) (by omega) rfl (by decide) ?_
    refine hz_iconst hx hb dX8_strength_70 ?_
    exact W.iret (v := zI 3) hx hb hr (fun t ht hW => ⟨zI 3, rfl, congrArg zI (by unfold strZ; omega), ht⟩) (fun q hq => absurd hq List.not_mem_nil) dX8_strength_71
  · refine hz_tableIn (j := 8) (off := 68) (tgt := 72) hx hb dX8_strength_4 (by omega) (by omega) rfl (by decide) ?_
    refine hz_iconst hx hb dX8_strength_72 ?_
    exact W.iret (v := zI 5) hx hb hr (fun t ht hW => ⟨zI 5, rfl, congrArg zI (by unfold strZ; omega), ht⟩) (fun q hq => absurd hq List.not_mem_nil) dX8_strength_73
  · refine hz_tableIn (j := 9) (off := 70) (tgt := 74) hx hb dX8_strength_4 (by omega) (by omega) rfl (by decide) ?_
    refine hz_bipush hx hb dX8_strength_74 (by decide) ?_
    exact W.iret (v := zI 7) hx hb hr (fun t ht hW => ⟨zI 7, rfl, congrArg zI (by unfold strZ; omega), ht⟩) (fun q hq => absurd hq List.not_mem_nil) dX8_strength_76
  · refine hz_tableIn (j := 10) (off := 73) (tgt := 77) hx hb dX8_strength_4 (by omega) (by omega) rfl (by decide) ?_
    refine hz_bipush hx hb dX8_strength_77 (by decide) ?_
    exact W.iret (v := zI 9) hx hb hr (fun t ht hW => ⟨zI 9, rfl, congrArg zI (by unfold strZ; omega), ht⟩) (fun q hq => absurd hq List.not_mem_nil) dX8_strength_79
  · refine hz_tableIn (j := 11) (off := 76) (tgt := 80) hx hb dX8_strength_4 (by omega) (by omega) rfl (by decide) ?_
    refine hz_bipush hx hb dX8_strength_80 (by decide) ?_
    exact W.iret (v := zI 10) hx hb hr (fun t ht hW => ⟨zI 10, rfl, congrArg zI (by unfold strZ; omega), ht⟩) (fun q hq => absurd hq List.not_mem_nil) dX8_strength_82
  · refine hz_tableIn (j := 12) (off := 76) (tgt := 80) hx hb dX8_strength_4 (by omega) (by omega) rfl (by decide) ?_
    refine hz_bipush hx hb dX8_strength_80 (by decide) ?_
    exact W.iret (v := zI 10) hx hb hr (fun t ht hW => ⟨zI 10, rfl, congrArg zI (by unfold strZ; omega), ht⟩) (fun q hq => absurd hq List.not_mem_nil) dX8_strength_82
  · refine hz_tableIn (j := 13) (off := 73) (tgt := 77) hx hb dX8_strength_4 (by omega) (by omega) rfl (by decide) ?_
    refine hz_bipush hx hb dX8_strength_77 (by decide) ?_
    exact W.iret (v := zI 9) hx hb hr (fun t ht hW => ⟨zI 9, rfl, congrArg zI (by unfold strZ; omega), ht⟩) (fun q hq => absurd hq List.not_mem_nil) dX8_strength_79
  · refine hz_tableIn (j := 14) (off := 70) (tgt := 74) hx hb dX8_strength_4 (by omega) (by omega) rfl (by decide) ?_
    refine hz_bipush hx hb dX8_strength_74 (by decide) ?_
    exact W.iret (v := zI 7) hx hb hr (fun t ht hW => ⟨zI 7, rfl, congrArg zI (by unfold strZ; omega), ht⟩) (fun q hq => absurd hq List.not_mem_nil) dX8_strength_76
  · refine hz_tableIn (j := 15) (off := 68) (tgt := 72) hx hb dX8_strength_4 (by omega) (by omega) rfl (by decide) ?_
    refine hz_iconst hx hb dX8_strength_72 ?_
    exact W.iret (v := zI 5) hx hb hr (fun t ht hW => ⟨zI 5, rfl, congrArg zI (by unfold strZ; omega), ht⟩) (fun q hq => absurd hq List.not_mem_nil) dX8_strength_73
  · refine hz_tableIn (j := 16) (off := 66) (tgt := 70) hx hb dX8_strength_4 (by omega) (by omega) rfl (by decide) ?_
    refine hz_iconst hx hb dX8_strength_70 ?_
    exact W.iret (v := zI 3) hx hb hr (fun t ht hW => ⟨zI 3, rfl, congrArg zI (by unfold strZ; omega), ht⟩) (fun q hq => absurd hq List.not_mem_nil) dX8_strength_71
  · refine hz_tableIn (j := 17) (off := 64) (tgt := 68) hx hb dX8_strength_4 (by omega) (by omega) rfl (by decide) ?_
    refine hz_iconst hx hb dX8_strength_68 ?_
    exact W.iret (v := zI 1) hx hb hr (fun t ht hW => ⟨zI 1, rfl, congrArg zI (by unfold strZ; omega), ht⟩) (fun q hq => absurd hq List.not_mem_nil) dX8_strength_69
abbrev Q_X8_holds (G : va_G) (y : Nat → ClassId) (ad : Nat → Nat) (vThrown vN vC vNow vHaze vCold vHot vPipe vDeg vThaw vTrc vTurb vLeft vLoad vWater vTrips vMissed vBRow vBSum : Int) (vCell vDirt vAim vErr vCor vBrk vTop vLm vRows vCols vDown vRight vBound vStrain vPrice vFirm vSums vRays vFalls vSom vHad : Int → Int) (place : Int) (A : Nat → Prop) : Array Value → State → Outcome → State → Prop := va_Qi (fun (r : Int32) (u : Unit) => r = zI ((if place = 0 then 1 else 0)) ∧ True) (fun (u : Unit) t => va_P G vwCl (mW ad y place vN vC vNow vHaze vCold vHot vPipe vDeg vThaw vTrc vTurb vLeft vLoad vWater vTrips vMissed vBRow vBSum vCell vDirt vAim vErr vCor vBrk vTop vLm vRows vCols vDown vRight vBound vStrain vPrice vFirm vSums vRays vFalls vSom vHad) t.heap) A
set_option maxHeartbeats 4000000 in
set_option maxRecDepth 100000 in
theorem c_X8_holds (l : Launch) (G : va_G) (y : Nat → ClassId) (ad : Nat → Nat) (sz : Nat) (vThrown vN vC vNow vHaze vCold vHot vPipe vDeg vThaw vTrc vTurb vLeft vLoad vWater vTrips vMissed vBRow vBSum : Int) (vCell vDirt vAim vErr vCor vBrk vTop vLm vRows vCols vDown vRight vBound vStrain vPrice vFirm vSums vRays vFalls vSom vHad : Int → Int) (place : Int) (rplace : -2147483648 ≤ place ∧ place < 2147483648) : Met l yX8_holds wsX8_holds ({ frames := 0, cells := 0, slots := 0, locals := 0 }) (va_Pc [.ref (ad 0), zi place] (HPre G (tyL y) (mW ad y vThrown vN vC vNow vHaze vCold vHot vPipe vDeg vThaw vTrc vTurb vLeft vLoad vWater vTrips vMissed vBRow vBSum vCell vDirt vAim vErr vCor vBrk vTop vLm vRows vCols vDown vRight vBound vStrain vPrice vFirm vSums vRays vFalls vSom vHad) sz)) (Q_X8_holds G y ad vThrown vN vC vNow vHaze vCold vHot vPipe vDeg vThaw vTrc vTurb vLeft vLoad vWater vTrips vMissed vBRow vBSum vCell vDirt vAim vErr vCor vBrk vTop vLm vRows vCols vDown vRight vBound vStrain vPrice vFirm vSums vRays vFalls vSom vHad place (va_A (mW ad y vThrown vN vC vNow vHaze vCold vHot vPipe vDeg vThaw vTrc vTurb vLeft vLoad vWater vTrips vMissed vBRow vBSum vCell vDirt vAim vErr vCor vBrk vTop vLm vRows vCols vDown vRight vBound vStrain vPrice vFirm vSums vRays vFalls vSom vHad) sz)) 0 0 (va_A (mW ad y vThrown vN vC vNow vHaze vCold vHot vPipe vDeg vThaw vTrc vTurb vLeft vLoad vWater vTrips vMissed vBRow vBSum vCell vDirt vAim vErr vCor vBrk vTop vLm vRows vCols vDown vRight vBound vStrain vPrice vFirm vSums vRays vFalls vSom vHad) sz) := by
  refine hz_ofW (Qf := Q_X8_holds G y ad vThrown vN vC vNow vHaze vCold vHot vPipe vDeg vThaw vTrc vTurb vLeft vLoad vWater vTrips vMissed vBRow vBSum vCell vDirt vAim vErr vCor vBrk vTop vLm vRows vCols vDown vRight vBound vStrain vPrice vFirm vSums vRays vFalls vSom vHad place) (cc := cX8_holds) (maxL := 2) (ret := (some .boolean)) (by decide) rfl (Nat.le_of_ble_eq_true rfl) ?_
  intro p e s m below meth c A ls hx hb hr hts hown hin hlocks hml hP hK hA hD hS hl
  have hown : s.vm.findClass RX8 = some m.cls := hown
  have hl : lv_has ls 2 [(0, .ref (ad 0)), (1, zi place)] := hl
  have hinwsX80 : ∀ w ∈ wsX80, w ∈ wsX8_holds := fun _ h => List.mem_cons_of_mem _ (List.mem_append_right _ (h))
  refine lv_aload_n hx hb dX8_holds_0 rfl (lv_at hl 0 rfl) ?_
  refine lv_iload_n hx hb dX8_holds_1 rfl (lv_at hl 1 rfl) ?_
  refine va_put (D := G) (ci := 9) (v := zi place) (ty := .int) (C := RX8) (T := TX8) (N := 40) hx hb hts hinwsX80 tyX8 tyX8_ok nmX8 hown hK hP hD hS 0 rfl rfl 0 (by decide) (hts (.fieldLink RX8 79 "HeliokeepModel" "thrown" "I") (List.mem_of_getElem? (i := 1) rfl)) (fun _ h9 => h9) rfl (by decide +kernel) rfl rfl (Nat.le_of_ble_eq_true rfl) dX8_holds_2 (fun H locs hP hD hS => ?_)
  have hP : va_P G vwCl (mW ad y place vN vC vNow vHaze vCold vHot vPipe vDeg vThaw vTrc vTurb vLeft vLoad vWater vTrips vMissed vBRow vBSum vCell vDirt vAim vErr vCor vBrk vTop vLm vRows vCols vDown vRight vBound vStrain vPrice vFirm vSums vRays vFalls vSom vHad) H := hP
  have hD : va_D A (mW ad y place vN vC vNow vHaze vCold vHot vPipe vDeg vThaw vTrc vTurb vLeft vLoad vWater vTrips vMissed vBRow vBSum vCell vDirt vAim vErr vCor vBrk vTop vLm vRows vCols vDown vRight vBound vStrain vPrice vFirm vSums vRays vFalls vSom vHad) := hD
  refine lv_iload_n hx hb dX8_holds_5 rfl (lv_at hl 1 rfl) ?_
  refine hz_if_ne (tgt := 13) hx hb dX8_holds_6 (by decide) (by omega) (fun c1 => ?_) (fun c1 => ?_)
  · refine hz_iconst hx hb dX8_holds_13 ?_
    exact W.zret (ty := .boolean) (v := zI 0) hx hb hr (zI_nb (by omega)) (fun t ht hW => ⟨⟨zI 0, (), rfl, ⟨congrArg zI (by omega), trivial⟩, hz_at hP ht⟩, hS.F ht⟩) hS.2.2 dX8_holds_14
  · refine hz_iconst hx hb dX8_holds_9 ?_
    refine lv_goto (tgt := 14) hx hb dX8_holds_10 (by decide) ?_
    exact W.zret (ty := .boolean) (v := zI 1) hx hb hr (zI_nb (by omega)) (fun t ht hW => ⟨⟨zI 1, (), rfl, ⟨congrArg zI (by omega), trivial⟩, hz_at hP ht⟩, hS.F ht⟩) hS.2.2 dX8_holds_14
abbrev Q_X8_isMirror (G : va_G) (y : Nat → ClassId) (ad : Nat → Nat) (vThrown vN vC vNow vHaze vCold vHot vPipe vDeg vThaw vTrc vTurb vLeft vLoad vWater vTrips vMissed vBRow vBSum : Int) (vCell vDirt vAim vErr vCor vBrk vTop vLm vRows vCols vDown vRight vBound vStrain vPrice vFirm vSums vRays vFalls vSom vHad : Int → Int) (its : Int) (A : Nat → Prop) : Array Value → State → Outcome → State → Prop := va_Qi (fun (r : Int32) (u : Unit) => r = zI ((if 0 ≤ its ∧ its ≤ vN - 1 then 1 else 0)) ∧ True) (fun (u : Unit) t => va_P G vwCl (mW ad y vThrown vN vC vNow vHaze vCold vHot vPipe vDeg vThaw vTrc vTurb vLeft vLoad vWater vTrips vMissed vBRow vBSum vCell vDirt vAim vErr vCor vBrk vTop vLm vRows vCols vDown vRight vBound vStrain vPrice vFirm vSums vRays vFalls vSom vHad) t.heap) A
set_option maxHeartbeats 4000000 in
set_option maxRecDepth 100000 in
theorem c_X8_isMirror (l : Launch) (G : va_G) (y : Nat → ClassId) (ad : Nat → Nat) (sz : Nat) (vThrown vN vC vNow vHaze vCold vHot vPipe vDeg vThaw vTrc vTurb vLeft vLoad vWater vTrips vMissed vBRow vBSum : Int) (vCell vDirt vAim vErr vCor vBrk vTop vLm vRows vCols vDown vRight vBound vStrain vPrice vFirm vSums vRays vFalls vSom vHad : Int → Int) (its : Int) (hN : 0 ≤ vN ∧ vN ≤ 12) (rits : -2147483648 ≤ its ∧ its < 2147483648) : Met l yX8_isMirror wsX8_isMirror ({ frames := 1, cells := 0, slots := 0, locals := 22 }) (va_Pc [.ref (ad 0), zi its] (HPre G (tyL y) (mW ad y vThrown vN vC vNow vHaze vCold vHot vPipe vDeg vThaw vTrc vTurb vLeft vLoad vWater vTrips vMissed vBRow vBSum vCell vDirt vAim vErr vCor vBrk vTop vLm vRows vCols vDown vRight vBound vStrain vPrice vFirm vSums vRays vFalls vSom vHad) sz)) (Q_X8_isMirror G y ad vThrown vN vC vNow vHaze vCold vHot vPipe vDeg vThaw vTrc vTurb vLeft vLoad vWater vTrips vMissed vBRow vBSum vCell vDirt vAim vErr vCor vBrk vTop vLm vRows vCols vDown vRight vBound vStrain vPrice vFirm vSums vRays vFalls vSom vHad its (va_A (mW ad y vThrown vN vC vNow vHaze vCold vHot vPipe vDeg vThaw vTrc vTurb vLeft vLoad vWater vTrips vMissed vBRow vBSum vCell vDirt vAim vErr vCor vBrk vTop vLm vRows vCols vDown vRight vBound vStrain vPrice vFirm vSums vRays vFalls vSom vHad) sz)) 0 0 (va_A (mW ad y vThrown vN vC vNow vHaze vCold vHot vPipe vDeg vThaw vTrc vTurb vLeft vLoad vWater vTrips vMissed vBRow vBSum vCell vDirt vAim vErr vCor vBrk vTop vLm vRows vCols vDown vRight vBound vStrain vPrice vFirm vSums vRays vFalls vSom vHad) sz) := by
  refine hz_ofW (Qf := Q_X8_isMirror G y ad vThrown vN vC vNow vHaze vCold vHot vPipe vDeg vThaw vTrc vTurb vLeft vLoad vWater vTrips vMissed vBRow vBSum vCell vDirt vAim vErr vCor vBrk vTop vLm vRows vCols vDown vRight vBound vStrain vPrice vFirm vSums vRays vFalls vSom vHad its) (cc := cX8_isMirror) (maxL := 2) (ret := (some .boolean)) (by decide) rfl (Nat.le_of_ble_eq_true rfl) ?_
  intro p e s m below meth c A ls hx hb hr hts hown hin hlocks hml hP hK hA hD hS hl
  have hown : s.vm.findClass RX8 = some m.cls := hown
  have hl : lv_has ls 2 [(0, .ref (ad 0)), (1, zi its)] := hl
  have hinwsX80 : ∀ w ∈ wsX80, w ∈ wsX8_isMirror := fun _ h => List.mem_cons_of_mem _ (List.mem_append_right _ (h))
  refine lv_iload_n hx hb dX8_isMirror_0 rfl (lv_at hl 1 rfl) ?_
  refine hz_iconst hx hb dX8_isMirror_1 ?_
  refine lv_aload_n hx hb dX8_isMirror_2 rfl (lv_at hl 0 rfl) ?_
  refine va_get (D := G) (ci := 9) (v := zi vN) (C := RX8) (T := TX8) (N := 40) hx hb hts hinwsX80 hown hK hP 0 rfl rfl 1 (by decide) (hts (.fieldLink RX8 82 "HeliokeepModel" "mirrors" "I") (List.mem_of_getElem? (i := 1) rfl)) (fun _ h9 => h9) rfl dX8_isMirror_3 ?_
  refine hz_iconst hx hb dX8_isMirror_6 ?_
  refine hz_isub hx hb dX8_isMirror_7 ?_
  refine hz_callSi (As := [zi its, zi 0, zi (vN - 1)]) (rest := []) ⟨hx, hb, hml, hown, hts⟩ (c_X8_isIn l its 0 (vN - 1) (by omega) (by omega) (by omega)) (va_cwS 3 hts gX8_isMirror_X8_isIn rfl rfl rfl (by decide +kernel) ⟨Nat.le_of_ble_eq_true rfl, Nat.le_of_ble_eq_true rfl⟩) rfl hl.1 rfl (Nat.le_of_ble_eq_true rfl) dX8_isMirror_8 ⟨Nat.zero_le _, Nat.zero_le _⟩ ?_
  exact W.zret (ty := .boolean) (v := zI (if 0 ≤ its ∧ its ≤ (vN - 1) then 1 else 0)) hx hb hr (zI_nb (by omega)) (fun t ht hW => ⟨⟨zI (if 0 ≤ its ∧ its ≤ (vN - 1) then 1 else 0), (), rfl, ⟨congrArg zI (by omega), trivial⟩, hz_at hP ht⟩, hS.F ht⟩) hS.2.2 dX8_isMirror_11
abbrev Q_X8_thrown (G : va_G) (y : Nat → ClassId) (ad : Nat → Nat) (vThrown vN vC vNow vHaze vCold vHot vPipe vDeg vThaw vTrc vTurb vLeft vLoad vWater vTrips vMissed vBRow vBSum : Int) (vCell vDirt vAim vErr vCor vBrk vTop vLm vRows vCols vDown vRight vBound vStrain vPrice vFirm vSums vRays vFalls vSom vHad : Int → Int)  (A : Nat → Prop) : Array Value → State → Outcome → State → Prop := va_Qi (fun (r : Int32) (u : Unit) => r = zI (vThrown) ∧ True) (fun (u : Unit) t => va_P G vwCl (mW ad y vThrown vN vC vNow vHaze vCold vHot vPipe vDeg vThaw vTrc vTurb vLeft vLoad vWater vTrips vMissed vBRow vBSum vCell vDirt vAim vErr vCor vBrk vTop vLm vRows vCols vDown vRight vBound vStrain vPrice vFirm vSums vRays vFalls vSom vHad) t.heap) A
set_option maxHeartbeats 4000000 in
set_option maxRecDepth 100000 in
theorem c_X8_thrown (l : Launch) (G : va_G) (y : Nat → ClassId) (ad : Nat → Nat) (sz : Nat) (vThrown vN vC vNow vHaze vCold vHot vPipe vDeg vThaw vTrc vTurb vLeft vLoad vWater vTrips vMissed vBRow vBSum : Int) (vCell vDirt vAim vErr vCor vBrk vTop vLm vRows vCols vDown vRight vBound vStrain vPrice vFirm vSums vRays vFalls vSom vHad : Int → Int)   : Met l yX8_thrown wsX8_thrown ({ frames := 0, cells := 0, slots := 0, locals := 0 }) (va_Pc [.ref (ad 0)] (HPre G (tyL y) (mW ad y vThrown vN vC vNow vHaze vCold vHot vPipe vDeg vThaw vTrc vTurb vLeft vLoad vWater vTrips vMissed vBRow vBSum vCell vDirt vAim vErr vCor vBrk vTop vLm vRows vCols vDown vRight vBound vStrain vPrice vFirm vSums vRays vFalls vSom vHad) sz)) (Q_X8_thrown G y ad vThrown vN vC vNow vHaze vCold vHot vPipe vDeg vThaw vTrc vTurb vLeft vLoad vWater vTrips vMissed vBRow vBSum vCell vDirt vAim vErr vCor vBrk vTop vLm vRows vCols vDown vRight vBound vStrain vPrice vFirm vSums vRays vFalls vSom vHad (va_A (mW ad y vThrown vN vC vNow vHaze vCold vHot vPipe vDeg vThaw vTrc vTurb vLeft vLoad vWater vTrips vMissed vBRow vBSum vCell vDirt vAim vErr vCor vBrk vTop vLm vRows vCols vDown vRight vBound vStrain vPrice vFirm vSums vRays vFalls vSom vHad) sz)) 0 0 (va_A (mW ad y vThrown vN vC vNow vHaze vCold vHot vPipe vDeg vThaw vTrc vTurb vLeft vLoad vWater vTrips vMissed vBRow vBSum vCell vDirt vAim vErr vCor vBrk vTop vLm vRows vCols vDown vRight vBound vStrain vPrice vFirm vSums vRays vFalls vSom vHad) sz) := by
  refine hz_ofW (Qf := Q_X8_thrown G y ad vThrown vN vC vNow vHaze vCold vHot vPipe vDeg vThaw vTrc vTurb vLeft vLoad vWater vTrips vMissed vBRow vBSum vCell vDirt vAim vErr vCor vBrk vTop vLm vRows vCols vDown vRight vBound vStrain vPrice vFirm vSums vRays vFalls vSom vHad) (cc := cX8_thrown) (maxL := 1) (ret := (some .int)) (by decide) rfl (Nat.le_of_ble_eq_true rfl) ?_
  intro p e s m below meth c A ls hx hb hr hts hown hin hlocks hml hP hK hA hD hS hl
  have hown : s.vm.findClass RX8 = some m.cls := hown
  have hl : lv_has ls 1 [(0, .ref (ad 0))] := hl
  have hinwsX80 : ∀ w ∈ wsX80, w ∈ wsX8_thrown := fun _ h => List.mem_cons_of_mem _ (List.mem_append_right _ (h))
  refine lv_aload_n hx hb dX8_thrown_0 rfl (lv_at hl 0 rfl) ?_
  refine va_get (D := G) (ci := 9) (v := zi vThrown) (C := RX8) (T := TX8) (N := 40) hx hb hts hinwsX80 hown hK hP 0 rfl rfl 0 (by decide) (hts (.fieldLink RX8 79 "HeliokeepModel" "thrown" "I") (List.mem_of_getElem? (i := 1) rfl)) (fun _ h9 => h9) rfl dX8_thrown_1 ?_
  exact W.iret (v := zI vThrown) hx hb hr (fun t ht hW => ⟨⟨zI vThrown, (), rfl, ⟨congrArg zI (by omega), trivial⟩, hz_at hP ht⟩, hS.F ht⟩) hS.2.2 dX8_thrown_4
abbrev Q_X8_mirrorAt (G : va_G) (y : Nat → ClassId) (ad : Nat → Nat) (vThrown vN vC vNow vHaze vCold vHot vPipe vDeg vThaw vTrc vTurb vLeft vLoad vWater vTrips vMissed vBRow vBSum : Int) (vCell vDirt vAim vErr vCor vBrk vTop vLm vRows vCols vDown vRight vBound vStrain vPrice vFirm vSums vRays vFalls vSom vHad : Int → Int) (its : Int) (A : Nat → Prop) : Array Value → State → Outcome → State → Prop := va_Qi (fun (r : Int32) (u : Int) => r = zI (u) ∧ ((u = -1 ∧ ocZ vN vCell its = 0) ∨ (0 ≤ u ∧ u < vN ∧ ocZ vN vCell its = 1))) (fun (u : Int) t => va_P G vwCl (mW ad y vThrown vN vC vNow vHaze vCold vHot vPipe vDeg vThaw vTrc vTurb vLeft vLoad vWater vTrips vMissed vBRow vBSum vCell vDirt vAim vErr vCor vBrk vTop vLm vRows vCols vDown vRight vBound vStrain vPrice vFirm vSums vRays vFalls vSom vHad) t.heap) A
set_option maxHeartbeats 4000000 in
set_option maxRecDepth 100000 in
theorem c_X8_mirrorAt (l : Launch) (G : va_G) (y : Nat → ClassId) (ad : Nat → Nat) (sz : Nat) (vThrown vN vC vNow vHaze vCold vHot vPipe vDeg vThaw vTrc vTurb vLeft vLoad vWater vTrips vMissed vBRow vBSum : Int) (vCell vDirt vAim vErr vCor vBrk vTop vLm vRows vCols vDown vRight vBound vStrain vPrice vFirm vSums vRays vFalls vSom vHad : Int → Int) (its : Int) (hN : 0 ≤ vN ∧ vN ≤ 12) (hCell : ∀ k : Int, 0 ≤ vCell k ∧ vCell k ≤ 63) (rits : -2147483648 ≤ its ∧ its < 2147483648) : Met l yX8_mirrorAt wsX8_mirrorAt ({ frames := 0, cells := 0, slots := 0, locals := 0 }) (va_Pc [.ref (ad 0), zi its] (HPre G (tyL y) (mW ad y vThrown vN vC vNow vHaze vCold vHot vPipe vDeg vThaw vTrc vTurb vLeft vLoad vWater vTrips vMissed vBRow vBSum vCell vDirt vAim vErr vCor vBrk vTop vLm vRows vCols vDown vRight vBound vStrain vPrice vFirm vSums vRays vFalls vSom vHad) sz)) (Q_X8_mirrorAt G y ad vThrown vN vC vNow vHaze vCold vHot vPipe vDeg vThaw vTrc vTurb vLeft vLoad vWater vTrips vMissed vBRow vBSum vCell vDirt vAim vErr vCor vBrk vTop vLm vRows vCols vDown vRight vBound vStrain vPrice vFirm vSums vRays vFalls vSom vHad its (va_A (mW ad y vThrown vN vC vNow vHaze vCold vHot vPipe vDeg vThaw vTrc vTurb vLeft vLoad vWater vTrips vMissed vBRow vBSum vCell vDirt vAim vErr vCor vBrk vTop vLm vRows vCols vDown vRight vBound vStrain vPrice vFirm vSums vRays vFalls vSom vHad) sz)) 0 0 (va_A (mW ad y vThrown vN vC vNow vHaze vCold vHot vPipe vDeg vThaw vTrc vTurb vLeft vLoad vWater vTrips vMissed vBRow vBSum vCell vDirt vAim vErr vCor vBrk vTop vLm vRows vCols vDown vRight vBound vStrain vPrice vFirm vSums vRays vFalls vSom vHad) sz) := by
  refine hz_ofW (Qf := Q_X8_mirrorAt G y ad vThrown vN vC vNow vHaze vCold vHot vPipe vDeg vThaw vTrc vTurb vLeft vLoad vWater vTrips vMissed vBRow vBSum vCell vDirt vAim vErr vCor vBrk vTop vLm vRows vCols vDown vRight vBound vStrain vPrice vFirm vSums vRays vFalls vSom vHad its) (cc := cX8_mirrorAt) (maxL := 4) (ret := (some .int)) (by decide) rfl (Nat.le_of_ble_eq_true rfl) ?_
  intro p e s m below meth c A ls hx hb hr hts hown hin hlocks hml hP hK hA hD hS hl
  have hown : s.vm.findClass RX8 = some m.cls := hown
  have hl : lv_has ls 4 [(0, .ref (ad 0)), (1, zi its)] := hl
  have hinwsX80 : ∀ w ∈ wsX80, w ∈ wsX8_mirrorAt := fun _ h => List.mem_cons_of_mem _ (List.mem_append_right _ (h))
  refine hz_iconst hx hb dX8_mirrorAt_0 ?_
  refine lv_istore_n (lv' := [(2, zi (-1)), (0, .ref (ad 0)), (1, zi its)]) hx hb dX8_mirrorAt_1 rfl hl (by decide) rfl (fun ls hl => ?_)
  refine hz_iconst hx hb dX8_mirrorAt_2 ?_
  refine lv_istore_n (lv' := [(3, zi 0), (2, zi (-1)), (0, .ref (ad 0)), (1, zi its)]) hx hb dX8_mirrorAt_3 rfl hl (by decide) rfl (fun ls hl => ?_)
  have L4 : ∀ (n : Nat) (fo : Int) (k : Int) (H : Heap) (locs : List Loc), (0 ≤ k ∧ k ≤ vN) → (MRK vCell its k fo) → ((vN - k).toNat) < n → va_P G vwCl (mW ad y vThrown vN vC vNow vHaze vCold vHot vPipe vDeg vThaw vTrc vTurb vLeft vLoad vWater vTrips vMissed vBRow vBSum vCell vDirt vAim vErr vCor vBrk vTop vLm vRows vCols vDown vRight vBound vStrain vPrice vFirm vSums vRays vFalls vSom vHad) H → va_D A (mW ad y vThrown vN vC vNow vHaze vCold vHot vPipe vDeg vThaw vTrc vTurb vLeft vLoad vWater vTrips vMissed vBRow vBSum vCell vDirt vAim vErr vCor vBrk vTop vLm vRows vCols vDown vRight vBound vStrain vPrice vFirm vSums vRays vFalls vSom vHad) → va_S A s.heap H locs → ∀ ls : Array Slot, lv_has ls 4 [(0, .ref (ad 0)), (1, zi its), (2, zi fo), (3, zi k)] → W p l e (headSpec wsX8_mirrorAt ({ frames := 0, cells := 0, slots := 0, locals := 0 })).room s m ([.ref (ad 0), zi its] : List Value).toArray below meth c H locs 0 0 (MQ below (Q_X8_mirrorAt G y ad vThrown vN vC vNow vHaze vCold vHot vPipe vDeg vThaw vTrc vTurb vLeft vLoad vWater vTrips vMissed vBRow vBSum vCell vDirt vAim vErr vCor vBrk vTop vLm vRows vCols vDown vRight vBound vStrain vPrice vFirm vSums vRays vFalls vSom vHad its A) ([.ref (ad 0), zi its] : List Value).toArray s 0 0 A) (F0 m 4 ls []) := by
    intro n
    induction n with
    | zero => exact fun fo k H locs h_k4 h_f4 hm => absurd hm (Nat.not_lt_zero _)
    | succ n ih4 =>
      intro fo k H locs h_k4 h_f4 hm4 hP hD hS ls hl
      refine lv_iload_n hx hb dX8_mirrorAt_4 rfl (lv_at hl 3 rfl) ?_
      refine lv_aload_n hx hb dX8_mirrorAt_5 rfl (lv_at hl 0 rfl) ?_
      refine va_get (D := G) (ci := 9) (v := zi vN) (C := RX8) (T := TX8) (N := 40) hx hb hts hinwsX80 hown hK hP 0 rfl rfl 1 (by decide) (hts (.fieldLink RX8 82 "HeliokeepModel" "mirrors" "I") (List.mem_of_getElem? (i := 1) rfl)) (fun _ h9 => h9) rfl dX8_mirrorAt_6 ?_
      refine hz_icmp_ge (tgt := 34) hx hb dX8_mirrorAt_9 (by decide) (by omega) (fun c1 => ?_) (fun c1 => ?_)
      · refine lv_iload_n hx hb dX8_mirrorAt_34 rfl (lv_at hl 2 rfl) ?_
        exact W.iret (v := zI fo) hx hb hr (fun t ht hW => ⟨⟨zI fo, (fo), rfl, ⟨rfl, (show (fo = -1 ∧ ocZ vN vCell its = 0) ∨ (0 ≤ fo ∧ fo < vN ∧ ocZ vN vCell its = 1) from mrk_e h_f4 (by omega))⟩, hz_at hP ht⟩, hS.F ht⟩) hS.2.2 dX8_mirrorAt_35
      · refine lv_aload_n hx hb dX8_mirrorAt_12 rfl (lv_at hl 0 rfl) ?_
        refine va_get (D := G) (ci := 9) (v := .ref (ad 1)) (C := RX8) (T := TX8) (N := 40) hx hb hts hinwsX80 hown hK hP 0 rfl rfl 2 (by decide) (hts (.fieldLink RX8 7 "HeliokeepModel" "cell" "[I") (List.mem_of_getElem? (i := 2) rfl)) (fun _ h9 => h9) rfl dX8_mirrorAt_13 ?_
        refine lv_iload_n hx hb dX8_mirrorAt_16 rfl (lv_at hl 3 rfl) ?_
        refine hz_iald (f := vCell) hx hb hK hP 1 0 rfl rfl (Nat.le_of_ble_eq_true rfl) (by omega) dX8_mirrorAt_17 ?_
        have q2 := hCell k
        refine lv_iload_n hx hb dX8_mirrorAt_18 rfl (lv_at hl 1 rfl) ?_
        refine hz_icmp_ne (tgt := 26) hx hb dX8_mirrorAt_19 (by decide) (by omega) (fun c3 => ?_) (fun c3 => ?_)
        · refine lv_iload_n hx hb dX8_mirrorAt_26 rfl (lv_at hl 2 rfl) ?_
          refine lv_istore_n (lv' := [(2, zi fo), (0, .ref (ad 0)), (1, zi its), (3, zi k)]) hx hb dX8_mirrorAt_27 rfl hl (by decide) rfl (fun ls hl => ?_)
          refine hz_iinc (v := (k + 1)) (lv' := [(3, zi (k + 1)), (2, zi fo), (0, .ref (ad 0)), (1, zi its)]) hx hb dX8_mirrorAt_28 hl (k := 3) rfl (by omega) (by decide) rfl (fun ls hl => ?_)
          refine lv_goto (tgt := 4) hx hb dX8_mirrorAt_31 (by decide) ?_
          exact ih4 fo (k + 1) _ _ (by omega) (by first | exact mrk_1 (by omega) (by assumption) | exact mrk_2 h_f4 (by assumption)) (by omega) hP hD hS ls (lv_sub hl [2, 3, 1, 0] rfl)
        · refine lv_iload_n hx hb dX8_mirrorAt_22 rfl (lv_at hl 3 rfl) ?_
          refine lv_goto (tgt := 27) hx hb dX8_mirrorAt_23 (by decide) ?_
          refine lv_istore_n (lv' := [(2, zi k), (0, .ref (ad 0)), (1, zi its), (3, zi k)]) hx hb dX8_mirrorAt_27 rfl hl (by decide) rfl (fun ls hl => ?_)
          refine hz_iinc (v := (k + 1)) (lv' := [(3, zi (k + 1)), (2, zi k), (0, .ref (ad 0)), (1, zi its)]) hx hb dX8_mirrorAt_28 hl (k := 3) rfl (by omega) (by decide) rfl (fun ls hl => ?_)
          refine lv_goto (tgt := 4) hx hb dX8_mirrorAt_31 (by decide) ?_
          exact ih4 k (k + 1) _ _ (by omega) (by first | exact mrk_1 (by omega) (by assumption) | exact mrk_2 h_f4 (by assumption)) (by omega) hP hD hS ls (lv_sub hl [2, 3, 1, 0] rfl)
  exact L4 _ (-1) 0 _ _ (by omega) (mrk_0) (Nat.lt_succ_self _) hP hD hS ls (lv_sub hl [2, 3, 1, 0] rfl)
abbrev Q_X8_distance (G : va_G) (y : Nat → ClassId) (ad : Nat → Nat) (vThrown vN vC vNow vHaze vCold vHot vPipe vDeg vThaw vTrc vTurb vLeft vLoad vWater vTrips vMissed vBRow vBSum : Int) (vCell vDirt vAim vErr vCor vBrk vTop vLm vRows vCols vDown vRight vBound vStrain vPrice vFirm vSums vRays vFalls vSom vHad : Int → Int) (its : Int) (A : Nat → Prop) : Array Value → State → Outcome → State → Prop := va_Qi (fun (r : Int32) (u : Unit) => r = zI (dstZ (vCell its)) ∧ True) (fun (u : Unit) t => va_P G vwCl (mW ad y vThrown vN vC vNow vHaze vCold vHot vPipe vDeg vThaw vTrc vTurb vLeft vLoad vWater vTrips vMissed vBRow vBSum vCell vDirt vAim vErr vCor vBrk vTop vLm vRows vCols vDown vRight vBound vStrain vPrice vFirm vSums vRays vFalls vSom vHad) t.heap) A
set_option maxHeartbeats 4000000 in
set_option maxRecDepth 100000 in
theorem c_X8_distance (l : Launch) (G : va_G) (y : Nat → ClassId) (ad : Nat → Nat) (sz : Nat) (vThrown vN vC vNow vHaze vCold vHot vPipe vDeg vThaw vTrc vTurb vLeft vLoad vWater vTrips vMissed vBRow vBSum : Int) (vCell vDirt vAim vErr vCor vBrk vTop vLm vRows vCols vDown vRight vBound vStrain vPrice vFirm vSums vRays vFalls vSom vHad : Int → Int) (its : Int) (hCell : ∀ k : Int, 0 ≤ vCell k ∧ vCell k ≤ 63) (hi : 0 ≤ its ∧ its ≤ 11) : Met l yX8_distance wsX8_distance ({ frames := 0, cells := 0, slots := 0, locals := 0 }) (va_Pc [.ref (ad 0), zi its] (HPre G (tyL y) (mW ad y vThrown vN vC vNow vHaze vCold vHot vPipe vDeg vThaw vTrc vTurb vLeft vLoad vWater vTrips vMissed vBRow vBSum vCell vDirt vAim vErr vCor vBrk vTop vLm vRows vCols vDown vRight vBound vStrain vPrice vFirm vSums vRays vFalls vSom vHad) sz)) (Q_X8_distance G y ad vThrown vN vC vNow vHaze vCold vHot vPipe vDeg vThaw vTrc vTurb vLeft vLoad vWater vTrips vMissed vBRow vBSum vCell vDirt vAim vErr vCor vBrk vTop vLm vRows vCols vDown vRight vBound vStrain vPrice vFirm vSums vRays vFalls vSom vHad its (va_A (mW ad y vThrown vN vC vNow vHaze vCold vHot vPipe vDeg vThaw vTrc vTurb vLeft vLoad vWater vTrips vMissed vBRow vBSum vCell vDirt vAim vErr vCor vBrk vTop vLm vRows vCols vDown vRight vBound vStrain vPrice vFirm vSums vRays vFalls vSom vHad) sz)) 0 0 (va_A (mW ad y vThrown vN vC vNow vHaze vCold vHot vPipe vDeg vThaw vTrc vTurb vLeft vLoad vWater vTrips vMissed vBRow vBSum vCell vDirt vAim vErr vCor vBrk vTop vLm vRows vCols vDown vRight vBound vStrain vPrice vFirm vSums vRays vFalls vSom vHad) sz) := by
  refine hz_ofW (Qf := Q_X8_distance G y ad vThrown vN vC vNow vHaze vCold vHot vPipe vDeg vThaw vTrc vTurb vLeft vLoad vWater vTrips vMissed vBRow vBSum vCell vDirt vAim vErr vCor vBrk vTop vLm vRows vCols vDown vRight vBound vStrain vPrice vFirm vSums vRays vFalls vSom vHad its) (cc := cX8_distance) (maxL := 3) (ret := (some .int)) (by decide) rfl (Nat.le_of_ble_eq_true rfl) ?_
  intro p e s m below meth c A ls hx hb hr hts hown hin hlocks hml hP hK hA hD hS hl
  have hown : s.vm.findClass RX8 = some m.cls := hown
  have hl : lv_has ls 3 [(0, .ref (ad 0)), (1, zi its)] := hl
  have hinwsX80 : ∀ w ∈ wsX80, w ∈ wsX8_distance := fun _ h => List.mem_cons_of_mem _ (List.mem_append_right _ (h))
  refine lv_aload_n hx hb dX8_distance_0 rfl (lv_at hl 0 rfl) ?_
  refine va_get (D := G) (ci := 9) (v := .ref (ad 1)) (C := RX8) (T := TX8) (N := 40) hx hb hts hinwsX80 hown hK hP 0 rfl rfl 2 (by decide) (hts (.fieldLink RX8 7 "HeliokeepModel" "cell" "[I") (List.mem_of_getElem? (i := 1) rfl)) (fun _ h9 => h9) rfl dX8_distance_1 ?_
  refine lv_iload_n hx hb dX8_distance_4 rfl (lv_at hl 1 rfl) ?_
  refine hz_iald (f := vCell) hx hb hK hP 1 0 rfl rfl (Nat.le_of_ble_eq_true rfl) (by omega) dX8_distance_5 ?_
  have q1 := hCell its
  refine hz_bipush hx hb dX8_distance_6 (by decide) ?_
  refine hz_irem hx hb dX8_distance_8 (by omega) ?_
  refine hz_iconst hx hb dX8_distance_9 ?_
  refine hz_isub hx hb dX8_distance_10 ?_
  refine lv_istore_n (lv' := [(2, zi (((vCell its) % 8) - 3)), (0, .ref (ad 0)), (1, zi its)]) hx hb dX8_distance_11 rfl hl (by decide) rfl (fun ls hl => ?_)
  refine lv_aload_n hx hb dX8_distance_12 rfl (lv_at hl 1 rfl) ?_
  refine va_get (D := G) (ci := 9) (v := .ref (ad 1)) (C := RX8) (T := TX8) (N := 40) hx hb hts hinwsX80 hown hK hP 0 rfl rfl 2 (by decide) (hts (.fieldLink RX8 7 "HeliokeepModel" "cell" "[I") (List.mem_of_getElem? (i := 1) rfl)) (fun _ h9 => h9) rfl dX8_distance_13 ?_
  refine lv_iload_n hx hb dX8_distance_16 rfl (lv_at hl 2 rfl) ?_
  refine hz_iald (f := vCell) hx hb hK hP 1 0 rfl rfl (Nat.le_of_ble_eq_true rfl) (by omega) dX8_distance_17 ?_
  have q2 := hCell its
  refine hz_bipush hx hb dX8_distance_18 (by decide) ?_
  refine hz_idiv hx hb dX8_distance_20 (by omega) ?_
  refine hz_iconst hx hb dX8_distance_21 ?_
  refine hz_iadd hx hb dX8_distance_22 ?_
  refine lv_iload_n hx hb dX8_distance_23 rfl (lv_at hl 0 rfl) ?_
  refine hz_if_ge (tgt := 32) hx hb dX8_distance_24 (by decide) (by omega) (fun c3 => ?_) (fun c3 => ?_)
  · refine lv_iload_n hx hb dX8_distance_32 rfl (lv_at hl 0 rfl) ?_
    refine hz_iadd hx hb dX8_distance_33 ?_
    exact W.iret (v := zI ((((vCell its) / 8) + 1) + (((vCell its) % 8) - 3))) hx hb hr (fun t ht hW => ⟨⟨zI ((((vCell its) / 8) + 1) + (((vCell its) % 8) - 3)), (), rfl, ⟨congrArg zI (by unfold dstZ; omega), trivial⟩, hz_at hP ht⟩, hS.F ht⟩) hS.2.2 dX8_distance_34
  · refine lv_iload_n hx hb dX8_distance_27 rfl (lv_at hl 0 rfl) ?_
    refine hz_ineg hx hb dX8_distance_28 ?_
    refine lv_goto (tgt := 33) hx hb dX8_distance_29 (by decide) ?_
    refine hz_iadd hx hb dX8_distance_33 ?_
    exact W.iret (v := zI ((((vCell its) / 8) + 1) + (-(((vCell its) % 8) - 3)))) hx hb hr (fun t ht hW => ⟨⟨zI ((((vCell its) / 8) + 1) + (-(((vCell its) % 8) - 3))), (), rfl, ⟨congrArg zI (by unfold dstZ; omega), trivial⟩, hz_at hP ht⟩, hS.F ht⟩) hS.2.2 dX8_distance_34
abbrev Q_X8_isCovered (G : va_G) (y : Nat → ClassId) (ad : Nat → Nat) (vThrown vN vC vNow vHaze vCold vHot vPipe vDeg vThaw vTrc vTurb vLeft vLoad vWater vTrips vMissed vBRow vBSum : Int) (vCell vDirt vAim vErr vCor vBrk vTop vLm vRows vCols vDown vRight vBound vStrain vPrice vFirm vSums vRays vFalls vSom vHad : Int → Int) (its : Int) (ticks : Int) (A : Nat → Prop) : Array Value → State → Outcome → State → Prop := va_Qi (fun (r : Int32) (u : Unit) => r = zI (cvZ vC vTop vLm vRows vCols vDown vRight (vCell its) ticks) ∧ True) (fun (u : Unit) t => va_P G vwCl (mW ad y vThrown vN vC vNow vHaze vCold vHot vPipe vDeg vThaw vTrc vTurb vLeft vLoad vWater vTrips vMissed vBRow vBSum vCell vDirt vAim vErr vCor vBrk vTop vLm vRows vCols vDown vRight vBound vStrain vPrice vFirm vSums vRays vFalls vSom vHad) t.heap) A
set_option maxHeartbeats 4000000 in
set_option maxRecDepth 100000 in
theorem c_X8_isCovered (l : Launch) (G : va_G) (y : Nat → ClassId) (ad : Nat → Nat) (sz : Nat) (vThrown vN vC vNow vHaze vCold vHot vPipe vDeg vThaw vTrc vTurb vLeft vLoad vWater vTrips vMissed vBRow vBSum : Int) (vCell vDirt vAim vErr vCor vBrk vTop vLm vRows vCols vDown vRight vBound vStrain vPrice vFirm vSums vRays vFalls vSom vHad : Int → Int) (its : Int) (ticks : Int) (hC : 0 ≤ vC ∧ vC ≤ 4) (hNow : 0 ≤ vNow ∧ vNow ≤ 9999) (hCell : ∀ k : Int, 0 ≤ vCell k ∧ vCell k ≤ 63) (hTop : ∀ k : Int, -(16 + vNow) ≤ vTop k ∧ vTop k ≤ 16 + vNow) (hLm : ∀ k : Int, -(16 + vNow) ≤ vLm k ∧ vLm k ≤ 16 + vNow) (hRows : ∀ k : Int, 0 ≤ vRows k ∧ vRows k ≤ 8) (hCols : ∀ k : Int, 0 ≤ vCols k ∧ vCols k ≤ 8) (hDown : ∀ k : Int, -1 ≤ vDown k ∧ vDown k ≤ 1) (hRight : ∀ k : Int, -1 ≤ vRight k ∧ vRight k ≤ 1) (hi : 0 ≤ its ∧ its ≤ 11) (ht : 0 ≤ ticks ∧ ticks ≤ 24) : Met l yX8_isCovered wsX8_isCovered ({ frames := 1, cells := 0, slots := 0, locals := 22 }) (va_Pc [.ref (ad 0), zi its, zi ticks] (HPre G (tyL y) (mW ad y vThrown vN vC vNow vHaze vCold vHot vPipe vDeg vThaw vTrc vTurb vLeft vLoad vWater vTrips vMissed vBRow vBSum vCell vDirt vAim vErr vCor vBrk vTop vLm vRows vCols vDown vRight vBound vStrain vPrice vFirm vSums vRays vFalls vSom vHad) sz)) (Q_X8_isCovered G y ad vThrown vN vC vNow vHaze vCold vHot vPipe vDeg vThaw vTrc vTurb vLeft vLoad vWater vTrips vMissed vBRow vBSum vCell vDirt vAim vErr vCor vBrk vTop vLm vRows vCols vDown vRight vBound vStrain vPrice vFirm vSums vRays vFalls vSom vHad its ticks (va_A (mW ad y vThrown vN vC vNow vHaze vCold vHot vPipe vDeg vThaw vTrc vTurb vLeft vLoad vWater vTrips vMissed vBRow vBSum vCell vDirt vAim vErr vCor vBrk vTop vLm vRows vCols vDown vRight vBound vStrain vPrice vFirm vSums vRays vFalls vSom vHad) sz)) 0 0 (va_A (mW ad y vThrown vN vC vNow vHaze vCold vHot vPipe vDeg vThaw vTrc vTurb vLeft vLoad vWater vTrips vMissed vBRow vBSum vCell vDirt vAim vErr vCor vBrk vTop vLm vRows vCols vDown vRight vBound vStrain vPrice vFirm vSums vRays vFalls vSom vHad) sz) := by
  refine hz_ofW (Qf := Q_X8_isCovered G y ad vThrown vN vC vNow vHaze vCold vHot vPipe vDeg vThaw vTrc vTurb vLeft vLoad vWater vTrips vMissed vBRow vBSum vCell vDirt vAim vErr vCor vBrk vTop vLm vRows vCols vDown vRight vBound vStrain vPrice vFirm vSums vRays vFalls vSom vHad its ticks) (cc := cX8_isCovered) (maxL := 9) (ret := (some .boolean)) (by decide) rfl (Nat.le_of_ble_eq_true rfl) ?_
  intro p e s m below meth c A ls hx hb hr hts hown hin hlocks hml hP hK hA hD hS hl
  have hown : s.vm.findClass RX8 = some m.cls := hown
  have hl : lv_has ls 9 [(0, .ref (ad 0)), (1, zi its), (2, zi ticks)] := hl
  have hinwsX80 : ∀ w ∈ wsX80, w ∈ wsX8_isCovered := fun _ h => List.mem_cons_of_mem _ (List.mem_append_right _ (h))
  refine lv_aload_n hx hb dX8_isCovered_0 rfl (lv_at hl 0 rfl) ?_
  refine va_get (D := G) (ci := 9) (v := .ref (ad 1)) (C := RX8) (T := TX8) (N := 40) hx hb hts hinwsX80 hown hK hP 0 rfl rfl 2 (by decide) (hts (.fieldLink RX8 7 "HeliokeepModel" "cell" "[I") (List.mem_of_getElem? (i := 1) rfl)) (fun _ h9 => h9) rfl dX8_isCovered_1 ?_
  refine lv_iload_n hx hb dX8_isCovered_4 rfl (lv_at hl 1 rfl) ?_
  refine hz_iald (f := vCell) hx hb hK hP 1 0 rfl rfl (Nat.le_of_ble_eq_true rfl) (by omega) dX8_isCovered_5 ?_
  have q1 := hCell its
  refine hz_bipush hx hb dX8_isCovered_6 (by decide) ?_
  refine hz_idiv hx hb dX8_isCovered_8 (by omega) ?_
  refine lv_istore_n (lv' := [(3, zi ((vCell its) / 8)), (0, .ref (ad 0)), (1, zi its), (2, zi ticks)]) hx hb dX8_isCovered_9 rfl hl (by decide) rfl (fun ls hl => ?_)
  refine lv_aload_n hx hb dX8_isCovered_10 rfl (lv_at hl 1 rfl) ?_
  refine va_get (D := G) (ci := 9) (v := .ref (ad 1)) (C := RX8) (T := TX8) (N := 40) hx hb hts hinwsX80 hown hK hP 0 rfl rfl 2 (by decide) (hts (.fieldLink RX8 7 "HeliokeepModel" "cell" "[I") (List.mem_of_getElem? (i := 1) rfl)) (fun _ h9 => h9) rfl dX8_isCovered_11 ?_
  refine lv_iload_n hx hb dX8_isCovered_14 rfl (lv_at hl 2 rfl) ?_
  refine hz_iald (f := vCell) hx hb hK hP 1 0 rfl rfl (Nat.le_of_ble_eq_true rfl) (by omega) dX8_isCovered_15 ?_
  have q2 := hCell its
  refine hz_bipush hx hb dX8_isCovered_16 (by decide) ?_
  refine hz_irem hx hb dX8_isCovered_18 (by omega) ?_
  refine lv_istore (lv' := [(4, zi ((vCell its) % 8)), (3, zi ((vCell its) / 8)), (0, .ref (ad 0)), (1, zi its), (2, zi ticks)]) hx hb dX8_isCovered_19 hl (by decide) rfl (fun ls hl => ?_)
  refine hz_iconst hx hb dX8_isCovered_21 ?_
  refine lv_istore (lv' := [(5, zi 0), (4, zi ((vCell its) % 8)), (3, zi ((vCell its) / 8)), (0, .ref (ad 0)), (1, zi its), (2, zi ticks)]) hx hb dX8_isCovered_22 hl (by decide) rfl (fun ls hl => ?_)
  refine hz_iconst hx hb dX8_isCovered_24 ?_
  refine lv_istore (lv' := [(6, zi 0), (5, zi 0), (4, zi ((vCell its) % 8)), (3, zi ((vCell its) / 8)), (0, .ref (ad 0)), (1, zi its), (2, zi ticks)]) hx hb dX8_isCovered_25 hl (by decide) rfl (fun ls hl => ?_)
  have L27 : ∀ (n : Nat) (cv : Int) (k : Int) (H : Heap) (locs : List Loc), (0 ≤ k ∧ k ≤ vC) → (cv = 0 ∨ cv = 1) → (cv = cvZ k vTop vLm vRows vCols vDown vRight (vCell its) ticks) → ((vC - k).toNat) < n → va_P G vwCl (mW ad y vThrown vN vC vNow vHaze vCold vHot vPipe vDeg vThaw vTrc vTurb vLeft vLoad vWater vTrips vMissed vBRow vBSum vCell vDirt vAim vErr vCor vBrk vTop vLm vRows vCols vDown vRight vBound vStrain vPrice vFirm vSums vRays vFalls vSom vHad) H → va_D A (mW ad y vThrown vN vC vNow vHaze vCold vHot vPipe vDeg vThaw vTrc vTurb vLeft vLoad vWater vTrips vMissed vBRow vBSum vCell vDirt vAim vErr vCor vBrk vTop vLm vRows vCols vDown vRight vBound vStrain vPrice vFirm vSums vRays vFalls vSom vHad) → va_S A s.heap H locs → ∀ ls : Array Slot, lv_has ls 9 [(0, .ref (ad 0)), (2, zi ticks), (3, zi (vCell its / 8)), (4, zi (vCell its % 8)), (5, zi cv), (6, zi k)] → W p l e (headSpec wsX8_isCovered ({ frames := 1, cells := 0, slots := 0, locals := 22 })).room s m ([.ref (ad 0), zi its, zi ticks] : List Value).toArray below meth c H locs 0 0 (MQ below (Q_X8_isCovered G y ad vThrown vN vC vNow vHaze vCold vHot vPipe vDeg vThaw vTrc vTurb vLeft vLoad vWater vTrips vMissed vBRow vBSum vCell vDirt vAim vErr vCor vBrk vTop vLm vRows vCols vDown vRight vBound vStrain vPrice vFirm vSums vRays vFalls vSom vHad its ticks A) ([.ref (ad 0), zi its, zi ticks] : List Value).toArray s 0 0 A) (F0 m 27 ls []) := by
    intro n
    induction n with
    | zero => exact fun cv k H locs h_k27 h_0127 h_c27 hm => absurd hm (Nat.not_lt_zero _)
    | succ n ih27 =>
      intro cv k H locs h_k27 h_0127 h_c27 hm27 hP hD hS ls hl
      refine lv_iload hx hb dX8_isCovered_27 (lv_at hl 5 rfl) ?_
      refine lv_aload_n hx hb dX8_isCovered_29 rfl (lv_at hl 0 rfl) ?_
      refine va_get (D := G) (ci := 9) (v := zi vC) (C := RX8) (T := TX8) (N := 40) hx hb hts hinwsX80 hown hK hP 0 rfl rfl 8 (by decide) (hts (.fieldLink RX8 117 "HeliokeepModel" "clouds" "I") (List.mem_of_getElem? (i := 2) rfl)) (fun _ h9 => h9) rfl dX8_isCovered_30 ?_
      refine hz_icmp_ge (tgt := 135) hx hb dX8_isCovered_33 (by decide) (by omega) (fun c3 => ?_) (fun c3 => ?_)
      · refine lv_iload hx hb dX8_isCovered_135 (lv_at hl 4 rfl) ?_
        exact W.zret (ty := .boolean) (v := zI cv) hx hb hr (zI_nb (by omega)) (fun t ht hW => ⟨⟨zI cv, (), rfl, ⟨congrArg zI (by rw [h_c27]; exact congrArg (fun z => cvZ z vTop vLm vRows vCols vDown vRight (vCell its) ticks) (by omega)), trivial⟩, hz_at hP ht⟩, hS.F ht⟩) hS.2.2 dX8_isCovered_137
      · have qc := hCell its
        have h01 := isZ_01 (∃ j : Int, 0 ≤ j ∧ j < k ∧ cvP vTop vLm vRows vCols vDown vRight (vCell its) ticks j)
        have h01 : cvZ k vTop vLm vRows vCols vDown vRight (vCell its) ticks = 0 ∨ cvZ k vTop vLm vRows vCols vDown vRight (vCell its) ticks = 1 := h01
        have qd := mul_1 (hDown k) ht
        have qr := mul_1 (hRight k) ht
        refine lv_aload_n hx hb dX8_isCovered_36 rfl (lv_at hl 0 rfl) ?_
        refine va_get (D := G) (ci := 9) (v := .ref (ad 7)) (C := RX8) (T := TX8) (N := 40) hx hb hts hinwsX80 hown hK hP 0 rfl rfl 9 (by decide) (hts (.fieldLink RX8 29 "HeliokeepModel" "top" "[I") (List.mem_of_getElem? (i := 3) rfl)) (fun _ h9 => h9) rfl dX8_isCovered_37 ?_
        refine lv_iload hx hb dX8_isCovered_40 (lv_at hl 5 rfl) ?_
        refine hz_iald (f := vTop) hx hb hK hP 7 0 rfl rfl (Nat.le_of_ble_eq_true rfl) (by omega) dX8_isCovered_42 ?_
        have q4 := hTop k
        refine lv_aload_n hx hb dX8_isCovered_43 rfl (lv_at hl 0 rfl) ?_
        refine va_get (D := G) (ci := 9) (v := .ref (ad 11)) (C := RX8) (T := TX8) (N := 40) hx hb hts hinwsX80 hown hK hP 0 rfl rfl 13 (by decide) (hts (.fieldLink RX8 41 "HeliokeepModel" "down" "[I") (List.mem_of_getElem? (i := 4) rfl)) (fun _ h9 => h9) rfl dX8_isCovered_44 ?_
        refine lv_iload hx hb dX8_isCovered_47 (lv_at hl 5 rfl) ?_
        refine hz_iald (f := vDown) hx hb hK hP 11 0 rfl rfl (Nat.le_of_ble_eq_true rfl) (by omega) dX8_isCovered_49 ?_
        have q5 := hDown k
        refine lv_iload_n hx hb dX8_isCovered_50 rfl (lv_at hl 1 rfl) ?_
        refine hz_imul hx hb dX8_isCovered_51 ?_
        refine hz_iadd hx hb dX8_isCovered_52 ?_
        refine lv_istore (lv' := [(7, zi ((vTop k) + ((vDown k) * ticks))), (0, .ref (ad 0)), (2, zi ticks), (3, zi (vCell its / 8)), (4, zi (vCell its % 8)), (5, zi cv), (6, zi k)]) hx hb dX8_isCovered_53 hl (by decide) rfl (fun ls hl => ?_)
        refine lv_aload_n hx hb dX8_isCovered_55 rfl (lv_at hl 1 rfl) ?_
        refine va_get (D := G) (ci := 9) (v := .ref (ad 8)) (C := RX8) (T := TX8) (N := 40) hx hb hts hinwsX80 hown hK hP 0 rfl rfl 10 (by decide) (hts (.fieldLink RX8 32 "HeliokeepModel" "leftmost" "[I") (List.mem_of_getElem? (i := 5) rfl)) (fun _ h9 => h9) rfl dX8_isCovered_56 ?_
        refine lv_iload hx hb dX8_isCovered_59 (lv_at hl 6 rfl) ?_
        refine hz_iald (f := vLm) hx hb hK hP 8 0 rfl rfl (Nat.le_of_ble_eq_true rfl) (by omega) dX8_isCovered_61 ?_
        have q6 := hLm k
        refine lv_aload_n hx hb dX8_isCovered_62 rfl (lv_at hl 1 rfl) ?_
        refine va_get (D := G) (ci := 9) (v := .ref (ad 12)) (C := RX8) (T := TX8) (N := 40) hx hb hts hinwsX80 hown hK hP 0 rfl rfl 14 (by decide) (hts (.fieldLink RX8 44 "HeliokeepModel" "right" "[I") (List.mem_of_getElem? (i := 6) rfl)) (fun _ h9 => h9) rfl dX8_isCovered_63 ?_
        refine lv_iload hx hb dX8_isCovered_66 (lv_at hl 6 rfl) ?_
        refine hz_iald (f := vRight) hx hb hK hP 12 0 rfl rfl (Nat.le_of_ble_eq_true rfl) (by omega) dX8_isCovered_68 ?_
        have q7 := hRight k
        refine lv_iload_n hx hb dX8_isCovered_69 rfl (lv_at hl 2 rfl) ?_
        refine hz_imul hx hb dX8_isCovered_70 ?_
        refine hz_iadd hx hb dX8_isCovered_71 ?_
        refine lv_istore (lv' := [(8, zi ((vLm k) + ((vRight k) * ticks))), (7, zi ((vTop k) + ((vDown k) * ticks))), (0, .ref (ad 0)), (2, zi ticks), (3, zi (vCell its / 8)), (4, zi (vCell its % 8)), (5, zi cv), (6, zi k)]) hx hb dX8_isCovered_72 hl (by decide) rfl (fun ls hl => ?_)
        refine lv_iload hx hb dX8_isCovered_74 (lv_at hl 6 rfl) ?_
        refine hz_if_ne (tgt := 122) hx hb dX8_isCovered_76 (by decide) (by omega) (fun c8 => ?_) (fun c8 => ?_)
        · refine hz_iconst hx hb dX8_isCovered_122 ?_
          refine lv_goto (tgt := 127) hx hb dX8_isCovered_123 (by decide) ?_
          refine lv_istore (lv' := [(5, zi 1), (8, zi ((vLm k) + ((vRight k) * ticks))), (7, zi ((vTop k) + ((vDown k) * ticks))), (0, .ref (ad 0)), (2, zi ticks), (3, zi (vCell its / 8)), (4, zi (vCell its % 8)), (6, zi k)]) hx hb dX8_isCovered_127 hl (by decide) rfl (fun ls hl => ?_)
          refine hz_iinc (v := (k + 1)) (lv' := [(6, zi (k + 1)), (5, zi 1), (8, zi ((vLm k) + ((vRight k) * ticks))), (7, zi ((vTop k) + ((vDown k) * ticks))), (0, .ref (ad 0)), (2, zi ticks), (3, zi (vCell its / 8)), (4, zi (vCell its % 8))]) hx hb dX8_isCovered_129 hl (k := 7) rfl (by omega) (by decide) rfl (fun ls hl => ?_)
          refine lv_goto (tgt := 27) hx hb dX8_isCovered_132 (by decide) ?_
          exact ih27 1 (k + 1) _ _ (by omega) (by omega) (by first | exact (cvZ_y (Or.inl (by omega)) (by omega)).symm | exact (cvZ_y (Or.inr (by unfold cvP; omega)) (by omega)).symm | exact (cvZ_n (by omega) (by unfold cvP; omega)).symm) (by omega) hP hD hS ls (lv_sub hl [4, 5, 6, 7, 1, 0] rfl)
        · refine lv_iload_n hx hb dX8_isCovered_79 rfl (lv_at hl 4 rfl) ?_
          refine lv_iload hx hb dX8_isCovered_80 (lv_at hl 1 rfl) ?_
          refine lv_iload hx hb dX8_isCovered_82 (lv_at hl 1 rfl) ?_
          refine lv_aload_n hx hb dX8_isCovered_84 rfl (lv_at hl 2 rfl) ?_
          refine va_get (D := G) (ci := 9) (v := .ref (ad 9)) (C := RX8) (T := TX8) (N := 40) hx hb hts hinwsX80 hown hK hP 0 rfl rfl 11 (by decide) (hts (.fieldLink RX8 35 "HeliokeepModel" "rows" "[I") (List.mem_of_getElem? (i := 7) rfl)) (fun _ h9 => h9) rfl dX8_isCovered_85 ?_
          refine lv_iload hx hb dX8_isCovered_88 (lv_at hl 7 rfl) ?_
          refine hz_iald (f := vRows) hx hb hK hP 9 0 rfl rfl (Nat.le_of_ble_eq_true rfl) (by omega) dX8_isCovered_90 ?_
          have q9 := hRows k
          refine hz_iadd hx hb dX8_isCovered_91 ?_
          refine hz_iconst hx hb dX8_isCovered_92 ?_
          refine hz_isub hx hb dX8_isCovered_93 ?_
          refine hz_callSi (As := [zi (vCell its / 8), zi ((vTop k) + ((vDown k) * ticks)), zi ((((vTop k) + ((vDown k) * ticks)) + (vRows k)) - 1)]) (rest := []) ⟨hx, hb, hml, hown, hts⟩ (c_X8_isIn l (vCell its / 8) ((vTop k) + ((vDown k) * ticks)) ((((vTop k) + ((vDown k) * ticks)) + (vRows k)) - 1) (by omega) (by omega) (by omega)) (va_cwS 3 hts gX8_isCovered_X8_isIn rfl rfl rfl (by decide +kernel) ⟨Nat.le_of_ble_eq_true rfl, Nat.le_of_ble_eq_true rfl⟩) rfl hl.1 rfl (Nat.le_of_ble_eq_true rfl) dX8_isCovered_94 ⟨Nat.zero_le _, Nat.zero_le _⟩ ?_
          refine hz_topi (fun z10 e11 => ?_)
          refine hz_if_eq (tgt := 126) hx hb dX8_isCovered_97 (by decide) (by omega) (fun c12 => ?_) (fun c12 => ?_)
          · refine hz_iconst hx hb dX8_isCovered_126 ?_
            refine lv_istore (lv' := [(5, zi 0), (8, zi ((vLm k) + ((vRight k) * ticks))), (7, zi ((vTop k) + ((vDown k) * ticks))), (0, .ref (ad 0)), (2, zi ticks), (3, zi (vCell its / 8)), (4, zi (vCell its % 8)), (6, zi k)]) hx hb dX8_isCovered_127 hl (by decide) rfl (fun ls hl => ?_)
            refine hz_iinc (v := (k + 1)) (lv' := [(6, zi (k + 1)), (5, zi 0), (8, zi ((vLm k) + ((vRight k) * ticks))), (7, zi ((vTop k) + ((vDown k) * ticks))), (0, .ref (ad 0)), (2, zi ticks), (3, zi (vCell its / 8)), (4, zi (vCell its % 8))]) hx hb dX8_isCovered_129 hl (k := 7) rfl (by omega) (by decide) rfl (fun ls hl => ?_)
            refine lv_goto (tgt := 27) hx hb dX8_isCovered_132 (by decide) ?_
            exact ih27 0 (k + 1) _ _ (by omega) (by omega) (by first | exact (cvZ_y (Or.inl (by omega)) (by omega)).symm | exact (cvZ_y (Or.inr (by unfold cvP; omega)) (by omega)).symm | exact (cvZ_n (by omega) (by unfold cvP; omega)).symm) (by omega) hP hD hS ls (lv_sub hl [4, 5, 6, 7, 1, 0] rfl)
          · refine lv_iload hx hb dX8_isCovered_100 (lv_at hl 5 rfl) ?_
            refine lv_iload hx hb dX8_isCovered_102 (lv_at hl 0 rfl) ?_
            refine lv_iload hx hb dX8_isCovered_104 (lv_at hl 0 rfl) ?_
            refine lv_aload_n hx hb dX8_isCovered_106 rfl (lv_at hl 2 rfl) ?_
            refine va_get (D := G) (ci := 9) (v := .ref (ad 10)) (C := RX8) (T := TX8) (N := 40) hx hb hts hinwsX80 hown hK hP 0 rfl rfl 12 (by decide) (hts (.fieldLink RX8 38 "HeliokeepModel" "columns" "[I") (List.mem_of_getElem? (i := 8) rfl)) (fun _ h9 => h9) rfl dX8_isCovered_107 ?_
            refine lv_iload hx hb dX8_isCovered_110 (lv_at hl 7 rfl) ?_
            refine hz_iald (f := vCols) hx hb hK hP 10 0 rfl rfl (Nat.le_of_ble_eq_true rfl) (by omega) dX8_isCovered_112 ?_
            have q13 := hCols k
            refine hz_iadd hx hb dX8_isCovered_113 ?_
            refine hz_iconst hx hb dX8_isCovered_114 ?_
            refine hz_isub hx hb dX8_isCovered_115 ?_
            refine hz_callSi (As := [zi (vCell its % 8), zi ((vLm k) + ((vRight k) * ticks)), zi ((((vLm k) + ((vRight k) * ticks)) + (vCols k)) - 1)]) (rest := []) ⟨hx, hb, hml, hown, hts⟩ (c_X8_isIn l (vCell its % 8) ((vLm k) + ((vRight k) * ticks)) ((((vLm k) + ((vRight k) * ticks)) + (vCols k)) - 1) (by omega) (by omega) (by omega)) (va_cwS 3 hts gX8_isCovered_X8_isIn rfl rfl rfl (by decide +kernel) ⟨Nat.le_of_ble_eq_true rfl, Nat.le_of_ble_eq_true rfl⟩) rfl hl.1 rfl (Nat.le_of_ble_eq_true rfl) dX8_isCovered_116 ⟨Nat.zero_le _, Nat.zero_le _⟩ ?_
            refine hz_topi (fun z14 e15 => ?_)
            refine hz_if_eq (tgt := 126) hx hb dX8_isCovered_119 (by decide) (by omega) (fun c16 => ?_) (fun c16 => ?_)
            · refine hz_iconst hx hb dX8_isCovered_126 ?_
              refine lv_istore (lv' := [(5, zi 0), (8, zi ((vLm k) + ((vRight k) * ticks))), (7, zi ((vTop k) + ((vDown k) * ticks))), (0, .ref (ad 0)), (2, zi ticks), (3, zi (vCell its / 8)), (4, zi (vCell its % 8)), (6, zi k)]) hx hb dX8_isCovered_127 hl (by decide) rfl (fun ls hl => ?_)
              refine hz_iinc (v := (k + 1)) (lv' := [(6, zi (k + 1)), (5, zi 0), (8, zi ((vLm k) + ((vRight k) * ticks))), (7, zi ((vTop k) + ((vDown k) * ticks))), (0, .ref (ad 0)), (2, zi ticks), (3, zi (vCell its / 8)), (4, zi (vCell its % 8))]) hx hb dX8_isCovered_129 hl (k := 7) rfl (by omega) (by decide) rfl (fun ls hl => ?_)
              refine lv_goto (tgt := 27) hx hb dX8_isCovered_132 (by decide) ?_
              exact ih27 0 (k + 1) _ _ (by omega) (by omega) (by first | exact (cvZ_y (Or.inl (by omega)) (by omega)).symm | exact (cvZ_y (Or.inr (by unfold cvP; omega)) (by omega)).symm | exact (cvZ_n (by omega) (by unfold cvP; omega)).symm) (by omega) hP hD hS ls (lv_sub hl [4, 5, 6, 7, 1, 0] rfl)
            · refine hz_iconst hx hb dX8_isCovered_122 ?_
              refine lv_goto (tgt := 127) hx hb dX8_isCovered_123 (by decide) ?_
              refine lv_istore (lv' := [(5, zi 1), (8, zi ((vLm k) + ((vRight k) * ticks))), (7, zi ((vTop k) + ((vDown k) * ticks))), (0, .ref (ad 0)), (2, zi ticks), (3, zi (vCell its / 8)), (4, zi (vCell its % 8)), (6, zi k)]) hx hb dX8_isCovered_127 hl (by decide) rfl (fun ls hl => ?_)
              refine hz_iinc (v := (k + 1)) (lv' := [(6, zi (k + 1)), (5, zi 1), (8, zi ((vLm k) + ((vRight k) * ticks))), (7, zi ((vTop k) + ((vDown k) * ticks))), (0, .ref (ad 0)), (2, zi ticks), (3, zi (vCell its / 8)), (4, zi (vCell its % 8))]) hx hb dX8_isCovered_129 hl (k := 7) rfl (by omega) (by decide) rfl (fun ls hl => ?_)
              refine lv_goto (tgt := 27) hx hb dX8_isCovered_132 (by decide) ?_
              exact ih27 1 (k + 1) _ _ (by omega) (by omega) (by first | exact (cvZ_y (Or.inl (by omega)) (by omega)).symm | exact (cvZ_y (Or.inr (by unfold cvP; omega)) (by omega)).symm | exact (cvZ_n (by omega) (by unfold cvP; omega)).symm) (by omega) hP hD hS ls (lv_sub hl [4, 5, 6, 7, 1, 0] rfl)
  exact L27 _ 0 0 _ _ (by omega) (by omega) (cvZ_0.symm) (Nat.lt_succ_self _) hP hD hS ls (lv_sub hl [4, 6, 3, 2, 1, 0] rfl)
abbrev Q_X8_isShaded (G : va_G) (y : Nat → ClassId) (ad : Nat → Nat) (vThrown vN vC vNow vHaze vCold vHot vPipe vDeg vThaw vTrc vTurb vLeft vLoad vWater vTrips vMissed vBRow vBSum : Int) (vCell vDirt vAim vErr vCor vBrk vTop vLm vRows vCols vDown vRight vBound vStrain vPrice vFirm vSums vRays vFalls vSom vHad : Int → Int) (its : Int) (tick : Int) (A : Nat → Prop) : Array Value → State → Outcome → State → Prop := va_Qi (fun (r : Int32) (u : Unit) => r = zI (shZ vN vCell (vCell its) tick) ∧ True) (fun (u : Unit) t => va_P G vwCl (mW ad y vThrown vN vC vNow vHaze vCold vHot vPipe vDeg vThaw vTrc vTurb vLeft vLoad vWater vTrips vMissed vBRow vBSum vCell vDirt vAim vErr vCor vBrk vTop vLm vRows vCols vDown vRight vBound vStrain vPrice vFirm vSums vRays vFalls vSom vHad) t.heap) A
set_option maxHeartbeats 4000000 in
set_option maxRecDepth 100000 in
theorem c_X8_isShaded (l : Launch) (G : va_G) (y : Nat → ClassId) (ad : Nat → Nat) (sz : Nat) (vThrown vN vC vNow vHaze vCold vHot vPipe vDeg vThaw vTrc vTurb vLeft vLoad vWater vTrips vMissed vBRow vBSum : Int) (vCell vDirt vAim vErr vCor vBrk vTop vLm vRows vCols vDown vRight vBound vStrain vPrice vFirm vSums vRays vFalls vSom vHad : Int → Int) (its : Int) (tick : Int) (hN : 0 ≤ vN ∧ vN ≤ 12) (hCell : ∀ k : Int, 0 ≤ vCell k ∧ vCell k ≤ 63) (hi : 0 ≤ its ∧ its ≤ 11) (ht : 0 ≤ tick ∧ tick < 2147483648) : Met l yX8_isShaded wsX8_isShaded ({ frames := 1, cells := 0, slots := 0, locals := 23 }) (va_Pc [.ref (ad 0), zi its, zi tick] (HPre G (tyL y) (mW ad y vThrown vN vC vNow vHaze vCold vHot vPipe vDeg vThaw vTrc vTurb vLeft vLoad vWater vTrips vMissed vBRow vBSum vCell vDirt vAim vErr vCor vBrk vTop vLm vRows vCols vDown vRight vBound vStrain vPrice vFirm vSums vRays vFalls vSom vHad) sz)) (Q_X8_isShaded G y ad vThrown vN vC vNow vHaze vCold vHot vPipe vDeg vThaw vTrc vTurb vLeft vLoad vWater vTrips vMissed vBRow vBSum vCell vDirt vAim vErr vCor vBrk vTop vLm vRows vCols vDown vRight vBound vStrain vPrice vFirm vSums vRays vFalls vSom vHad its tick (va_A (mW ad y vThrown vN vC vNow vHaze vCold vHot vPipe vDeg vThaw vTrc vTurb vLeft vLoad vWater vTrips vMissed vBRow vBSum vCell vDirt vAim vErr vCor vBrk vTop vLm vRows vCols vDown vRight vBound vStrain vPrice vFirm vSums vRays vFalls vSom vHad) sz)) 0 0 (va_A (mW ad y vThrown vN vC vNow vHaze vCold vHot vPipe vDeg vThaw vTrc vTurb vLeft vLoad vWater vTrips vMissed vBRow vBSum vCell vDirt vAim vErr vCor vBrk vTop vLm vRows vCols vDown vRight vBound vStrain vPrice vFirm vSums vRays vFalls vSom vHad) sz) := by
  refine hz_ofW (Qf := Q_X8_isShaded G y ad vThrown vN vC vNow vHaze vCold vHot vPipe vDeg vThaw vTrc vTurb vLeft vLoad vWater vTrips vMissed vBRow vBSum vCell vDirt vAim vErr vCor vBrk vTop vLm vRows vCols vDown vRight vBound vStrain vPrice vFirm vSums vRays vFalls vSom vHad its tick) (cc := cX8_isShaded) (maxL := 6) (ret := (some .boolean)) (by decide) rfl (Nat.le_of_ble_eq_true rfl) ?_
  intro p e s m below meth c A ls hx hb hr hts hown hin hlocks hml hP hK hA hD hS hl
  have hown : s.vm.findClass RX8 = some m.cls := hown
  have hl : lv_has ls 6 [(0, .ref (ad 0)), (1, zi its), (2, zi tick)] := hl
  have hinwsX80 : ∀ w ∈ wsX80, w ∈ wsX8_isShaded := fun _ h => List.mem_cons_of_mem _ (List.mem_append_right _ (h))
  have qs := strZ_rng tick
  refine lv_iload_n hx hb dX8_isShaded_0 rfl (lv_at hl 2 rfl) ?_
  refine hz_bipush hx hb dX8_isShaded_1 (by decide) ?_
  refine hz_irem hx hb dX8_isShaded_3 (by omega) ?_
  refine hz_bipush hx hb dX8_isShaded_4 (by decide) ?_
  refine hz_icmp_ge (tgt := 13) hx hb dX8_isShaded_6 (by decide) (by omega) (fun c1 => ?_) (fun c1 => ?_)
  · refine hz_iconst hx hb dX8_isShaded_13 ?_
    refine lv_istore_n (lv' := [(3, zi 0), (0, .ref (ad 0)), (1, zi its), (2, zi tick)]) hx hb dX8_isShaded_14 rfl hl (by decide) rfl (fun ls hl => ?_)
    refine lv_aload_n hx hb dX8_isShaded_15 rfl (lv_at hl 1 rfl) ?_
    refine va_get (D := G) (ci := 9) (v := .ref (ad 1)) (C := RX8) (T := TX8) (N := 40) hx hb hts hinwsX80 hown hK hP 0 rfl rfl 2 (by decide) (hts (.fieldLink RX8 7 "HeliokeepModel" "cell" "[I") (List.mem_of_getElem? (i := 1) rfl)) (fun _ h9 => h9) rfl dX8_isShaded_16 ?_
    refine lv_iload_n hx hb dX8_isShaded_19 rfl (lv_at hl 2 rfl) ?_
    refine hz_iald (f := vCell) hx hb hK hP 1 0 rfl rfl (Nat.le_of_ble_eq_true rfl) (by omega) dX8_isShaded_20 ?_
    have q2 := hCell its
    refine hz_bipush hx hb dX8_isShaded_21 (by decide) ?_
    refine hz_irem hx hb dX8_isShaded_23 (by omega) ?_
    refine lv_istore (lv' := [(4, zi ((vCell its) % 8)), (3, zi 0), (0, .ref (ad 0)), (1, zi its), (2, zi tick)]) hx hb dX8_isShaded_24 hl (by decide) rfl (fun ls hl => ?_)
    refine lv_iload_n hx hb dX8_isShaded_26 rfl (lv_at hl 1 rfl) ?_
    refine hz_if_eq (tgt := 61) hx hb dX8_isShaded_27 (by decide) (by omega) (fun _ => ?_) (fun q => absurd q (by omega))
    refine lv_iload hx hb dX8_isShaded_61 (lv_at hl 0 rfl) ?_
    refine hz_if_le (tgt := 86) hx hb dX8_isShaded_63 (by decide) (by omega) (fun c3 => ?_) (fun c3 => ?_)
    · refine hz_iconst hx hb dX8_isShaded_86 ?_
      refine lv_istore (lv' := [(5, zi 0), (4, zi ((vCell its) % 8)), (3, zi 0), (0, .ref (ad 0)), (1, zi its), (2, zi tick)]) hx hb dX8_isShaded_87 hl (by decide) rfl (fun ls hl => ?_)
      refine lv_iload_n hx hb dX8_isShaded_89 rfl (lv_at hl 5 rfl) ?_
      refine hz_callSi (As := [zi tick]) (rest := []) ⟨hx, hb, hml, hown, hts⟩ (c_X8_strength l tick (by omega) (by omega)) (va_cwS 1 hts gX8_isShaded_X8_strength rfl rfl rfl (by decide +kernel) ⟨Nat.le_of_ble_eq_true rfl, Nat.le_of_ble_eq_true rfl⟩) rfl hl.1 rfl (Nat.le_of_ble_eq_true rfl) dX8_isShaded_90 ⟨Nat.zero_le _, Nat.zero_le _⟩ ?_
      refine hz_iconst hx hb dX8_isShaded_93 ?_
      refine hz_icmp_gt (tgt := 106) hx hb dX8_isShaded_94 (by decide) (by omega) (fun c4 => ?_) (fun c4 => ?_)
      · refine hz_iconst hx hb dX8_isShaded_106 ?_
        exact W.zret (ty := .boolean) (v := zI 0) hx hb hr (zI_nb (by omega)) (fun t ht hW => ⟨⟨zI 0, (), rfl, ⟨congrArg zI (by unfold shZ; omega), trivial⟩, hz_at hP ht⟩, hS.F ht⟩) hS.2.2 dX8_isShaded_107
      · refine lv_iload hx hb dX8_isShaded_97 (lv_at hl 0 rfl) ?_
        refine hz_if_eq (tgt := 106) hx hb dX8_isShaded_99 (by decide) (by omega) (fun _ => ?_) (fun q => absurd q (by omega))
        refine hz_iconst hx hb dX8_isShaded_106 ?_
        exact W.zret (ty := .boolean) (v := zI 0) hx hb hr (zI_nb (by omega)) (fun t ht hW => ⟨⟨zI 0, (), rfl, ⟨congrArg zI (by unfold shZ; omega), trivial⟩, hz_at hP ht⟩, hS.F ht⟩) hS.2.2 dX8_isShaded_107
    · refine lv_aload_n hx hb dX8_isShaded_66 rfl (lv_at hl 2 rfl) ?_
      refine lv_aload_n hx hb dX8_isShaded_67 rfl (lv_at hl 2 rfl) ?_
      refine va_get (D := G) (ci := 9) (v := .ref (ad 1)) (C := RX8) (T := TX8) (N := 40) hx hb hts hinwsX80 hown hK hP 0 rfl rfl 2 (by decide) (hts (.fieldLink RX8 7 "HeliokeepModel" "cell" "[I") (List.mem_of_getElem? (i := 1) rfl)) (fun _ h9 => h9) rfl dX8_isShaded_68 ?_
      refine lv_iload_n hx hb dX8_isShaded_71 rfl (lv_at hl 3 rfl) ?_
      refine hz_iald (f := vCell) hx hb hK hP 1 0 rfl rfl (Nat.le_of_ble_eq_true rfl) (by omega) dX8_isShaded_72 ?_
      have q5 := hCell its
      refine hz_iconst hx hb dX8_isShaded_73 ?_
      refine hz_isub hx hb dX8_isShaded_74 ?_
      refine hz_callWi (As := [zi ((vCell its) - 1)]) (rest := []) ⟨hx, hb, hml, hown, hts⟩ (c_X8_mirrorAt l G y ad _ vThrown vN vC vNow vHaze vCold vHot vPipe vDeg vThaw vTrc vTurb vLeft vLoad vWater vTrips vMissed vBRow vBSum vCell vDirt vAim vErr vCor vBrk vTop vLm vRows vCols vDown vRight vBound vStrain vPrice vFirm vSums vRays vFalls vSom vHad ((vCell its) - 1) hN hCell (by omega)) (cwV 1 hts gX8_isShaded_X8_mirrorAt rfl rfl rfl (by decide +kernel) ⟨Nat.le_of_ble_eq_true rfl, Nat.le_of_ble_eq_true rfl⟩) hP hK hD hS hA 0 9 rfl rfl rfl rfl hl.1 rfl (Nat.le_of_ble_eq_true rfl) dX8_isShaded_75 ⟨Nat.zero_le _, Nat.zero_le _⟩ (fun _ => rfl) (fun r_6 H locs hu hP hD hS => ?_)
      have p7 : (r_6 = -1 ∧ ocZ vN vCell ((vCell its) - 1) = 0) ∨ (0 ≤ r_6 ∧ r_6 < vN ∧ ocZ vN vCell ((vCell its) - 1) = 1) := hu
      have hP : va_P G vwCl (mW ad y vThrown vN vC vNow vHaze vCold vHot vPipe vDeg vThaw vTrc vTurb vLeft vLoad vWater vTrips vMissed vBRow vBSum vCell vDirt vAim vErr vCor vBrk vTop vLm vRows vCols vDown vRight vBound vStrain vPrice vFirm vSums vRays vFalls vSom vHad) H := hP
      have hD : va_D A (mW ad y vThrown vN vC vNow vHaze vCold vHot vPipe vDeg vThaw vTrc vTurb vLeft vLoad vWater vTrips vMissed vBRow vBSum vCell vDirt vAim vErr vCor vBrk vTop vLm vRows vCols vDown vRight vBound vStrain vPrice vFirm vSums vRays vFalls vSom vHad) := hD
      refine hz_iconst hx hb dX8_isShaded_78 ?_
      refine hz_icmp_eq (tgt := 86) hx hb dX8_isShaded_79 (by decide) (by omega) (fun c8 => ?_) (fun c8 => ?_)
      · refine hz_iconst hx hb dX8_isShaded_86 ?_
        refine lv_istore (lv' := [(5, zi 0), (4, zi ((vCell its) % 8)), (3, zi 0), (0, .ref (ad 0)), (1, zi its), (2, zi tick)]) hx hb dX8_isShaded_87 hl (by decide) rfl (fun ls hl => ?_)
        refine lv_iload_n hx hb dX8_isShaded_89 rfl (lv_at hl 5 rfl) ?_
        refine hz_callSi (As := [zi tick]) (rest := []) ⟨hx, hb, hml, hown, hts⟩ (c_X8_strength l tick (by omega) (by omega)) (va_cwS 1 hts gX8_isShaded_X8_strength rfl rfl rfl (by decide +kernel) ⟨Nat.le_of_ble_eq_true rfl, Nat.le_of_ble_eq_true rfl⟩) rfl hl.1 rfl (Nat.le_of_ble_eq_true rfl) dX8_isShaded_90 ⟨Nat.zero_le _, Nat.zero_le _⟩ ?_
        refine hz_iconst hx hb dX8_isShaded_93 ?_
        refine hz_icmp_gt (tgt := 106) hx hb dX8_isShaded_94 (by decide) (by omega) (fun c9 => ?_) (fun c9 => ?_)
        · refine hz_iconst hx hb dX8_isShaded_106 ?_
          exact W.zret (ty := .boolean) (v := zI 0) hx hb hr (zI_nb (by omega)) (fun t ht hW => ⟨⟨zI 0, (), rfl, ⟨congrArg zI (by unfold shZ; omega), trivial⟩, hz_at hP ht⟩, hS.F ht⟩) hS.2.2 dX8_isShaded_107
        · refine lv_iload hx hb dX8_isShaded_97 (lv_at hl 0 rfl) ?_
          refine hz_if_eq (tgt := 106) hx hb dX8_isShaded_99 (by decide) (by omega) (fun _ => ?_) (fun q => absurd q (by omega))
          refine hz_iconst hx hb dX8_isShaded_106 ?_
          exact W.zret (ty := .boolean) (v := zI 0) hx hb hr (zI_nb (by omega)) (fun t ht hW => ⟨⟨zI 0, (), rfl, ⟨congrArg zI (by unfold shZ; omega), trivial⟩, hz_at hP ht⟩, hS.F ht⟩) hS.2.2 dX8_isShaded_107
      · refine hz_iconst hx hb dX8_isShaded_82 ?_
        refine lv_goto (tgt := 87) hx hb dX8_isShaded_83 (by decide) ?_
        refine lv_istore (lv' := [(5, zi 1), (4, zi ((vCell its) % 8)), (3, zi 0), (0, .ref (ad 0)), (1, zi its), (2, zi tick)]) hx hb dX8_isShaded_87 hl (by decide) rfl (fun ls hl => ?_)
        refine lv_iload_n hx hb dX8_isShaded_89 rfl (lv_at hl 5 rfl) ?_
        refine hz_callSi (As := [zi tick]) (rest := []) ⟨hx, hb, hml, hown, hts⟩ (c_X8_strength l tick (by omega) (by omega)) (va_cwS 1 hts gX8_isShaded_X8_strength rfl rfl rfl (by decide +kernel) ⟨Nat.le_of_ble_eq_true rfl, Nat.le_of_ble_eq_true rfl⟩) rfl hl.1 rfl (Nat.le_of_ble_eq_true rfl) dX8_isShaded_90 ⟨Nat.zero_le _, Nat.zero_le _⟩ ?_
        refine hz_iconst hx hb dX8_isShaded_93 ?_
        refine hz_icmp_gt (tgt := 106) hx hb dX8_isShaded_94 (by decide) (by omega) (fun c10 => ?_) (fun c10 => ?_)
        · refine hz_iconst hx hb dX8_isShaded_106 ?_
          exact W.zret (ty := .boolean) (v := zI 0) hx hb hr (zI_nb (by omega)) (fun t ht hW => ⟨⟨zI 0, (), rfl, ⟨congrArg zI (by unfold shZ; omega), trivial⟩, hz_at hP ht⟩, hS.F ht⟩) hS.2.2 dX8_isShaded_107
        · refine lv_iload hx hb dX8_isShaded_97 (lv_at hl 0 rfl) ?_
          refine hz_if_eq (tgt := 106) hx hb dX8_isShaded_99 (by decide) (by omega) (fun q => absurd q (by omega)) (fun _ => ?_)
          refine hz_iconst hx hb dX8_isShaded_102 ?_
          refine lv_goto (tgt := 107) hx hb dX8_isShaded_103 (by decide) ?_
          exact W.zret (ty := .boolean) (v := zI 1) hx hb hr (zI_nb (by omega)) (fun t ht hW => ⟨⟨zI 1, (), rfl, ⟨congrArg zI (by unfold shZ; omega), trivial⟩, hz_at hP ht⟩, hS.F ht⟩) hS.2.2 dX8_isShaded_107
  · refine hz_iconst hx hb dX8_isShaded_9 ?_
    refine lv_goto (tgt := 14) hx hb dX8_isShaded_10 (by decide) ?_
    refine lv_istore_n (lv' := [(3, zi 1), (0, .ref (ad 0)), (1, zi its), (2, zi tick)]) hx hb dX8_isShaded_14 rfl hl (by decide) rfl (fun ls hl => ?_)
    refine lv_aload_n hx hb dX8_isShaded_15 rfl (lv_at hl 1 rfl) ?_
    refine va_get (D := G) (ci := 9) (v := .ref (ad 1)) (C := RX8) (T := TX8) (N := 40) hx hb hts hinwsX80 hown hK hP 0 rfl rfl 2 (by decide) (hts (.fieldLink RX8 7 "HeliokeepModel" "cell" "[I") (List.mem_of_getElem? (i := 1) rfl)) (fun _ h9 => h9) rfl dX8_isShaded_16 ?_
    refine lv_iload_n hx hb dX8_isShaded_19 rfl (lv_at hl 2 rfl) ?_
    refine hz_iald (f := vCell) hx hb hK hP 1 0 rfl rfl (Nat.le_of_ble_eq_true rfl) (by omega) dX8_isShaded_20 ?_
    have q11 := hCell its
    refine hz_bipush hx hb dX8_isShaded_21 (by decide) ?_
    refine hz_irem hx hb dX8_isShaded_23 (by omega) ?_
    refine lv_istore (lv' := [(4, zi ((vCell its) % 8)), (3, zi 1), (0, .ref (ad 0)), (1, zi its), (2, zi tick)]) hx hb dX8_isShaded_24 hl (by decide) rfl (fun ls hl => ?_)
    refine lv_iload_n hx hb dX8_isShaded_26 rfl (lv_at hl 1 rfl) ?_
    refine hz_if_eq (tgt := 61) hx hb dX8_isShaded_27 (by decide) (by omega) (fun q => absurd q (by omega)) (fun _ => ?_)
    refine lv_iload hx hb dX8_isShaded_30 (lv_at hl 0 rfl) ?_
    refine hz_bipush hx hb dX8_isShaded_32 (by decide) ?_
    refine hz_icmp_ge (tgt := 57) hx hb dX8_isShaded_34 (by decide) (by omega) (fun c12 => ?_) (fun c12 => ?_)
    · refine hz_iconst hx hb dX8_isShaded_57 ?_
      refine lv_goto (tgt := 87) hx hb dX8_isShaded_58 (by decide) ?_
      refine lv_istore (lv' := [(5, zi 0), (4, zi ((vCell its) % 8)), (3, zi 1), (0, .ref (ad 0)), (1, zi its), (2, zi tick)]) hx hb dX8_isShaded_87 hl (by decide) rfl (fun ls hl => ?_)
      refine lv_iload_n hx hb dX8_isShaded_89 rfl (lv_at hl 5 rfl) ?_
      refine hz_callSi (As := [zi tick]) (rest := []) ⟨hx, hb, hml, hown, hts⟩ (c_X8_strength l tick (by omega) (by omega)) (va_cwS 1 hts gX8_isShaded_X8_strength rfl rfl rfl (by decide +kernel) ⟨Nat.le_of_ble_eq_true rfl, Nat.le_of_ble_eq_true rfl⟩) rfl hl.1 rfl (Nat.le_of_ble_eq_true rfl) dX8_isShaded_90 ⟨Nat.zero_le _, Nat.zero_le _⟩ ?_
      refine hz_iconst hx hb dX8_isShaded_93 ?_
      refine hz_icmp_gt (tgt := 106) hx hb dX8_isShaded_94 (by decide) (by omega) (fun c13 => ?_) (fun c13 => ?_)
      · refine hz_iconst hx hb dX8_isShaded_106 ?_
        exact W.zret (ty := .boolean) (v := zI 0) hx hb hr (zI_nb (by omega)) (fun t ht hW => ⟨⟨zI 0, (), rfl, ⟨congrArg zI (by unfold shZ; omega), trivial⟩, hz_at hP ht⟩, hS.F ht⟩) hS.2.2 dX8_isShaded_107
      · refine lv_iload hx hb dX8_isShaded_97 (lv_at hl 0 rfl) ?_
        refine hz_if_eq (tgt := 106) hx hb dX8_isShaded_99 (by decide) (by omega) (fun _ => ?_) (fun q => absurd q (by omega))
        refine hz_iconst hx hb dX8_isShaded_106 ?_
        exact W.zret (ty := .boolean) (v := zI 0) hx hb hr (zI_nb (by omega)) (fun t ht hW => ⟨⟨zI 0, (), rfl, ⟨congrArg zI (by unfold shZ; omega), trivial⟩, hz_at hP ht⟩, hS.F ht⟩) hS.2.2 dX8_isShaded_107
    · refine lv_aload_n hx hb dX8_isShaded_37 rfl (lv_at hl 2 rfl) ?_
      refine lv_aload_n hx hb dX8_isShaded_38 rfl (lv_at hl 2 rfl) ?_
      refine va_get (D := G) (ci := 9) (v := .ref (ad 1)) (C := RX8) (T := TX8) (N := 40) hx hb hts hinwsX80 hown hK hP 0 rfl rfl 2 (by decide) (hts (.fieldLink RX8 7 "HeliokeepModel" "cell" "[I") (List.mem_of_getElem? (i := 1) rfl)) (fun _ h9 => h9) rfl dX8_isShaded_39 ?_
      refine lv_iload_n hx hb dX8_isShaded_42 rfl (lv_at hl 3 rfl) ?_
      refine hz_iald (f := vCell) hx hb hK hP 1 0 rfl rfl (Nat.le_of_ble_eq_true rfl) (by omega) dX8_isShaded_43 ?_
      have q14 := hCell its
      refine hz_iconst hx hb dX8_isShaded_44 ?_
      refine hz_iadd hx hb dX8_isShaded_45 ?_
      refine hz_callWi (As := [zi ((vCell its) + 1)]) (rest := []) ⟨hx, hb, hml, hown, hts⟩ (c_X8_mirrorAt l G y ad _ vThrown vN vC vNow vHaze vCold vHot vPipe vDeg vThaw vTrc vTurb vLeft vLoad vWater vTrips vMissed vBRow vBSum vCell vDirt vAim vErr vCor vBrk vTop vLm vRows vCols vDown vRight vBound vStrain vPrice vFirm vSums vRays vFalls vSom vHad ((vCell its) + 1) hN hCell (by omega)) (cwV 1 hts gX8_isShaded_X8_mirrorAt rfl rfl rfl (by decide +kernel) ⟨Nat.le_of_ble_eq_true rfl, Nat.le_of_ble_eq_true rfl⟩) hP hK hD hS hA 0 9 rfl rfl rfl rfl hl.1 rfl (Nat.le_of_ble_eq_true rfl) dX8_isShaded_46 ⟨Nat.zero_le _, Nat.zero_le _⟩ (fun _ => rfl) (fun r_15 H locs hu hP hD hS => ?_)
      have p16 : (r_15 = -1 ∧ ocZ vN vCell ((vCell its) + 1) = 0) ∨ (0 ≤ r_15 ∧ r_15 < vN ∧ ocZ vN vCell ((vCell its) + 1) = 1) := hu
      have hP : va_P G vwCl (mW ad y vThrown vN vC vNow vHaze vCold vHot vPipe vDeg vThaw vTrc vTurb vLeft vLoad vWater vTrips vMissed vBRow vBSum vCell vDirt vAim vErr vCor vBrk vTop vLm vRows vCols vDown vRight vBound vStrain vPrice vFirm vSums vRays vFalls vSom vHad) H := hP
      have hD : va_D A (mW ad y vThrown vN vC vNow vHaze vCold vHot vPipe vDeg vThaw vTrc vTurb vLeft vLoad vWater vTrips vMissed vBRow vBSum vCell vDirt vAim vErr vCor vBrk vTop vLm vRows vCols vDown vRight vBound vStrain vPrice vFirm vSums vRays vFalls vSom vHad) := hD
      refine hz_iconst hx hb dX8_isShaded_49 ?_
      refine hz_icmp_eq (tgt := 57) hx hb dX8_isShaded_50 (by decide) (by omega) (fun c17 => ?_) (fun c17 => ?_)
      · refine hz_iconst hx hb dX8_isShaded_57 ?_
        refine lv_goto (tgt := 87) hx hb dX8_isShaded_58 (by decide) ?_
        refine lv_istore (lv' := [(5, zi 0), (4, zi ((vCell its) % 8)), (3, zi 1), (0, .ref (ad 0)), (1, zi its), (2, zi tick)]) hx hb dX8_isShaded_87 hl (by decide) rfl (fun ls hl => ?_)
        refine lv_iload_n hx hb dX8_isShaded_89 rfl (lv_at hl 5 rfl) ?_
        refine hz_callSi (As := [zi tick]) (rest := []) ⟨hx, hb, hml, hown, hts⟩ (c_X8_strength l tick (by omega) (by omega)) (va_cwS 1 hts gX8_isShaded_X8_strength rfl rfl rfl (by decide +kernel) ⟨Nat.le_of_ble_eq_true rfl, Nat.le_of_ble_eq_true rfl⟩) rfl hl.1 rfl (Nat.le_of_ble_eq_true rfl) dX8_isShaded_90 ⟨Nat.zero_le _, Nat.zero_le _⟩ ?_
        refine hz_iconst hx hb dX8_isShaded_93 ?_
        refine hz_icmp_gt (tgt := 106) hx hb dX8_isShaded_94 (by decide) (by omega) (fun c18 => ?_) (fun c18 => ?_)
        · refine hz_iconst hx hb dX8_isShaded_106 ?_
          exact W.zret (ty := .boolean) (v := zI 0) hx hb hr (zI_nb (by omega)) (fun t ht hW => ⟨⟨zI 0, (), rfl, ⟨congrArg zI (by unfold shZ; omega), trivial⟩, hz_at hP ht⟩, hS.F ht⟩) hS.2.2 dX8_isShaded_107
        · refine lv_iload hx hb dX8_isShaded_97 (lv_at hl 0 rfl) ?_
          refine hz_if_eq (tgt := 106) hx hb dX8_isShaded_99 (by decide) (by omega) (fun _ => ?_) (fun q => absurd q (by omega))
          refine hz_iconst hx hb dX8_isShaded_106 ?_
          exact W.zret (ty := .boolean) (v := zI 0) hx hb hr (zI_nb (by omega)) (fun t ht hW => ⟨⟨zI 0, (), rfl, ⟨congrArg zI (by unfold shZ; omega), trivial⟩, hz_at hP ht⟩, hS.F ht⟩) hS.2.2 dX8_isShaded_107
      · refine hz_iconst hx hb dX8_isShaded_53 ?_
        refine lv_goto (tgt := 87) hx hb dX8_isShaded_54 (by decide) ?_
        refine lv_istore (lv' := [(5, zi 1), (4, zi ((vCell its) % 8)), (3, zi 1), (0, .ref (ad 0)), (1, zi its), (2, zi tick)]) hx hb dX8_isShaded_87 hl (by decide) rfl (fun ls hl => ?_)
        refine lv_iload_n hx hb dX8_isShaded_89 rfl (lv_at hl 5 rfl) ?_
        refine hz_callSi (As := [zi tick]) (rest := []) ⟨hx, hb, hml, hown, hts⟩ (c_X8_strength l tick (by omega) (by omega)) (va_cwS 1 hts gX8_isShaded_X8_strength rfl rfl rfl (by decide +kernel) ⟨Nat.le_of_ble_eq_true rfl, Nat.le_of_ble_eq_true rfl⟩) rfl hl.1 rfl (Nat.le_of_ble_eq_true rfl) dX8_isShaded_90 ⟨Nat.zero_le _, Nat.zero_le _⟩ ?_
        refine hz_iconst hx hb dX8_isShaded_93 ?_
        refine hz_icmp_gt (tgt := 106) hx hb dX8_isShaded_94 (by decide) (by omega) (fun c19 => ?_) (fun c19 => ?_)
        · refine hz_iconst hx hb dX8_isShaded_106 ?_
          exact W.zret (ty := .boolean) (v := zI 0) hx hb hr (zI_nb (by omega)) (fun t ht hW => ⟨⟨zI 0, (), rfl, ⟨congrArg zI (by unfold shZ; omega), trivial⟩, hz_at hP ht⟩, hS.F ht⟩) hS.2.2 dX8_isShaded_107
        · refine lv_iload hx hb dX8_isShaded_97 (lv_at hl 0 rfl) ?_
          refine hz_if_eq (tgt := 106) hx hb dX8_isShaded_99 (by decide) (by omega) (fun q => absurd q (by omega)) (fun _ => ?_)
          refine hz_iconst hx hb dX8_isShaded_102 ?_
          refine lv_goto (tgt := 107) hx hb dX8_isShaded_103 (by decide) ?_
          exact W.zret (ty := .boolean) (v := zI 1) hx hb hr (zI_nb (by omega)) (fun t ht hW => ⟨⟨zI 1, (), rfl, ⟨congrArg zI (by unfold shZ; omega), trivial⟩, hz_at hP ht⟩, hS.F ht⟩) hS.2.2 dX8_isShaded_107
abbrev Q_X8_powerOf (G : va_G) (y : Nat → ClassId) (ad : Nat → Nat) (vThrown vN vC vNow vHaze vCold vHot vPipe vDeg vThaw vTrc vTurb vLeft vLoad vWater vTrips vMissed vBRow vBSum : Int) (vCell vDirt vAim vErr vCor vBrk vTop vLm vRows vCols vDown vRight vBound vStrain vPrice vFirm vSums vRays vFalls vSom vHad : Int → Int) (its : Int) (ticks : Int) (A : Nat → Prop) : Array Value → State → Outcome → State → Prop := va_Qi (fun (r : Int32) (u : Unit) => r = zI (pwZ vN vC vNow vHaze vCell vDirt vTop vLm vRows vCols vDown vRight its ticks) ∧ True) (fun (u : Unit) t => va_P G vwCl (mW ad y vThrown vN vC vNow vHaze vCold vHot vPipe vDeg vThaw vTrc vTurb vLeft vLoad vWater vTrips vMissed vBRow vBSum vCell vDirt vAim vErr vCor vBrk vTop vLm vRows vCols vDown vRight vBound vStrain vPrice vFirm vSums vRays vFalls vSom vHad) t.heap) A
set_option maxHeartbeats 4000000 in
set_option maxRecDepth 100000 in
theorem c_X8_powerOf (l : Launch) (G : va_G) (y : Nat → ClassId) (ad : Nat → Nat) (sz : Nat) (vThrown vN vC vNow vHaze vCold vHot vPipe vDeg vThaw vTrc vTurb vLeft vLoad vWater vTrips vMissed vBRow vBSum : Int) (vCell vDirt vAim vErr vCor vBrk vTop vLm vRows vCols vDown vRight vBound vStrain vPrice vFirm vSums vRays vFalls vSom vHad : Int → Int) (its : Int) (ticks : Int) (hN : 0 ≤ vN ∧ vN ≤ 12) (hC : 0 ≤ vC ∧ vC ≤ 4) (hNow : 0 ≤ vNow ∧ vNow ≤ 9999) (hHaze : 0 ≤ vHaze ∧ vHaze ≤ 9) (hCell : ∀ k : Int, 0 ≤ vCell k ∧ vCell k ≤ 63) (hDirt : ∀ k : Int, 0 ≤ vDirt k ∧ vDirt k ≤ 9) (hTop : ∀ k : Int, -(16 + vNow) ≤ vTop k ∧ vTop k ≤ 16 + vNow) (hLm : ∀ k : Int, -(16 + vNow) ≤ vLm k ∧ vLm k ≤ 16 + vNow) (hRows : ∀ k : Int, 0 ≤ vRows k ∧ vRows k ≤ 8) (hCols : ∀ k : Int, 0 ≤ vCols k ∧ vCols k ≤ 8) (hDown : ∀ k : Int, -1 ≤ vDown k ∧ vDown k ≤ 1) (hRight : ∀ k : Int, -1 ≤ vRight k ∧ vRight k ≤ 1) (hi : 0 ≤ its ∧ its ≤ 11) (ht : 0 ≤ ticks ∧ ticks ≤ 24) : Met l yX8_powerOf wsX8_powerOf ({ frames := 2, cells := 0, slots := 0, locals := 50 }) (va_Pc [.ref (ad 0), zi its, zi ticks] (HPre G (tyL y) (mW ad y vThrown vN vC vNow vHaze vCold vHot vPipe vDeg vThaw vTrc vTurb vLeft vLoad vWater vTrips vMissed vBRow vBSum vCell vDirt vAim vErr vCor vBrk vTop vLm vRows vCols vDown vRight vBound vStrain vPrice vFirm vSums vRays vFalls vSom vHad) sz)) (Q_X8_powerOf G y ad vThrown vN vC vNow vHaze vCold vHot vPipe vDeg vThaw vTrc vTurb vLeft vLoad vWater vTrips vMissed vBRow vBSum vCell vDirt vAim vErr vCor vBrk vTop vLm vRows vCols vDown vRight vBound vStrain vPrice vFirm vSums vRays vFalls vSom vHad its ticks (va_A (mW ad y vThrown vN vC vNow vHaze vCold vHot vPipe vDeg vThaw vTrc vTurb vLeft vLoad vWater vTrips vMissed vBRow vBSum vCell vDirt vAim vErr vCor vBrk vTop vLm vRows vCols vDown vRight vBound vStrain vPrice vFirm vSums vRays vFalls vSom vHad) sz)) 0 0 (va_A (mW ad y vThrown vN vC vNow vHaze vCold vHot vPipe vDeg vThaw vTrc vTurb vLeft vLoad vWater vTrips vMissed vBRow vBSum vCell vDirt vAim vErr vCor vBrk vTop vLm vRows vCols vDown vRight vBound vStrain vPrice vFirm vSums vRays vFalls vSom vHad) sz) := by
  refine hz_ofW (Qf := Q_X8_powerOf G y ad vThrown vN vC vNow vHaze vCold vHot vPipe vDeg vThaw vTrc vTurb vLeft vLoad vWater vTrips vMissed vBRow vBSum vCell vDirt vAim vErr vCor vBrk vTop vLm vRows vCols vDown vRight vBound vStrain vPrice vFirm vSums vRays vFalls vSom vHad its ticks) (cc := cX8_powerOf) (maxL := 5) (ret := (some .int)) (by decide) rfl (Nat.le_of_ble_eq_true rfl) ?_
  intro p e s m below meth c A ls hx hb hr hts hown hin hlocks hml hP hK hA hD hS hl
  have hown : s.vm.findClass RX8 = some m.cls := hown
  have hl : lv_has ls 5 [(0, .ref (ad 0)), (1, zi its), (2, zi ticks)] := hl
  have hinwsX80 : ∀ w ∈ wsX80, w ∈ wsX8_powerOf := fun _ h => List.mem_cons_of_mem _ (List.mem_append_right _ (h))
  have qc := hCell its
  have qv := isZ_01 (∃ j : Int, 0 ≤ j ∧ j < vC ∧ cvP vTop vLm vRows vCols vDown vRight (vCell its) ticks j)
  have qv : cvZ vC vTop vLm vRows vCols vDown vRight (vCell its) ticks = 0 ∨ cvZ vC vTop vLm vRows vCols vDown vRight (vCell its) ticks = 1 := qv
  have qs := strZ_rng (vNow + ticks)
  have qdi := dstZ_rng qc
  have qh := hdZ_rng (v := vDirt its + ((vNow + ticks) / 24 - vNow / 24)) (a := 0) (b := 9) (by omega)
  have qp := pw_rng qs (b := 10 - vHaze) (by omega) (c := 10 - hdZ (vDirt its + ((vNow + ticks) / 24 - vNow / 24)) 0 9) (by omega) (d := 20 - dstZ (vCell its)) (by omega)
  have qz : shZ vN vCell (vCell its) (vNow + ticks) = 0 ∨ shZ vN vCell (vCell its) (vNow + ticks) = 1 := by unfold shZ; omega
  refine lv_aload_n hx hb dX8_powerOf_0 rfl (lv_at hl 0 rfl) ?_
  refine va_get (D := G) (ci := 9) (v := zi vNow) (C := RX8) (T := TX8) (N := 40) hx hb hts hinwsX80 hown hK hP 0 rfl rfl 20 (by decide) (hts (.fieldLink RX8 108 "HeliokeepModel" "now" "I") (List.mem_of_getElem? (i := 1) rfl)) (fun _ h9 => h9) rfl dX8_powerOf_1 ?_
  refine lv_iload_n hx hb dX8_powerOf_4 rfl (lv_at hl 2 rfl) ?_
  refine hz_iadd hx hb dX8_powerOf_5 ?_
  refine lv_istore_n (lv' := [(3, zi (vNow + ticks)), (0, .ref (ad 0)), (1, zi its), (2, zi ticks)]) hx hb dX8_powerOf_6 rfl hl (by decide) rfl (fun ls hl => ?_)
  refine lv_aload_n hx hb dX8_powerOf_7 rfl (lv_at hl 1 rfl) ?_
  refine lv_iload_n hx hb dX8_powerOf_8 rfl (lv_at hl 2 rfl) ?_
  refine lv_iload_n hx hb dX8_powerOf_9 rfl (lv_at hl 3 rfl) ?_
  refine hz_callWi (As := [zi its, zi ticks]) (rest := []) ⟨hx, hb, hml, hown, hts⟩ (c_X8_isCovered l G y ad _ vThrown vN vC vNow vHaze vCold vHot vPipe vDeg vThaw vTrc vTurb vLeft vLoad vWater vTrips vMissed vBRow vBSum vCell vDirt vAim vErr vCor vBrk vTop vLm vRows vCols vDown vRight vBound vStrain vPrice vFirm vSums vRays vFalls vSom vHad its ticks hC hNow hCell hTop hLm hRows hCols hDown hRight (by omega) (by omega)) (cwV 2 hts gX8_powerOf_X8_isCovered rfl rfl rfl (by decide +kernel) ⟨Nat.le_of_ble_eq_true rfl, Nat.le_of_ble_eq_true rfl⟩) hP hK hD hS hA 0 9 rfl rfl rfl rfl hl.1 rfl (Nat.le_of_ble_eq_true rfl) dX8_powerOf_10 ⟨Nat.zero_le _, Nat.zero_le _⟩ (fun _ => rfl) (fun u H locs hu hP hD hS => ?_)
  have hP : va_P G vwCl (mW ad y vThrown vN vC vNow vHaze vCold vHot vPipe vDeg vThaw vTrc vTurb vLeft vLoad vWater vTrips vMissed vBRow vBSum vCell vDirt vAim vErr vCor vBrk vTop vLm vRows vCols vDown vRight vBound vStrain vPrice vFirm vSums vRays vFalls vSom vHad) H := hP
  have hD : va_D A (mW ad y vThrown vN vC vNow vHaze vCold vHot vPipe vDeg vThaw vTrc vTurb vLeft vLoad vWater vTrips vMissed vBRow vBSum vCell vDirt vAim vErr vCor vBrk vTop vLm vRows vCols vDown vRight vBound vStrain vPrice vFirm vSums vRays vFalls vSom vHad) := hD
  refine hz_if_ne (tgt := 25) hx hb dX8_powerOf_13 (by decide) (by omega) (fun c1 => ?_) (fun c1 => ?_)
  · refine hz_iconst hx hb dX8_powerOf_25 ?_
    exact W.iret (v := zI 0) hx hb hr (fun t ht hW => ⟨⟨zI 0, (), rfl, ⟨congrArg zI (by unfold pwZ; first | exact (if_pos (by omega)).symm | exact (if_neg (by omega)).symm), trivial⟩, hz_at hP ht⟩, hS.F ht⟩) hS.2.2 dX8_powerOf_26
  · refine lv_aload_n hx hb dX8_powerOf_16 rfl (lv_at hl 1 rfl) ?_
    refine lv_iload_n hx hb dX8_powerOf_17 rfl (lv_at hl 2 rfl) ?_
    refine lv_iload_n hx hb dX8_powerOf_18 rfl (lv_at hl 0 rfl) ?_
    refine hz_callWi (As := [zi its, zi (vNow + ticks)]) (rest := []) ⟨hx, hb, hml, hown, hts⟩ (c_X8_isShaded l G y ad _ vThrown vN vC vNow vHaze vCold vHot vPipe vDeg vThaw vTrc vTurb vLeft vLoad vWater vTrips vMissed vBRow vBSum vCell vDirt vAim vErr vCor vBrk vTop vLm vRows vCols vDown vRight vBound vStrain vPrice vFirm vSums vRays vFalls vSom vHad its (vNow + ticks) hN hCell (by omega) (by omega)) (cwV 2 hts gX8_powerOf_X8_isShaded rfl rfl rfl (by decide +kernel) ⟨Nat.le_of_ble_eq_true rfl, Nat.le_of_ble_eq_true rfl⟩) hP hK hD hS hA 0 9 rfl rfl rfl rfl hl.1 rfl (Nat.le_of_ble_eq_true rfl) dX8_powerOf_19 ⟨Nat.zero_le _, Nat.zero_le _⟩ (fun _ => rfl) (fun u H locs hu hP hD hS => ?_)
    have hP : va_P G vwCl (mW ad y vThrown vN vC vNow vHaze vCold vHot vPipe vDeg vThaw vTrc vTurb vLeft vLoad vWater vTrips vMissed vBRow vBSum vCell vDirt vAim vErr vCor vBrk vTop vLm vRows vCols vDown vRight vBound vStrain vPrice vFirm vSums vRays vFalls vSom vHad) H := hP
    have hD : va_D A (mW ad y vThrown vN vC vNow vHaze vCold vHot vPipe vDeg vThaw vTrc vTurb vLeft vLoad vWater vTrips vMissed vBRow vBSum vCell vDirt vAim vErr vCor vBrk vTop vLm vRows vCols vDown vRight vBound vStrain vPrice vFirm vSums vRays vFalls vSom vHad) := hD
    refine hz_if_eq (tgt := 27) hx hb dX8_powerOf_22 (by decide) (by omega) (fun c2 => ?_) (fun c2 => ?_)
    · refine lv_iload_n hx hb dX8_powerOf_27 rfl (lv_at hl 0 rfl) ?_
      refine hz_bipush hx hb dX8_powerOf_28 (by decide) ?_
      refine hz_idiv hx hb dX8_powerOf_30 (by omega) ?_
      refine lv_aload_n hx hb dX8_powerOf_31 rfl (lv_at hl 1 rfl) ?_
      refine va_get (D := G) (ci := 9) (v := zi vNow) (C := RX8) (T := TX8) (N := 40) hx hb hts hinwsX80 hown hK hP 0 rfl rfl 20 (by decide) (hts (.fieldLink RX8 108 "HeliokeepModel" "now" "I") (List.mem_of_getElem? (i := 1) rfl)) (fun _ h9 => h9) rfl dX8_powerOf_32 ?_
      refine hz_bipush hx hb dX8_powerOf_35 (by decide) ?_
      refine hz_idiv hx hb dX8_powerOf_37 (by omega) ?_
      refine hz_isub hx hb dX8_powerOf_38 ?_
      refine lv_istore (lv' := [(4, zi (((vNow + ticks) / 24) - (vNow / 24))), (3, zi (vNow + ticks)), (0, .ref (ad 0)), (1, zi its), (2, zi ticks)]) hx hb dX8_powerOf_39 hl (by decide) rfl (fun ls hl => ?_)
      refine lv_iload_n hx hb dX8_powerOf_41 rfl (lv_at hl 1 rfl) ?_
      refine hz_callSi (As := [zi (vNow + ticks)]) (rest := []) ⟨hx, hb, hml, hown, hts⟩ (c_X8_strength l (vNow + ticks) (by omega) (by omega)) (va_cwS 1 hts gX8_powerOf_X8_strength rfl rfl rfl (by decide +kernel) ⟨Nat.le_of_ble_eq_true rfl, Nat.le_of_ble_eq_true rfl⟩) rfl hl.1 rfl (Nat.le_of_ble_eq_true rfl) dX8_powerOf_42 ⟨Nat.zero_le _, Nat.zero_le _⟩ ?_
      refine hz_bipush hx hb dX8_powerOf_45 (by decide) ?_
      refine lv_aload_n hx hb dX8_powerOf_47 rfl (lv_at hl 2 rfl) ?_
      refine va_get (D := G) (ci := 9) (v := zi vHaze) (C := RX8) (T := TX8) (N := 40) hx hb hts hinwsX80 hown hK hP 0 rfl rfl 21 (by decide) (hts (.fieldLink RX8 130 "HeliokeepModel" "haze" "I") (List.mem_of_getElem? (i := 2) rfl)) (fun _ h9 => h9) rfl dX8_powerOf_48 ?_
      refine hz_isub hx hb dX8_powerOf_51 ?_
      refine hz_imul hx hb dX8_powerOf_52 ?_
      refine hz_bipush hx hb dX8_powerOf_53 (by decide) ?_
      refine lv_aload_n hx hb dX8_powerOf_55 rfl (lv_at hl 2 rfl) ?_
      refine va_get (D := G) (ci := 9) (v := .ref (ad 2)) (C := RX8) (T := TX8) (N := 40) hx hb hts hinwsX80 hown hK hP 0 rfl rfl 3 (by decide) (hts (.fieldLink RX8 13 "HeliokeepModel" "dirt" "[I") (List.mem_of_getElem? (i := 3) rfl)) (fun _ h9 => h9) rfl dX8_powerOf_56 ?_
      refine lv_iload_n hx hb dX8_powerOf_59 rfl (lv_at hl 3 rfl) ?_
      refine hz_iald (f := vDirt) hx hb hK hP 2 0 rfl rfl (Nat.le_of_ble_eq_true rfl) (by omega) dX8_powerOf_60 ?_
      have q3 := hDirt its
      refine lv_iload hx hb dX8_powerOf_61 (lv_at hl 0 rfl) ?_
      refine hz_iadd hx hb dX8_powerOf_63 ?_
      refine hz_iconst hx hb dX8_powerOf_64 ?_
      refine hz_bipush hx hb dX8_powerOf_65 (by decide) ?_
      refine hz_callSi (As := [zi ((vDirt its) + (((vNow + ticks) / 24) - (vNow / 24))), zi 0, zi 9]) (rest := [zi 10, zi ((strZ (vNow + ticks)) * (10 - vHaze))]) ⟨hx, hb, hml, hown, hts⟩ (c_X8_held l ((vDirt its) + (((vNow + ticks) / 24) - (vNow / 24))) 0 9 (by omega) (by omega) (by omega)) (va_cwS 3 hts gX8_powerOf_X8_held rfl rfl rfl (by decide +kernel) ⟨Nat.le_of_ble_eq_true rfl, Nat.le_of_ble_eq_true rfl⟩) rfl hl.1 rfl (Nat.le_of_ble_eq_true rfl) dX8_powerOf_67 ⟨Nat.zero_le _, Nat.zero_le _⟩ ?_
      refine hz_isub hx hb dX8_powerOf_70 ?_
      refine hz_imul hx hb dX8_powerOf_71 ?_
      refine hz_bipush hx hb dX8_powerOf_72 (by decide) ?_
      refine lv_aload_n hx hb dX8_powerOf_74 rfl (lv_at hl 2 rfl) ?_
      refine lv_iload_n hx hb dX8_powerOf_75 rfl (lv_at hl 3 rfl) ?_
      refine hz_callWi (As := [zi its]) (rest := [zi 20, zi (((strZ (vNow + ticks)) * (10 - vHaze)) * (10 - (hdZ ((vDirt its) + (((vNow + ticks) / 24) - (vNow / 24))) 0 9)))]) ⟨hx, hb, hml, hown, hts⟩ (c_X8_distance l G y ad _ vThrown vN vC vNow vHaze vCold vHot vPipe vDeg vThaw vTrc vTurb vLeft vLoad vWater vTrips vMissed vBRow vBSum vCell vDirt vAim vErr vCor vBrk vTop vLm vRows vCols vDown vRight vBound vStrain vPrice vFirm vSums vRays vFalls vSom vHad its hCell (by omega)) (cwV 1 hts gX8_powerOf_X8_distance rfl rfl rfl (by decide +kernel) ⟨Nat.le_of_ble_eq_true rfl, Nat.le_of_ble_eq_true rfl⟩) hP hK hD hS hA 0 9 rfl rfl rfl rfl hl.1 rfl (Nat.le_of_ble_eq_true rfl) dX8_powerOf_76 ⟨Nat.zero_le _, Nat.zero_le _⟩ (fun _ => rfl) (fun u H locs hu hP hD hS => ?_)
      have hP : va_P G vwCl (mW ad y vThrown vN vC vNow vHaze vCold vHot vPipe vDeg vThaw vTrc vTurb vLeft vLoad vWater vTrips vMissed vBRow vBSum vCell vDirt vAim vErr vCor vBrk vTop vLm vRows vCols vDown vRight vBound vStrain vPrice vFirm vSums vRays vFalls vSom vHad) H := hP
      have hD : va_D A (mW ad y vThrown vN vC vNow vHaze vCold vHot vPipe vDeg vThaw vTrc vTurb vLeft vLoad vWater vTrips vMissed vBRow vBSum vCell vDirt vAim vErr vCor vBrk vTop vLm vRows vCols vDown vRight vBound vStrain vPrice vFirm vSums vRays vFalls vSom vHad) := hD
      refine hz_isub hx hb dX8_powerOf_79 ?_
      refine hz_imul hx hb dX8_powerOf_80 ?_
      refine hz_bipush hx hb dX8_powerOf_81 (by decide) ?_
      refine hz_idiv hx hb dX8_powerOf_83 (by omega) ?_
      exact W.iret (v := zI (((((strZ (vNow + ticks)) * (10 - vHaze)) * (10 - (hdZ ((vDirt its) + (((vNow + ticks) / 24) - (vNow / 24))) 0 9))) * (20 - (dstZ (vCell its)))) / 20)) hx hb hr (fun t ht hW => ⟨⟨zI (((((strZ (vNow + ticks)) * (10 - vHaze)) * (10 - (hdZ ((vDirt its) + (((vNow + ticks) / 24) - (vNow / 24))) 0 9))) * (20 - (dstZ (vCell its)))) / 20), (), rfl, ⟨congrArg zI (by unfold pwZ; first | exact (if_pos (by omega)).symm | exact (if_neg (by omega)).symm), trivial⟩, hz_at hP ht⟩, hS.F ht⟩) hS.2.2 dX8_powerOf_84
    · refine hz_iconst hx hb dX8_powerOf_25 ?_
      exact W.iret (v := zI 0) hx hb hr (fun t ht hW => ⟨⟨zI 0, (), rfl, ⟨congrArg zI (by unfold pwZ; first | exact (if_pos (by omega)).symm | exact (if_neg (by omega)).symm), trivial⟩, hz_at hP ht⟩, hS.F ht⟩) hS.2.2 dX8_powerOf_26
abbrev Q_X8_laysRays (G : va_G) (y : Nat → ClassId) (ad : Nat → Nat) (vThrown vN vC vNow vHaze vCold vHot vPipe vDeg vThaw vTrc vTurb vLeft vLoad vWater vTrips vMissed vBRow vBSum : Int) (vCell vDirt vAim vErr vCor vBrk vTop vLm vRows vCols vDown vRight vBound vStrain vPrice vFirm vSums vRays vFalls vSom vHad : Int → Int)  (A : Nat → Prop) : Array Value → State → Outcome → State → Prop := va_Qv (fun (u : (Int → Int)) => (∀ k : Int, 0 ≤ k → k < vN → 0 ≤ u k ∧ u k ≤ 95) ∧ (∀ j : Int, 0 ≤ j → j < vN → u j = (pwZ vN vC vNow vHaze vCell vDirt vTop vLm vRows vCols vDown vRight j 0 / 10))) (fun (u : (Int → Int)) t => va_P G vwCl (mW ad y vThrown vN vC vNow vHaze vCold vHot vPipe vDeg vThaw vTrc vTurb vLeft vLoad vWater vTrips vMissed vBRow vBSum vCell vDirt vAim vErr vCor vBrk vTop vLm vRows vCols vDown vRight vBound vStrain vPrice vFirm vSums u vFalls vSom vHad) t.heap) A
set_option maxHeartbeats 4000000 in
set_option maxRecDepth 100000 in
theorem c_X8_laysRays (l : Launch) (G : va_G) (y : Nat → ClassId) (ad : Nat → Nat) (sz : Nat) (vThrown vN vC vNow vHaze vCold vHot vPipe vDeg vThaw vTrc vTurb vLeft vLoad vWater vTrips vMissed vBRow vBSum : Int) (vCell vDirt vAim vErr vCor vBrk vTop vLm vRows vCols vDown vRight vBound vStrain vPrice vFirm vSums vRays vFalls vSom vHad : Int → Int)  (hN : 0 ≤ vN ∧ vN ≤ 12) (hC : 0 ≤ vC ∧ vC ≤ 4) (hNow : 0 ≤ vNow ∧ vNow ≤ 9999) (hHaze : 0 ≤ vHaze ∧ vHaze ≤ 9) (hCell : ∀ k : Int, 0 ≤ vCell k ∧ vCell k ≤ 63) (hDirt : ∀ k : Int, 0 ≤ vDirt k ∧ vDirt k ≤ 9) (hTop : ∀ k : Int, -(16 + vNow) ≤ vTop k ∧ vTop k ≤ 16 + vNow) (hLm : ∀ k : Int, -(16 + vNow) ≤ vLm k ∧ vLm k ≤ 16 + vNow) (hRows : ∀ k : Int, 0 ≤ vRows k ∧ vRows k ≤ 8) (hCols : ∀ k : Int, 0 ≤ vCols k ∧ vCols k ≤ 8) (hDown : ∀ k : Int, -1 ≤ vDown k ∧ vDown k ≤ 1) (hRight : ∀ k : Int, -1 ≤ vRight k ∧ vRight k ≤ 1) : Met l yX8_laysRays wsX8_laysRays ({ frames := 3, cells := 0, slots := 0, locals := 74 }) (va_Pc [.ref (ad 0)] (HPre G (tyL y) (mW ad y vThrown vN vC vNow vHaze vCold vHot vPipe vDeg vThaw vTrc vTurb vLeft vLoad vWater vTrips vMissed vBRow vBSum vCell vDirt vAim vErr vCor vBrk vTop vLm vRows vCols vDown vRight vBound vStrain vPrice vFirm vSums vRays vFalls vSom vHad) sz)) (Q_X8_laysRays G y ad vThrown vN vC vNow vHaze vCold vHot vPipe vDeg vThaw vTrc vTurb vLeft vLoad vWater vTrips vMissed vBRow vBSum vCell vDirt vAim vErr vCor vBrk vTop vLm vRows vCols vDown vRight vBound vStrain vPrice vFirm vSums vRays vFalls vSom vHad (va_A (mW ad y vThrown vN vC vNow vHaze vCold vHot vPipe vDeg vThaw vTrc vTurb vLeft vLoad vWater vTrips vMissed vBRow vBSum vCell vDirt vAim vErr vCor vBrk vTop vLm vRows vCols vDown vRight vBound vStrain vPrice vFirm vSums vRays vFalls vSom vHad) sz)) 0 0 (va_A (mW ad y vThrown vN vC vNow vHaze vCold vHot vPipe vDeg vThaw vTrc vTurb vLeft vLoad vWater vTrips vMissed vBRow vBSum vCell vDirt vAim vErr vCor vBrk vTop vLm vRows vCols vDown vRight vBound vStrain vPrice vFirm vSums vRays vFalls vSom vHad) sz) := by
  refine hz_ofW (Qf := Q_X8_laysRays G y ad vThrown vN vC vNow vHaze vCold vHot vPipe vDeg vThaw vTrc vTurb vLeft vLoad vWater vTrips vMissed vBRow vBSum vCell vDirt vAim vErr vCor vBrk vTop vLm vRows vCols vDown vRight vBound vStrain vPrice vFirm vSums vRays vFalls vSom vHad) (cc := cX8_laysRays) (maxL := 2) (ret := none) (by decide) rfl (Nat.le_of_ble_eq_true rfl) ?_
  intro p e s m below meth c A ls hx hb hr hts hown hin hlocks hml hP hK hA hD hS hl
  have hown : s.vm.findClass RX8 = some m.cls := hown
  have hl : lv_has ls 2 [(0, .ref (ad 0))] := hl
  have hinwsX80 : ∀ w ∈ wsX80, w ∈ wsX8_laysRays := fun _ h => List.mem_cons_of_mem _ (List.mem_append_right _ (h))
  refine hz_iconst hx hb dX8_laysRays_0 ?_
  refine lv_istore_n (lv' := [(1, zi 0), (0, .ref (ad 0))]) hx hb dX8_laysRays_1 rfl hl (by decide) rfl (fun ls hl => ?_)
  have L2 : ∀ (n : Nat) (k : Int) (f : Int → Int) (H : Heap) (locs : List Loc), (0 ≤ k ∧ k ≤ vN) → (∀ j : Int, 0 ≤ j → j < k → f j = (pwZ vN vC vNow vHaze vCell vDirt vTop vLm vRows vCols vDown vRight j 0 / 10)) → ((vN - k).toNat) < n → va_P G vwCl (mW ad y vThrown vN vC vNow vHaze vCold vHot vPipe vDeg vThaw vTrc vTurb vLeft vLoad vWater vTrips vMissed vBRow vBSum vCell vDirt vAim vErr vCor vBrk vTop vLm vRows vCols vDown vRight vBound vStrain vPrice vFirm vSums f vFalls vSom vHad) H → va_D A (mW ad y vThrown vN vC vNow vHaze vCold vHot vPipe vDeg vThaw vTrc vTurb vLeft vLoad vWater vTrips vMissed vBRow vBSum vCell vDirt vAim vErr vCor vBrk vTop vLm vRows vCols vDown vRight vBound vStrain vPrice vFirm vSums f vFalls vSom vHad) → va_S A s.heap H locs → ∀ ls : Array Slot, lv_has ls 2 [(0, .ref (ad 0)), (1, zi k)] → W p l e (headSpec wsX8_laysRays ({ frames := 3, cells := 0, slots := 0, locals := 74 })).room s m ([.ref (ad 0)] : List Value).toArray below meth c H locs 0 0 (MQ below (Q_X8_laysRays G y ad vThrown vN vC vNow vHaze vCold vHot vPipe vDeg vThaw vTrc vTurb vLeft vLoad vWater vTrips vMissed vBRow vBSum vCell vDirt vAim vErr vCor vBrk vTop vLm vRows vCols vDown vRight vBound vStrain vPrice vFirm vSums vRays vFalls vSom vHad A) ([.ref (ad 0)] : List Value).toArray s 0 0 A) (F0 m 2 ls []) := by
    intro n
    induction n with
    | zero => exact fun k f H locs h_k2 h_f2 hm => absurd hm (Nat.not_lt_zero _)
    | succ n ih2 =>
      intro k f H locs h_k2 h_f2 hm2 hP hD hS ls hl
      refine lv_iload_n hx hb dX8_laysRays_2 rfl (lv_at hl 1 rfl) ?_
      refine lv_aload_n hx hb dX8_laysRays_3 rfl (lv_at hl 0 rfl) ?_
      refine va_get (D := G) (ci := 9) (v := zi vN) (C := RX8) (T := TX8) (N := 40) hx hb hts hinwsX80 hown hK hP 0 rfl rfl 1 (by decide) (hts (.fieldLink RX8 82 "HeliokeepModel" "mirrors" "I") (List.mem_of_getElem? (i := 1) rfl)) (fun _ h9 => h9) rfl dX8_laysRays_4 ?_
      refine hz_icmp_ge (tgt := 31) hx hb dX8_laysRays_7 (by decide) (by omega) (fun c1 => ?_) (fun c1 => ?_)
      · exact W.vret hx hb hr (fun t ht hW => ⟨⟨(f), rfl, ⟨(show ∀ k : Int, 0 ≤ k → k < vN → 0 ≤ f k ∧ f k ≤ 95 from by
          intro j h1 h2
          have q1 := pwZ_rng (n := vN) (cl := vC) (now := vNow) (dirt := vDirt) (top := vTop) (lm := vLm) (rows := vRows) (cols := vCols) (down := vDown) (right := vRight) (t := 0) hHaze (hCell j)
          rw [h_f2 j h1 (by omega)]
          omega), (show ∀ j : Int, 0 ≤ j → j < vN → f j = (pwZ vN vC vNow vHaze vCell vDirt vTop vLm vRows vCols vDown vRight j 0 / 10) from fun j h1 h2 => h_f2 j h1 (by omega))⟩, hz_at hP ht⟩, hS.F ht⟩) hS.2.2 dX8_laysRays_31
      · have qr := pwZ_rng (n := vN) (cl := vC) (now := vNow) (dirt := vDirt) (top := vTop) (lm := vLm) (rows := vRows) (cols := vCols) (down := vDown) (right := vRight) (t := 0) hHaze (hCell k)
        refine lv_aload_n hx hb dX8_laysRays_10 rfl (lv_at hl 0 rfl) ?_
        refine va_get (D := G) (ci := 9) (v := .ref (ad 18)) (C := RX8) (T := TX8) (N := 40) hx hb hts hinwsX80 hown hK hP 0 rfl rfl 33 (by decide) (hts (.fieldLink RX8 67 "HeliokeepModel" "rays" "[I") (List.mem_of_getElem? (i := 2) rfl)) (fun _ h9 => h9) rfl dX8_laysRays_11 ?_
        refine lv_iload_n hx hb dX8_laysRays_14 rfl (lv_at hl 1 rfl) ?_
        refine lv_aload_n hx hb dX8_laysRays_15 rfl (lv_at hl 0 rfl) ?_
        refine lv_iload_n hx hb dX8_laysRays_16 rfl (lv_at hl 1 rfl) ?_
        refine hz_iconst hx hb dX8_laysRays_17 ?_
        refine hz_callWi (As := [zi k, zi 0]) (rest := [zi k, .ref (ad 18)]) ⟨hx, hb, hml, hown, hts⟩ (c_X8_powerOf l G y ad _ vThrown vN vC vNow vHaze vCold vHot vPipe vDeg vThaw vTrc vTurb vLeft vLoad vWater vTrips vMissed vBRow vBSum vCell vDirt vAim vErr vCor vBrk vTop vLm vRows vCols vDown vRight vBound vStrain vPrice vFirm vSums f vFalls vSom vHad k 0 hN hC hNow hHaze hCell hDirt hTop hLm hRows hCols hDown hRight (by omega) (by omega)) (cwV 2 hts gX8_laysRays_X8_powerOf rfl rfl rfl (by decide +kernel) ⟨Nat.le_of_ble_eq_true rfl, Nat.le_of_ble_eq_true rfl⟩) hP hK hD hS hA 0 9 rfl rfl rfl rfl hl.1 rfl (Nat.le_of_ble_eq_true rfl) dX8_laysRays_18 ⟨Nat.zero_le _, Nat.zero_le _⟩ (fun _ => rfl) (fun u H locs hu hP hD hS => ?_)
        have hP : va_P G vwCl (mW ad y vThrown vN vC vNow vHaze vCold vHot vPipe vDeg vThaw vTrc vTurb vLeft vLoad vWater vTrips vMissed vBRow vBSum vCell vDirt vAim vErr vCor vBrk vTop vLm vRows vCols vDown vRight vBound vStrain vPrice vFirm vSums f vFalls vSom vHad) H := hP
        have hD : va_D A (mW ad y vThrown vN vC vNow vHaze vCold vHot vPipe vDeg vThaw vTrc vTurb vLeft vLoad vWater vTrips vMissed vBRow vBSum vCell vDirt vAim vErr vCor vBrk vTop vLm vRows vCols vDown vRight vBound vStrain vPrice vFirm vSums f vFalls vSom vHad) := hD
        refine hz_bipush hx hb dX8_laysRays_21 (by decide) ?_
        refine hz_idiv hx hb dX8_laysRays_23 (by omega) ?_
        refine hz_iast (f := f) hx hb hK hP hD hS 18 0 rfl rfl (Nat.le_of_ble_eq_true rfl) (by omega) dX8_laysRays_24 (fun H locs hP hD hS => ?_)
        have hP : va_P G vwCl (mW ad y vThrown vN vC vNow vHaze vCold vHot vPipe vDeg vThaw vTrc vTurb vLeft vLoad vWater vTrips vMissed vBRow vBSum vCell vDirt vAim vErr vCor vBrk vTop vLm vRows vCols vDown vRight vBound vStrain vPrice vFirm vSums (upZ f k ((pwZ vN vC vNow vHaze vCell vDirt vTop vLm vRows vCols vDown vRight k 0) / 10)) vFalls vSom vHad) H := hP
        have hD : va_D A (mW ad y vThrown vN vC vNow vHaze vCold vHot vPipe vDeg vThaw vTrc vTurb vLeft vLoad vWater vTrips vMissed vBRow vBSum vCell vDirt vAim vErr vCor vBrk vTop vLm vRows vCols vDown vRight vBound vStrain vPrice vFirm vSums (upZ f k ((pwZ vN vC vNow vHaze vCell vDirt vTop vLm vRows vCols vDown vRight k 0) / 10)) vFalls vSom vHad) := hD
        refine hz_iinc (v := (k + 1)) (lv' := [(1, zi (k + 1)), (0, .ref (ad 0))]) hx hb dX8_laysRays_25 hl (k := 1) rfl (by omega) (by decide) rfl (fun ls hl => ?_)
        refine lv_goto (tgt := 2) hx hb dX8_laysRays_28 (by decide) ?_
        exact ih2 (k + 1) (upZ f k ((pwZ vN vC vNow vHaze vCell vDirt vTop vLm vRows vCols vDown vRight k 0) / 10)) _ _ (by omega) (by
          intro j h1 h2
          by_cases e : j = k
          · rw [upZ_s e, e]
          · rw [upZ_n e]; exact h_f2 j h1 (by omega)) (by omega) hP hD hS ls (lv_sub hl [1, 0] rfl)
  exact L2 _ 0 vRays _ _ (by omega) (fun j h1 h2 => absurd h2 (by omega)) (Nat.lt_succ_self _) hP hD hS ls (lv_sub hl [1, 0] rfl)
abbrev Q_X8_falls (G : va_G) (y : Nat → ClassId) (ad : Nat → Nat) (vThrown vN vC vNow vHaze vCold vHot vPipe vDeg vThaw vTrc vTurb vLeft vLoad vWater vTrips vMissed vBRow vBSum : Int) (vCell vDirt vAim vErr vCor vBrk vTop vLm vRows vCols vDown vRight vBound vStrain vPrice vFirm vSums vRays vFalls vSom vHad : Int → Int) (place : Int) (its : Int) (A : Nat → Prop) : Array Value → State → Outcome → State → Prop := va_Qv (fun (u : (Int → Int) × Int) => (∀ q : Int, 0 ≤ q → q ≤ 5 → u.1 q = vFalls q + (if q = place then its else 0)) ∧ (u.2 = vMissed + (if 0 ≤ place ∧ place ≤ 5 then 0 else its))) (fun (u : (Int → Int) × Int) t => va_P G vwCl (mW ad y vThrown vN vC vNow vHaze vCold vHot vPipe vDeg vThaw vTrc vTurb vLeft vLoad vWater vTrips u.2 vBRow vBSum vCell vDirt vAim vErr vCor vBrk vTop vLm vRows vCols vDown vRight vBound vStrain vPrice vFirm vSums vRays u.1 vSom vHad) t.heap) A
set_option maxHeartbeats 4000000 in
set_option maxRecDepth 100000 in
theorem c_X8_falls (l : Launch) (G : va_G) (y : Nat → ClassId) (ad : Nat → Nat) (sz : Nat) (vThrown vN vC vNow vHaze vCold vHot vPipe vDeg vThaw vTrc vTurb vLeft vLoad vWater vTrips vMissed vBRow vBSum : Int) (vCell vDirt vAim vErr vCor vBrk vTop vLm vRows vCols vDown vRight vBound vStrain vPrice vFirm vSums vRays vFalls vSom vHad : Int → Int) (place : Int) (its : Int) (rplace : -2147483648 ≤ place ∧ place < 2147483648) : Met l yX8_falls wsX8_falls ({ frames := 2, cells := 0, slots := 0, locals := 42 }) (va_Pc [.ref (ad 0), zi place, zi its] (HPre G (tyL y) (mW ad y vThrown vN vC vNow vHaze vCold vHot vPipe vDeg vThaw vTrc vTurb vLeft vLoad vWater vTrips vMissed vBRow vBSum vCell vDirt vAim vErr vCor vBrk vTop vLm vRows vCols vDown vRight vBound vStrain vPrice vFirm vSums vRays vFalls vSom vHad) sz)) (Q_X8_falls G y ad vThrown vN vC vNow vHaze vCold vHot vPipe vDeg vThaw vTrc vTurb vLeft vLoad vWater vTrips vMissed vBRow vBSum vCell vDirt vAim vErr vCor vBrk vTop vLm vRows vCols vDown vRight vBound vStrain vPrice vFirm vSums vRays vFalls vSom vHad place its (va_A (mW ad y vThrown vN vC vNow vHaze vCold vHot vPipe vDeg vThaw vTrc vTurb vLeft vLoad vWater vTrips vMissed vBRow vBSum vCell vDirt vAim vErr vCor vBrk vTop vLm vRows vCols vDown vRight vBound vStrain vPrice vFirm vSums vRays vFalls vSom vHad) sz)) 0 0 (va_A (mW ad y vThrown vN vC vNow vHaze vCold vHot vPipe vDeg vThaw vTrc vTurb vLeft vLoad vWater vTrips vMissed vBRow vBSum vCell vDirt vAim vErr vCor vBrk vTop vLm vRows vCols vDown vRight vBound vStrain vPrice vFirm vSums vRays vFalls vSom vHad) sz) := by
  refine hz_ofW (Qf := Q_X8_falls G y ad vThrown vN vC vNow vHaze vCold vHot vPipe vDeg vThaw vTrc vTurb vLeft vLoad vWater vTrips vMissed vBRow vBSum vCell vDirt vAim vErr vCor vBrk vTop vLm vRows vCols vDown vRight vBound vStrain vPrice vFirm vSums vRays vFalls vSom vHad place its) (cc := cX8_falls) (maxL := 3) (ret := none) (by decide) rfl (Nat.le_of_ble_eq_true rfl) ?_
  intro p e s m below meth c A ls hx hb hr hts hown hin hlocks hml hP hK hA hD hS hl
  have hown : s.vm.findClass RX8 = some m.cls := hown
  have hl : lv_has ls 3 [(0, .ref (ad 0)), (1, zi place), (2, zi its)] := hl
  have hinwsX80 : ∀ w ∈ wsX80, w ∈ wsX8_falls := fun _ h => List.mem_cons_of_mem _ (List.mem_append_right _ (h))
  refine lv_iload_n hx hb dX8_falls_0 rfl (lv_at hl 1 rfl) ?_
  refine hz_callSi (As := [zi place]) (rest := []) ⟨hx, hb, hml, hown, hts⟩ (c_X8_isPanel l place (by omega)) (va_cwS 1 hts gX8_falls_X8_isPanel rfl rfl rfl (by decide +kernel) ⟨Nat.le_of_ble_eq_true rfl, Nat.le_of_ble_eq_true rfl⟩) rfl hl.1 rfl (Nat.le_of_ble_eq_true rfl) dX8_falls_1 ⟨Nat.zero_le _, Nat.zero_le _⟩ ?_
  refine hz_if_eq (tgt := 20) hx hb dX8_falls_4 (by decide) (by omega) (fun c1 => ?_) (fun c1 => ?_)
  · refine lv_aload_n hx hb dX8_falls_20 rfl (lv_at hl 0 rfl) ?_
    refine lv_dup hx hb dX8_falls_21 rfl ?_
    refine va_get (D := G) (ci := 9) (v := zi vMissed) (C := RX8) (T := TX8) (N := 40) hx hb hts hinwsX80 hown hK hP 0 rfl rfl 35 (by decide) (hts (.fieldLink RX8 136 "HeliokeepModel" "missed" "I") (List.mem_of_getElem? (i := 2) rfl)) (fun _ h9 => h9) rfl dX8_falls_22 ?_
    refine lv_iload_n hx hb dX8_falls_25 rfl (lv_at hl 2 rfl) ?_
    refine hz_iadd hx hb dX8_falls_26 ?_
    refine va_put (D := G) (ci := 9) (v := zi (vMissed + its)) (ty := .int) (C := RX8) (T := TX8) (N := 40) hx hb hts hinwsX80 tyX8 tyX8_ok nmX8 hown hK hP hD hS 0 rfl rfl 35 (by decide) (hts (.fieldLink RX8 136 "HeliokeepModel" "missed" "I") (List.mem_of_getElem? (i := 2) rfl)) (fun _ h9 => h9) rfl (by decide +kernel) rfl rfl (Nat.le_of_ble_eq_true rfl) dX8_falls_27 (fun H locs hP hD hS => ?_)
    have hP : va_P G vwCl (mW ad y vThrown vN vC vNow vHaze vCold vHot vPipe vDeg vThaw vTrc vTurb vLeft vLoad vWater vTrips (vMissed + its) vBRow vBSum vCell vDirt vAim vErr vCor vBrk vTop vLm vRows vCols vDown vRight vBound vStrain vPrice vFirm vSums vRays vFalls vSom vHad) H := hP
    have hD : va_D A (mW ad y vThrown vN vC vNow vHaze vCold vHot vPipe vDeg vThaw vTrc vTurb vLeft vLoad vWater vTrips (vMissed + its) vBRow vBSum vCell vDirt vAim vErr vCor vBrk vTop vLm vRows vCols vDown vRight vBound vStrain vPrice vFirm vSums vRays vFalls vSom vHad) := hD
    exact W.vret hx hb hr (fun t ht hW => ⟨⟨(vFalls, (vMissed + its)), rfl, ⟨(show ∀ q : Int, 0 ≤ q → q ≤ 5 → vFalls q = vFalls q + (if q = place then its else 0) from by
          intro q h0 h1
          by_cases e : q = place
          · first | (rw [upZ_s e, if_pos e, e]; done) | (exfalso; omega)
          · first | (rw [upZ_n e, if_neg e]; omega) | (rw [if_neg e]; omega)), (show (vMissed + its) = vMissed + (if 0 ≤ place ∧ place ≤ 5 then 0 else its) from by omega)⟩, hz_at hP ht⟩, hS.F ht⟩) hS.2.2 dX8_falls_30
  · refine lv_aload_n hx hb dX8_falls_7 rfl (lv_at hl 0 rfl) ?_
    refine va_get (D := G) (ci := 9) (v := .ref (ad 19)) (C := RX8) (T := TX8) (N := 40) hx hb hts hinwsX80 hown hK hP 0 rfl rfl 34 (by decide) (hts (.fieldLink RX8 70 "HeliokeepModel" "falls" "[I") (List.mem_of_getElem? (i := 1) rfl)) (fun _ h9 => h9) rfl dX8_falls_8 ?_
    refine lv_iload_n hx hb dX8_falls_11 rfl (lv_at hl 1 rfl) ?_
    refine lv_dup2_11 hx hb dX8_falls_12 rfl rfl ?_
    refine hz_iald (f := vFalls) hx hb hK hP 19 0 rfl rfl (Nat.le_of_ble_eq_true rfl) (by omega) dX8_falls_13 ?_
    refine lv_iload_n hx hb dX8_falls_14 rfl (lv_at hl 2 rfl) ?_
    refine hz_iadd hx hb dX8_falls_15 ?_
    refine hz_iast (f := vFalls) hx hb hK hP hD hS 19 0 rfl rfl (Nat.le_of_ble_eq_true rfl) (by omega) dX8_falls_16 (fun H locs hP hD hS => ?_)
    have hP : va_P G vwCl (mW ad y vThrown vN vC vNow vHaze vCold vHot vPipe vDeg vThaw vTrc vTurb vLeft vLoad vWater vTrips vMissed vBRow vBSum vCell vDirt vAim vErr vCor vBrk vTop vLm vRows vCols vDown vRight vBound vStrain vPrice vFirm vSums vRays (upZ vFalls place ((vFalls place) + its)) vSom vHad) H := hP
    have hD : va_D A (mW ad y vThrown vN vC vNow vHaze vCold vHot vPipe vDeg vThaw vTrc vTurb vLeft vLoad vWater vTrips vMissed vBRow vBSum vCell vDirt vAim vErr vCor vBrk vTop vLm vRows vCols vDown vRight vBound vStrain vPrice vFirm vSums vRays (upZ vFalls place ((vFalls place) + its)) vSom vHad) := hD
    refine lv_goto (tgt := 30) hx hb dX8_falls_17 (by decide) ?_
    exact W.vret hx hb hr (fun t ht hW => ⟨⟨((upZ vFalls place ((vFalls place) + its)), vMissed), rfl, ⟨(show ∀ q : Int, 0 ≤ q → q ≤ 5 → (upZ vFalls place ((vFalls place) + its)) q = vFalls q + (if q = place then its else 0) from by
          intro q h0 h1
          by_cases e : q = place
          · first | (rw [upZ_s e, if_pos e, e]; done) | (exfalso; omega)
          · first | (rw [upZ_n e, if_neg e]; omega) | (rw [if_neg e]; omega)), (show vMissed = vMissed + (if 0 ≤ place ∧ place ≤ 5 then 0 else its) from by omega)⟩, hz_at hP ht⟩, hS.F ht⟩) hS.2.2 dX8_falls_30
abbrev Q_X8_laysFluxes (G : va_G) (y : Nat → ClassId) (ad : Nat → Nat) (vThrown vN vC vNow vHaze vCold vHot vPipe vDeg vThaw vTrc vTurb vLeft vLoad vWater vTrips vMissed vBRow vBSum : Int) (vCell vDirt vAim vErr vCor vBrk vTop vLm vRows vCols vDown vRight vBound vStrain vPrice vFirm vSums vRays vFalls vSom vHad : Int → Int) (other : Int) (bb : Int) (A : Nat → Prop) : Array Value → State → Outcome → State → Prop := va_Qv (fun (u : (Int → Int) × Int) => (∀ k : Int, 0 ≤ k → k ≤ 5 → 0 ≤ u.1 k ∧ u.1 k ≤ 11400) ∧ (∀ q : Int, 0 ≤ q → q ≤ 5 → u.1 q = flZ vN vAim vErr vCor vRays other bb q) ∧ (u.2 = msZ vN vAim vErr vCor vRays other bb)) (fun (u : (Int → Int) × Int) t => va_P G vwCl (mW ad y vThrown vN vC vNow vHaze vCold vHot vPipe vDeg vThaw vTrc vTurb vLeft vLoad vWater vTrips u.2 vBRow vBSum vCell vDirt vAim vErr vCor vBrk vTop vLm vRows vCols vDown vRight vBound vStrain vPrice vFirm vSums vRays u.1 vSom vHad) t.heap) A
set_option maxHeartbeats 4000000 in
set_option maxRecDepth 100000 in
theorem c_X8_laysFluxes (l : Launch) (G : va_G) (y : Nat → ClassId) (ad : Nat → Nat) (sz : Nat) (vThrown vN vC vNow vHaze vCold vHot vPipe vDeg vThaw vTrc vTurb vLeft vLoad vWater vTrips vMissed vBRow vBSum : Int) (vCell vDirt vAim vErr vCor vBrk vTop vLm vRows vCols vDown vRight vBound vStrain vPrice vFirm vSums vRays vFalls vSom vHad : Int → Int) (other : Int) (bb : Int) (hN : 0 ≤ vN ∧ vN ≤ 12) (hAim : ∀ k : Int, -1 ≤ vAim k ∧ vAim k ≤ 5) (hErr : ∀ k : Int, -3 ≤ vErr k ∧ vErr k ≤ 3) (hCor : ∀ k : Int, -3 ≤ vCor k ∧ vCor k ≤ 3) (hRays : ∀ k : Int, 0 ≤ k → k < vN → 0 ≤ vRays k ∧ vRays k ≤ 95) (rother : -2147483648 ≤ other ∧ other < 2147483648) (hb2 : -1 ≤ bb ∧ bb ≤ 1) : Met l yX8_laysFluxes wsX8_laysFluxes ({ frames := 3, cells := 0, slots := 0, locals := 64 }) (va_Pc [.ref (ad 0), zi other, zi bb] (HPre G (tyL y) (mW ad y vThrown vN vC vNow vHaze vCold vHot vPipe vDeg vThaw vTrc vTurb vLeft vLoad vWater vTrips vMissed vBRow vBSum vCell vDirt vAim vErr vCor vBrk vTop vLm vRows vCols vDown vRight vBound vStrain vPrice vFirm vSums vRays vFalls vSom vHad) sz)) (Q_X8_laysFluxes G y ad vThrown vN vC vNow vHaze vCold vHot vPipe vDeg vThaw vTrc vTurb vLeft vLoad vWater vTrips vMissed vBRow vBSum vCell vDirt vAim vErr vCor vBrk vTop vLm vRows vCols vDown vRight vBound vStrain vPrice vFirm vSums vRays vFalls vSom vHad other bb (va_A (mW ad y vThrown vN vC vNow vHaze vCold vHot vPipe vDeg vThaw vTrc vTurb vLeft vLoad vWater vTrips vMissed vBRow vBSum vCell vDirt vAim vErr vCor vBrk vTop vLm vRows vCols vDown vRight vBound vStrain vPrice vFirm vSums vRays vFalls vSom vHad) sz)) 0 0 (va_A (mW ad y vThrown vN vC vNow vHaze vCold vHot vPipe vDeg vThaw vTrc vTurb vLeft vLoad vWater vTrips vMissed vBRow vBSum vCell vDirt vAim vErr vCor vBrk vTop vLm vRows vCols vDown vRight vBound vStrain vPrice vFirm vSums vRays vFalls vSom vHad) sz) := by
  refine hz_ofW (Qf := Q_X8_laysFluxes G y ad vThrown vN vC vNow vHaze vCold vHot vPipe vDeg vThaw vTrc vTurb vLeft vLoad vWater vTrips vMissed vBRow vBSum vCell vDirt vAim vErr vCor vBrk vTop vLm vRows vCols vDown vRight vBound vStrain vPrice vFirm vSums vRays vFalls vSom vHad other bb) (cc := cX8_laysFluxes) (maxL := 5) (ret := none) (by decide) rfl (Nat.le_of_ble_eq_true rfl) ?_
  intro p e s m below meth c A ls hx hb hr hts hown hin hlocks hml hP hK hA hD hS hl
  have hown : s.vm.findClass RX8 = some m.cls := hown
  have hl : lv_has ls 5 [(0, .ref (ad 0)), (1, zi other), (2, zi bb)] := hl
  have hinwsX80 : ∀ w ∈ wsX80, w ∈ wsX8_laysFluxes := fun _ h => List.mem_cons_of_mem _ (List.mem_append_right _ (h))
  refine lv_aload_n hx hb dX8_laysFluxes_0 rfl (lv_at hl 0 rfl) ?_
  refine hz_iconst hx hb dX8_laysFluxes_1 ?_
  refine va_put (D := G) (ci := 9) (v := zi 0) (ty := .int) (C := RX8) (T := TX8) (N := 40) hx hb hts hinwsX80 tyX8 tyX8_ok nmX8 hown hK hP hD hS 0 rfl rfl 35 (by decide) (hts (.fieldLink RX8 136 "HeliokeepModel" "missed" "I") (List.mem_of_getElem? (i := 1) rfl)) (fun _ h9 => h9) rfl (by decide +kernel) rfl rfl (Nat.le_of_ble_eq_true rfl) dX8_laysFluxes_2 (fun H locs hP hD hS => ?_)
  have hP : va_P G vwCl (mW ad y vThrown vN vC vNow vHaze vCold vHot vPipe vDeg vThaw vTrc vTurb vLeft vLoad vWater vTrips 0 vBRow vBSum vCell vDirt vAim vErr vCor vBrk vTop vLm vRows vCols vDown vRight vBound vStrain vPrice vFirm vSums vRays vFalls vSom vHad) H := hP
  have hD : va_D A (mW ad y vThrown vN vC vNow vHaze vCold vHot vPipe vDeg vThaw vTrc vTurb vLeft vLoad vWater vTrips 0 vBRow vBSum vCell vDirt vAim vErr vCor vBrk vTop vLm vRows vCols vDown vRight vBound vStrain vPrice vFirm vSums vRays vFalls vSom vHad) := hD
  refine hz_iconst hx hb dX8_laysFluxes_5 ?_
  refine lv_istore_n (lv' := [(3, zi 0), (0, .ref (ad 0)), (1, zi other), (2, zi bb)]) hx hb dX8_laysFluxes_6 rfl hl (by decide) rfl (fun ls hl => ?_)
  have L7 : ∀ (n : Nat) (k : Int) (f : Int → Int) (H : Heap) (locs : List Loc), (0 ≤ k ∧ k ≤ 6) → (∀ q : Int, 0 ≤ q → q < k → f q = 0) → ((6 - k).toNat) < n → va_P G vwCl (mW ad y vThrown vN vC vNow vHaze vCold vHot vPipe vDeg vThaw vTrc vTurb vLeft vLoad vWater vTrips 0 vBRow vBSum vCell vDirt vAim vErr vCor vBrk vTop vLm vRows vCols vDown vRight vBound vStrain vPrice vFirm vSums vRays f vSom vHad) H → va_D A (mW ad y vThrown vN vC vNow vHaze vCold vHot vPipe vDeg vThaw vTrc vTurb vLeft vLoad vWater vTrips 0 vBRow vBSum vCell vDirt vAim vErr vCor vBrk vTop vLm vRows vCols vDown vRight vBound vStrain vPrice vFirm vSums vRays f vSom vHad) → va_S A s.heap H locs → ∀ ls : Array Slot, lv_has ls 5 [(0, .ref (ad 0)), (1, zi other), (2, zi bb), (3, zi k)] → W p l e (headSpec wsX8_laysFluxes ({ frames := 3, cells := 0, slots := 0, locals := 64 })).room s m ([.ref (ad 0), zi other, zi bb] : List Value).toArray below meth c H locs 0 0 (MQ below (Q_X8_laysFluxes G y ad vThrown vN vC vNow vHaze vCold vHot vPipe vDeg vThaw vTrc vTurb vLeft vLoad vWater vTrips vMissed vBRow vBSum vCell vDirt vAim vErr vCor vBrk vTop vLm vRows vCols vDown vRight vBound vStrain vPrice vFirm vSums vRays vFalls vSom vHad other bb A) ([.ref (ad 0), zi other, zi bb] : List Value).toArray s 0 0 A) (F0 m 7 ls []) := by
    intro n
    induction n with
    | zero => exact fun k f H locs h_k7 h_f7 hm => absurd hm (Nat.not_lt_zero _)
    | succ n ih7 =>
      intro k f H locs h_k7 h_f7 hm7 hP hD hS ls hl
      refine lv_iload_n hx hb dX8_laysFluxes_7 rfl (lv_at hl 3 rfl) ?_
      refine hz_bipush hx hb dX8_laysFluxes_8 (by decide) ?_
      refine hz_icmp_ge (tgt := 26) hx hb dX8_laysFluxes_10 (by decide) (by omega) (fun c1 => ?_) (fun c1 => ?_)
      · refine hz_iconst hx hb dX8_laysFluxes_26 ?_
        refine lv_istore_n (lv' := [(3, zi 0), (0, .ref (ad 0)), (1, zi other), (2, zi bb)]) hx hb dX8_laysFluxes_27 rfl hl (by decide) rfl (fun ls hl => ?_)
        have L28 : ∀ (n : Nat) (k : Int) (f : Int → Int) (mi : Int) (H : Heap) (locs : List Loc), (0 ≤ k ∧ k ≤ vN) → (∀ q : Int, 0 ≤ q → q ≤ 5 → f q = smZ (ctZ vAim vErr vCor vRays other bb q) k.toNat) → (mi = smZ (mtZ vAim vErr vCor vRays other bb) k.toNat) → ((vN - k).toNat) < n → va_P G vwCl (mW ad y vThrown vN vC vNow vHaze vCold vHot vPipe vDeg vThaw vTrc vTurb vLeft vLoad vWater vTrips mi vBRow vBSum vCell vDirt vAim vErr vCor vBrk vTop vLm vRows vCols vDown vRight vBound vStrain vPrice vFirm vSums vRays f vSom vHad) H → va_D A (mW ad y vThrown vN vC vNow vHaze vCold vHot vPipe vDeg vThaw vTrc vTurb vLeft vLoad vWater vTrips mi vBRow vBSum vCell vDirt vAim vErr vCor vBrk vTop vLm vRows vCols vDown vRight vBound vStrain vPrice vFirm vSums vRays f vSom vHad) → va_S A s.heap H locs → ∀ ls : Array Slot, lv_has ls 5 [(0, .ref (ad 0)), (1, zi other), (2, zi bb), (3, zi k)] → W p l e (headSpec wsX8_laysFluxes ({ frames := 3, cells := 0, slots := 0, locals := 64 })).room s m ([.ref (ad 0), zi other, zi bb] : List Value).toArray below meth c H locs 0 0 (MQ below (Q_X8_laysFluxes G y ad vThrown vN vC vNow vHaze vCold vHot vPipe vDeg vThaw vTrc vTurb vLeft vLoad vWater vTrips vMissed vBRow vBSum vCell vDirt vAim vErr vCor vBrk vTop vLm vRows vCols vDown vRight vBound vStrain vPrice vFirm vSums vRays vFalls vSom vHad other bb A) ([.ref (ad 0), zi other, zi bb] : List Value).toArray s 0 0 A) (F0 m 28 ls []) := by
          intro n
          induction n with
          | zero => exact fun k f mi H locs h_k28 h_f28 h_m28 hm => absurd hm (Nat.not_lt_zero _)
          | succ n ih28 =>
            intro k f mi H locs h_k28 h_f28 h_m28 hm28 hP hD hS ls hl
            refine lv_iload_n hx hb dX8_laysFluxes_28 rfl (lv_at hl 3 rfl) ?_
            refine lv_aload_n hx hb dX8_laysFluxes_29 rfl (lv_at hl 0 rfl) ?_
            refine va_get (D := G) (ci := 9) (v := zi vN) (C := RX8) (T := TX8) (N := 40) hx hb hts hinwsX80 hown hK hP 0 rfl rfl 1 (by decide) (hts (.fieldLink RX8 82 "HeliokeepModel" "mirrors" "I") (List.mem_of_getElem? (i := 3) rfl)) (fun _ h9 => h9) rfl dX8_laysFluxes_30 ?_
            refine hz_icmp_ge (tgt := 132) hx hb dX8_laysFluxes_33 (by decide) (by omega) (fun c2 => ?_) (fun c2 => ?_)
            · exact W.vret hx hb hr (fun t ht hW => ⟨⟨(f, mi), rfl, ⟨(show ∀ k : Int, 0 ≤ k → k ≤ 5 → 0 ≤ f k ∧ f k ≤ 11400 from by
          intro q h0 h1
          have e : k = vN := by omega
          rw [h_f28 q h0 h1, e]
          exact flZ_rng hN hRays), (show ∀ q : Int, 0 ≤ q → q ≤ 5 → f q = flZ vN vAim vErr vCor vRays other bb q from by
          intro q h0 h1
          have e : k = vN := by omega
          rw [h_f28 q h0 h1, e]
          rfl), (show mi = msZ vN vAim vErr vCor vRays other bb from by
          have e : k = vN := by omega
          rw [h_m28, e]
          rfl)⟩, hz_at hP ht⟩, hS.F ht⟩) hS.2.2 dX8_laysFluxes_132
            · have qa := hAim k
              have qe := hErr k
              have qo := hCor k
              have qr := hRays k h_k28.1 (by omega)
              refine lv_aload_n hx hb dX8_laysFluxes_36 rfl (lv_at hl 0 rfl) ?_
              refine va_get (D := G) (ci := 9) (v := .ref (ad 3)) (C := RX8) (T := TX8) (N := 40) hx hb hts hinwsX80 hown hK hP 0 rfl rfl 4 (by decide) (hts (.fieldLink RX8 16 "HeliokeepModel" "aimed" "[I") (List.mem_of_getElem? (i := 4) rfl)) (fun _ h9 => h9) rfl dX8_laysFluxes_37 ?_
              refine lv_iload_n hx hb dX8_laysFluxes_40 rfl (lv_at hl 3 rfl) ?_
              refine hz_iald (f := vAim) hx hb hK hP 3 0 rfl rfl (Nat.le_of_ble_eq_true rfl) (by omega) dX8_laysFluxes_41 ?_
              have q3 := hAim k
              refine hz_iconst hx hb dX8_laysFluxes_42 ?_
              refine hz_icmp_eq (tgt := 126) hx hb dX8_laysFluxes_43 (by decide) (by omega) (fun c4 => ?_) (fun c4 => ?_)
              · refine hz_iinc (v := (k + 1)) (lv' := [(3, zi (k + 1)), (0, .ref (ad 0)), (1, zi other), (2, zi bb)]) hx hb dX8_laysFluxes_126 hl (k := 3) rfl (by omega) (by decide) rfl (fun ls hl => ?_)
                refine lv_goto (tgt := 28) hx hb dX8_laysFluxes_129 (by decide) ?_
                exact ih28 (k + 1) f mi _ _ (by omega) (by intro q h0 h1; rw [smZ_s (by omega), h_f28 q h0 h1, show ctZ vAim vErr vCor vRays other bb q k = 0 from by unfold ctZ; exact if_pos (by omega)]; omega) (by rw [smZ_s (by omega), h_m28, show mtZ vAim vErr vCor vRays other bb k = 0 from by unfold mtZ; exact if_pos (by omega)]; omega) (by omega) hP hD hS ls (lv_sub hl [1, 2, 3, 0] rfl)
              · refine lv_aload_n hx hb dX8_laysFluxes_46 rfl (lv_at hl 0 rfl) ?_
                refine va_get (D := G) (ci := 9) (v := .ref (ad 3)) (C := RX8) (T := TX8) (N := 40) hx hb hts hinwsX80 hown hK hP 0 rfl rfl 4 (by decide) (hts (.fieldLink RX8 16 "HeliokeepModel" "aimed" "[I") (List.mem_of_getElem? (i := 4) rfl)) (fun _ h9 => h9) rfl dX8_laysFluxes_47 ?_
                refine lv_iload_n hx hb dX8_laysFluxes_50 rfl (lv_at hl 3 rfl) ?_
                refine hz_iald (f := vAim) hx hb hK hP 3 0 rfl rfl (Nat.le_of_ble_eq_true rfl) (by omega) dX8_laysFluxes_51 ?_
                have q5 := hAim k
                refine lv_aload_n hx hb dX8_laysFluxes_52 rfl (lv_at hl 0 rfl) ?_
                refine va_get (D := G) (ci := 9) (v := .ref (ad 4)) (C := RX8) (T := TX8) (N := 40) hx hb hts hinwsX80 hown hK hP 0 rfl rfl 5 (by decide) (hts (.fieldLink RX8 19 "HeliokeepModel" "error" "[I") (List.mem_of_getElem? (i := 5) rfl)) (fun _ h9 => h9) rfl dX8_laysFluxes_53 ?_
                refine lv_iload_n hx hb dX8_laysFluxes_56 rfl (lv_at hl 3 rfl) ?_
                refine hz_iald (f := vErr) hx hb hK hP 4 0 rfl rfl (Nat.le_of_ble_eq_true rfl) (by omega) dX8_laysFluxes_57 ?_
                have q6 := hErr k
                refine hz_iadd hx hb dX8_laysFluxes_58 ?_
                refine lv_aload_n hx hb dX8_laysFluxes_59 rfl (lv_at hl 0 rfl) ?_
                refine va_get (D := G) (ci := 9) (v := .ref (ad 5)) (C := RX8) (T := TX8) (N := 40) hx hb hts hinwsX80 hown hK hP 0 rfl rfl 6 (by decide) (hts (.fieldLink RX8 22 "HeliokeepModel" "correction" "[I") (List.mem_of_getElem? (i := 6) rfl)) (fun _ h9 => h9) rfl dX8_laysFluxes_60 ?_
                refine lv_iload_n hx hb dX8_laysFluxes_63 rfl (lv_at hl 3 rfl) ?_
                refine hz_iald (f := vCor) hx hb hK hP 5 0 rfl rfl (Nat.le_of_ble_eq_true rfl) (by omega) dX8_laysFluxes_64 ?_
                have q7 := hCor k
                refine hz_isub hx hb dX8_laysFluxes_65 ?_
                refine lv_iload_n hx hb dX8_laysFluxes_66 rfl (lv_at hl 3 rfl) ?_
                refine lv_iload_n hx hb dX8_laysFluxes_67 rfl (lv_at hl 1 rfl) ?_
                refine hz_icmp_ne (tgt := 75) hx hb dX8_laysFluxes_68 (by decide) (by omega) (fun c8 => ?_) (fun c8 => ?_)
                · refine hz_iconst hx hb dX8_laysFluxes_75 ?_
                  refine hz_iadd hx hb dX8_laysFluxes_76 ?_
                  refine lv_istore (lv' := [(4, zi ((((vAim k) + (vErr k)) - (vCor k)) + 0)), (0, .ref (ad 0)), (1, zi other), (2, zi bb), (3, zi k)]) hx hb dX8_laysFluxes_77 hl (by decide) rfl (fun ls hl => ?_)
                  refine lv_aload_n hx hb dX8_laysFluxes_79 rfl (lv_at hl 1 rfl) ?_
                  refine lv_iload hx hb dX8_laysFluxes_80 (lv_at hl 0 rfl) ?_
                  refine hz_bipush hx hb dX8_laysFluxes_82 (by decide) ?_
                  refine lv_aload_n hx hb dX8_laysFluxes_84 rfl (lv_at hl 1 rfl) ?_
                  refine va_get (D := G) (ci := 9) (v := .ref (ad 18)) (C := RX8) (T := TX8) (N := 40) hx hb hts hinwsX80 hown hK hP 0 rfl rfl 33 (by decide) (hts (.fieldLink RX8 67 "HeliokeepModel" "rays" "[I") (List.mem_of_getElem? (i := 7) rfl)) (fun _ h9 => h9) rfl dX8_laysFluxes_85 ?_
                  refine lv_iload_n hx hb dX8_laysFluxes_88 rfl (lv_at hl 4 rfl) ?_
                  refine hz_iald (f := vRays) hx hb hK hP 18 0 rfl rfl (Nat.le_of_ble_eq_true rfl) (by omega) dX8_laysFluxes_89 ?_
                  have q9 := hRays k
                  refine hz_imul hx hb dX8_laysFluxes_90 ?_
                  refine hz_callWv (As := [zi ((((vAim k) + (vErr k)) - (vCor k)) + 0), zi (6 * (vRays k))]) (rest := []) ⟨hx, hb, hml, hown, hts⟩ (c_X8_falls l G y ad _ vThrown vN vC vNow vHaze vCold vHot vPipe vDeg vThaw vTrc vTurb vLeft vLoad vWater vTrips mi vBRow vBSum vCell vDirt vAim vErr vCor vBrk vTop vLm vRows vCols vDown vRight vBound vStrain vPrice vFirm vSums vRays f vSom vHad ((((vAim k) + (vErr k)) - (vCor k)) + 0) (6 * (vRays k)) (by omega)) (cwV 2 hts gX8_laysFluxes_X8_falls rfl rfl rfl (by decide +kernel) ⟨Nat.le_of_ble_eq_true rfl, Nat.le_of_ble_eq_true rfl⟩) hP hK hD hS hA 0 9 rfl rfl rfl rfl hl.1 rfl (Nat.le_of_ble_eq_true rfl) dX8_laysFluxes_91 ⟨Nat.zero_le _, Nat.zero_le _⟩ (fun _ => rfl) (fun u H locs hu hP hD hS => ?_)
                  obtain ⟨f_10, m_11⟩ := u
                  have p12 : ∀ q : Int, 0 ≤ q → q ≤ 5 → f_10 q = f q + (if q = ((((vAim k) + (vErr k)) - (vCor k)) + 0) then (6 * (vRays k)) else 0) := hu.1
                  have p13 : m_11 = mi + (if 0 ≤ ((((vAim k) + (vErr k)) - (vCor k)) + 0) ∧ ((((vAim k) + (vErr k)) - (vCor k)) + 0) ≤ 5 then 0 else (6 * (vRays k))) := hu.2
                  have hP : va_P G vwCl (mW ad y vThrown vN vC vNow vHaze vCold vHot vPipe vDeg vThaw vTrc vTurb vLeft vLoad vWater vTrips m_11 vBRow vBSum vCell vDirt vAim vErr vCor vBrk vTop vLm vRows vCols vDown vRight vBound vStrain vPrice vFirm vSums vRays f_10 vSom vHad) H := hP
                  have hD : va_D A (mW ad y vThrown vN vC vNow vHaze vCold vHot vPipe vDeg vThaw vTrc vTurb vLeft vLoad vWater vTrips m_11 vBRow vBSum vCell vDirt vAim vErr vCor vBrk vTop vLm vRows vCols vDown vRight vBound vStrain vPrice vFirm vSums vRays f_10 vSom vHad) := hD
                  refine lv_aload_n hx hb dX8_laysFluxes_94 rfl (lv_at hl 1 rfl) ?_
                  refine lv_iload hx hb dX8_laysFluxes_95 (lv_at hl 0 rfl) ?_
                  refine hz_iconst hx hb dX8_laysFluxes_97 ?_
                  refine hz_isub hx hb dX8_laysFluxes_98 ?_
                  refine hz_iconst hx hb dX8_laysFluxes_99 ?_
                  refine lv_aload_n hx hb dX8_laysFluxes_100 rfl (lv_at hl 1 rfl) ?_
                  refine va_get (D := G) (ci := 9) (v := .ref (ad 18)) (C := RX8) (T := TX8) (N := 40) hx hb hts hinwsX80 hown hK hP 0 rfl rfl 33 (by decide) (hts (.fieldLink RX8 67 "HeliokeepModel" "rays" "[I") (List.mem_of_getElem? (i := 7) rfl)) (fun _ h9 => h9) rfl dX8_laysFluxes_101 ?_
                  refine lv_iload_n hx hb dX8_laysFluxes_104 rfl (lv_at hl 4 rfl) ?_
                  refine hz_iald (f := vRays) hx hb hK hP 18 0 rfl rfl (Nat.le_of_ble_eq_true rfl) (by omega) dX8_laysFluxes_105 ?_
                  have q14 := hRays k
                  refine hz_imul hx hb dX8_laysFluxes_106 ?_
                  refine hz_callWv (As := [zi (((((vAim k) + (vErr k)) - (vCor k)) + 0) - 1), zi (2 * (vRays k))]) (rest := []) ⟨hx, hb, hml, hown, hts⟩ (c_X8_falls l G y ad _ vThrown vN vC vNow vHaze vCold vHot vPipe vDeg vThaw vTrc vTurb vLeft vLoad vWater vTrips m_11 vBRow vBSum vCell vDirt vAim vErr vCor vBrk vTop vLm vRows vCols vDown vRight vBound vStrain vPrice vFirm vSums vRays f_10 vSom vHad (((((vAim k) + (vErr k)) - (vCor k)) + 0) - 1) (2 * (vRays k)) (by omega)) (cwV 2 hts gX8_laysFluxes_X8_falls rfl rfl rfl (by decide +kernel) ⟨Nat.le_of_ble_eq_true rfl, Nat.le_of_ble_eq_true rfl⟩) hP hK hD hS hA 0 9 rfl rfl rfl rfl hl.1 rfl (Nat.le_of_ble_eq_true rfl) dX8_laysFluxes_107 ⟨Nat.zero_le _, Nat.zero_le _⟩ (fun _ => rfl) (fun u H locs hu hP hD hS => ?_)
                  obtain ⟨f_15, m_16⟩ := u
                  have p17 : ∀ q : Int, 0 ≤ q → q ≤ 5 → f_15 q = f_10 q + (if q = (((((vAim k) + (vErr k)) - (vCor k)) + 0) - 1) then (2 * (vRays k)) else 0) := hu.1
                  have p18 : m_16 = m_11 + (if 0 ≤ (((((vAim k) + (vErr k)) - (vCor k)) + 0) - 1) ∧ (((((vAim k) + (vErr k)) - (vCor k)) + 0) - 1) ≤ 5 then 0 else (2 * (vRays k))) := hu.2
                  have hP : va_P G vwCl (mW ad y vThrown vN vC vNow vHaze vCold vHot vPipe vDeg vThaw vTrc vTurb vLeft vLoad vWater vTrips m_16 vBRow vBSum vCell vDirt vAim vErr vCor vBrk vTop vLm vRows vCols vDown vRight vBound vStrain vPrice vFirm vSums vRays f_15 vSom vHad) H := hP
                  have hD : va_D A (mW ad y vThrown vN vC vNow vHaze vCold vHot vPipe vDeg vThaw vTrc vTurb vLeft vLoad vWater vTrips m_16 vBRow vBSum vCell vDirt vAim vErr vCor vBrk vTop vLm vRows vCols vDown vRight vBound vStrain vPrice vFirm vSums vRays f_15 vSom vHad) := hD
                  refine lv_aload_n hx hb dX8_laysFluxes_110 rfl (lv_at hl 1 rfl) ?_
                  refine lv_iload hx hb dX8_laysFluxes_111 (lv_at hl 0 rfl) ?_
                  refine hz_iconst hx hb dX8_laysFluxes_113 ?_
                  refine hz_iadd hx hb dX8_laysFluxes_114 ?_
                  refine hz_iconst hx hb dX8_laysFluxes_115 ?_
                  refine lv_aload_n hx hb dX8_laysFluxes_116 rfl (lv_at hl 1 rfl) ?_
                  refine va_get (D := G) (ci := 9) (v := .ref (ad 18)) (C := RX8) (T := TX8) (N := 40) hx hb hts hinwsX80 hown hK hP 0 rfl rfl 33 (by decide) (hts (.fieldLink RX8 67 "HeliokeepModel" "rays" "[I") (List.mem_of_getElem? (i := 7) rfl)) (fun _ h9 => h9) rfl dX8_laysFluxes_117 ?_
                  refine lv_iload_n hx hb dX8_laysFluxes_120 rfl (lv_at hl 4 rfl) ?_
                  refine hz_iald (f := vRays) hx hb hK hP 18 0 rfl rfl (Nat.le_of_ble_eq_true rfl) (by omega) dX8_laysFluxes_121 ?_
                  have q19 := hRays k
                  refine hz_imul hx hb dX8_laysFluxes_122 ?_
                  refine hz_callWv (As := [zi (((((vAim k) + (vErr k)) - (vCor k)) + 0) + 1), zi (2 * (vRays k))]) (rest := []) ⟨hx, hb, hml, hown, hts⟩ (c_X8_falls l G y ad _ vThrown vN vC vNow vHaze vCold vHot vPipe vDeg vThaw vTrc vTurb vLeft vLoad vWater vTrips m_16 vBRow vBSum vCell vDirt vAim vErr vCor vBrk vTop vLm vRows vCols vDown vRight vBound vStrain vPrice vFirm vSums vRays f_15 vSom vHad (((((vAim k) + (vErr k)) - (vCor k)) + 0) + 1) (2 * (vRays k)) (by omega)) (cwV 2 hts gX8_laysFluxes_X8_falls rfl rfl rfl (by decide +kernel) ⟨Nat.le_of_ble_eq_true rfl, Nat.le_of_ble_eq_true rfl⟩) hP hK hD hS hA 0 9 rfl rfl rfl rfl hl.1 rfl (Nat.le_of_ble_eq_true rfl) dX8_laysFluxes_123 ⟨Nat.zero_le _, Nat.zero_le _⟩ (fun _ => rfl) (fun u H locs hu hP hD hS => ?_)
                  obtain ⟨f_20, m_21⟩ := u
                  have p22 : ∀ q : Int, 0 ≤ q → q ≤ 5 → f_20 q = f_15 q + (if q = (((((vAim k) + (vErr k)) - (vCor k)) + 0) + 1) then (2 * (vRays k)) else 0) := hu.1
                  have p23 : m_21 = m_16 + (if 0 ≤ (((((vAim k) + (vErr k)) - (vCor k)) + 0) + 1) ∧ (((((vAim k) + (vErr k)) - (vCor k)) + 0) + 1) ≤ 5 then 0 else (2 * (vRays k))) := hu.2
                  have hP : va_P G vwCl (mW ad y vThrown vN vC vNow vHaze vCold vHot vPipe vDeg vThaw vTrc vTurb vLeft vLoad vWater vTrips m_21 vBRow vBSum vCell vDirt vAim vErr vCor vBrk vTop vLm vRows vCols vDown vRight vBound vStrain vPrice vFirm vSums vRays f_20 vSom vHad) H := hP
                  have hD : va_D A (mW ad y vThrown vN vC vNow vHaze vCold vHot vPipe vDeg vThaw vTrc vTurb vLeft vLoad vWater vTrips m_21 vBRow vBSum vCell vDirt vAim vErr vCor vBrk vTop vLm vRows vCols vDown vRight vBound vStrain vPrice vFirm vSums vRays f_20 vSom vHad) := hD
                  refine hz_iinc (v := (k + 1)) (lv' := [(3, zi (k + 1)), (4, zi ((((vAim k) + (vErr k)) - (vCor k)) + 0)), (0, .ref (ad 0)), (1, zi other), (2, zi bb)]) hx hb dX8_laysFluxes_126 hl (k := 4) rfl (by omega) (by decide) rfl (fun ls hl => ?_)
                  refine lv_goto (tgt := 28) hx hb dX8_laysFluxes_129 (by decide) ?_
                  exact ih28 (k + 1) f_20 m_21 _ _ (by omega) (by
            intro q h0 h1
            rw [smZ_s (by omega), p22 q h0 h1, p17 q h0 h1, p12 q h0 h1, h_f28 q h0 h1]
            rw [show ctZ vAim vErr vCor vRays other bb q k = raZ (plZ vAim vErr vCor other bb k) (vRays k) q from by unfold ctZ; exact if_neg (by omega)]
            unfold raZ plZ
            omega) (by
            rw [smZ_s (by omega), p23, p18, p13, h_m28]
            rw [show mtZ vAim vErr vCor vRays other bb k = rmZ (plZ vAim vErr vCor other bb k) (vRays k) from by unfold mtZ; exact if_neg (by omega)]
            unfold rmZ plZ
            omega) (by omega) hP hD hS ls (lv_sub hl [2, 3, 4, 0] rfl)
                · refine lv_iload_n hx hb dX8_laysFluxes_71 rfl (lv_at hl 2 rfl) ?_
                  refine lv_goto (tgt := 76) hx hb dX8_laysFluxes_72 (by decide) ?_
                  refine hz_iadd hx hb dX8_laysFluxes_76 ?_
                  refine lv_istore (lv' := [(4, zi ((((vAim k) + (vErr k)) - (vCor k)) + bb)), (0, .ref (ad 0)), (1, zi other), (2, zi bb), (3, zi k)]) hx hb dX8_laysFluxes_77 hl (by decide) rfl (fun ls hl => ?_)
                  refine lv_aload_n hx hb dX8_laysFluxes_79 rfl (lv_at hl 1 rfl) ?_
                  refine lv_iload hx hb dX8_laysFluxes_80 (lv_at hl 0 rfl) ?_
                  refine hz_bipush hx hb dX8_laysFluxes_82 (by decide) ?_
                  refine lv_aload_n hx hb dX8_laysFluxes_84 rfl (lv_at hl 1 rfl) ?_
                  refine va_get (D := G) (ci := 9) (v := .ref (ad 18)) (C := RX8) (T := TX8) (N := 40) hx hb hts hinwsX80 hown hK hP 0 rfl rfl 33 (by decide) (hts (.fieldLink RX8 67 "HeliokeepModel" "rays" "[I") (List.mem_of_getElem? (i := 7) rfl)) (fun _ h9 => h9) rfl dX8_laysFluxes_85 ?_
                  refine lv_iload_n hx hb dX8_laysFluxes_88 rfl (lv_at hl 4 rfl) ?_
                  refine hz_iald (f := vRays) hx hb hK hP 18 0 rfl rfl (Nat.le_of_ble_eq_true rfl) (by omega) dX8_laysFluxes_89 ?_
                  have q24 := hRays k
                  refine hz_imul hx hb dX8_laysFluxes_90 ?_
                  refine hz_callWv (As := [zi ((((vAim k) + (vErr k)) - (vCor k)) + bb), zi (6 * (vRays k))]) (rest := []) ⟨hx, hb, hml, hown, hts⟩ (c_X8_falls l G y ad _ vThrown vN vC vNow vHaze vCold vHot vPipe vDeg vThaw vTrc vTurb vLeft vLoad vWater vTrips mi vBRow vBSum vCell vDirt vAim vErr vCor vBrk vTop vLm vRows vCols vDown vRight vBound vStrain vPrice vFirm vSums vRays f vSom vHad ((((vAim k) + (vErr k)) - (vCor k)) + bb) (6 * (vRays k)) (by omega)) (cwV 2 hts gX8_laysFluxes_X8_falls rfl rfl rfl (by decide +kernel) ⟨Nat.le_of_ble_eq_true rfl, Nat.le_of_ble_eq_true rfl⟩) hP hK hD hS hA 0 9 rfl rfl rfl rfl hl.1 rfl (Nat.le_of_ble_eq_true rfl) dX8_laysFluxes_91 ⟨Nat.zero_le _, Nat.zero_le _⟩ (fun _ => rfl) (fun u H locs hu hP hD hS => ?_)
                  obtain ⟨f_25, m_26⟩ := u
                  have p27 : ∀ q : Int, 0 ≤ q → q ≤ 5 → f_25 q = f q + (if q = ((((vAim k) + (vErr k)) - (vCor k)) + bb) then (6 * (vRays k)) else 0) := hu.1
                  have p28 : m_26 = mi + (if 0 ≤ ((((vAim k) + (vErr k)) - (vCor k)) + bb) ∧ ((((vAim k) + (vErr k)) - (vCor k)) + bb) ≤ 5 then 0 else (6 * (vRays k))) := hu.2
                  have hP : va_P G vwCl (mW ad y vThrown vN vC vNow vHaze vCold vHot vPipe vDeg vThaw vTrc vTurb vLeft vLoad vWater vTrips m_26 vBRow vBSum vCell vDirt vAim vErr vCor vBrk vTop vLm vRows vCols vDown vRight vBound vStrain vPrice vFirm vSums vRays f_25 vSom vHad) H := hP
                  have hD : va_D A (mW ad y vThrown vN vC vNow vHaze vCold vHot vPipe vDeg vThaw vTrc vTurb vLeft vLoad vWater vTrips m_26 vBRow vBSum vCell vDirt vAim vErr vCor vBrk vTop vLm vRows vCols vDown vRight vBound vStrain vPrice vFirm vSums vRays f_25 vSom vHad) := hD
                  refine lv_aload_n hx hb dX8_laysFluxes_94 rfl (lv_at hl 1 rfl) ?_
                  refine lv_iload hx hb dX8_laysFluxes_95 (lv_at hl 0 rfl) ?_
                  refine hz_iconst hx hb dX8_laysFluxes_97 ?_
                  refine hz_isub hx hb dX8_laysFluxes_98 ?_
                  refine hz_iconst hx hb dX8_laysFluxes_99 ?_
                  refine lv_aload_n hx hb dX8_laysFluxes_100 rfl (lv_at hl 1 rfl) ?_
                  refine va_get (D := G) (ci := 9) (v := .ref (ad 18)) (C := RX8) (T := TX8) (N := 40) hx hb hts hinwsX80 hown hK hP 0 rfl rfl 33 (by decide) (hts (.fieldLink RX8 67 "HeliokeepModel" "rays" "[I") (List.mem_of_getElem? (i := 7) rfl)) (fun _ h9 => h9) rfl dX8_laysFluxes_101 ?_
                  refine lv_iload_n hx hb dX8_laysFluxes_104 rfl (lv_at hl 4 rfl) ?_
                  refine hz_iald (f := vRays) hx hb hK hP 18 0 rfl rfl (Nat.le_of_ble_eq_true rfl) (by omega) dX8_laysFluxes_105 ?_
                  have q29 := hRays k
                  refine hz_imul hx hb dX8_laysFluxes_106 ?_
                  refine hz_callWv (As := [zi (((((vAim k) + (vErr k)) - (vCor k)) + bb) - 1), zi (2 * (vRays k))]) (rest := []) ⟨hx, hb, hml, hown, hts⟩ (c_X8_falls l G y ad _ vThrown vN vC vNow vHaze vCold vHot vPipe vDeg vThaw vTrc vTurb vLeft vLoad vWater vTrips m_26 vBRow vBSum vCell vDirt vAim vErr vCor vBrk vTop vLm vRows vCols vDown vRight vBound vStrain vPrice vFirm vSums vRays f_25 vSom vHad (((((vAim k) + (vErr k)) - (vCor k)) + bb) - 1) (2 * (vRays k)) (by omega)) (cwV 2 hts gX8_laysFluxes_X8_falls rfl rfl rfl (by decide +kernel) ⟨Nat.le_of_ble_eq_true rfl, Nat.le_of_ble_eq_true rfl⟩) hP hK hD hS hA 0 9 rfl rfl rfl rfl hl.1 rfl (Nat.le_of_ble_eq_true rfl) dX8_laysFluxes_107 ⟨Nat.zero_le _, Nat.zero_le _⟩ (fun _ => rfl) (fun u H locs hu hP hD hS => ?_)
                  obtain ⟨f_30, m_31⟩ := u
                  have p32 : ∀ q : Int, 0 ≤ q → q ≤ 5 → f_30 q = f_25 q + (if q = (((((vAim k) + (vErr k)) - (vCor k)) + bb) - 1) then (2 * (vRays k)) else 0) := hu.1
                  have p33 : m_31 = m_26 + (if 0 ≤ (((((vAim k) + (vErr k)) - (vCor k)) + bb) - 1) ∧ (((((vAim k) + (vErr k)) - (vCor k)) + bb) - 1) ≤ 5 then 0 else (2 * (vRays k))) := hu.2
                  have hP : va_P G vwCl (mW ad y vThrown vN vC vNow vHaze vCold vHot vPipe vDeg vThaw vTrc vTurb vLeft vLoad vWater vTrips m_31 vBRow vBSum vCell vDirt vAim vErr vCor vBrk vTop vLm vRows vCols vDown vRight vBound vStrain vPrice vFirm vSums vRays f_30 vSom vHad) H := hP
                  have hD : va_D A (mW ad y vThrown vN vC vNow vHaze vCold vHot vPipe vDeg vThaw vTrc vTurb vLeft vLoad vWater vTrips m_31 vBRow vBSum vCell vDirt vAim vErr vCor vBrk vTop vLm vRows vCols vDown vRight vBound vStrain vPrice vFirm vSums vRays f_30 vSom vHad) := hD
                  refine lv_aload_n hx hb dX8_laysFluxes_110 rfl (lv_at hl 1 rfl) ?_
                  refine lv_iload hx hb dX8_laysFluxes_111 (lv_at hl 0 rfl) ?_
                  refine hz_iconst hx hb dX8_laysFluxes_113 ?_
                  refine hz_iadd hx hb dX8_laysFluxes_114 ?_
                  refine hz_iconst hx hb dX8_laysFluxes_115 ?_
                  refine lv_aload_n hx hb dX8_laysFluxes_116 rfl (lv_at hl 1 rfl) ?_
                  refine va_get (D := G) (ci := 9) (v := .ref (ad 18)) (C := RX8) (T := TX8) (N := 40) hx hb hts hinwsX80 hown hK hP 0 rfl rfl 33 (by decide) (hts (.fieldLink RX8 67 "HeliokeepModel" "rays" "[I") (List.mem_of_getElem? (i := 7) rfl)) (fun _ h9 => h9) rfl dX8_laysFluxes_117 ?_
                  refine lv_iload_n hx hb dX8_laysFluxes_120 rfl (lv_at hl 4 rfl) ?_
                  refine hz_iald (f := vRays) hx hb hK hP 18 0 rfl rfl (Nat.le_of_ble_eq_true rfl) (by omega) dX8_laysFluxes_121 ?_
                  have q34 := hRays k
                  refine hz_imul hx hb dX8_laysFluxes_122 ?_
                  refine hz_callWv (As := [zi (((((vAim k) + (vErr k)) - (vCor k)) + bb) + 1), zi (2 * (vRays k))]) (rest := []) ⟨hx, hb, hml, hown, hts⟩ (c_X8_falls l G y ad _ vThrown vN vC vNow vHaze vCold vHot vPipe vDeg vThaw vTrc vTurb vLeft vLoad vWater vTrips m_31 vBRow vBSum vCell vDirt vAim vErr vCor vBrk vTop vLm vRows vCols vDown vRight vBound vStrain vPrice vFirm vSums vRays f_30 vSom vHad (((((vAim k) + (vErr k)) - (vCor k)) + bb) + 1) (2 * (vRays k)) (by omega)) (cwV 2 hts gX8_laysFluxes_X8_falls rfl rfl rfl (by decide +kernel) ⟨Nat.le_of_ble_eq_true rfl, Nat.le_of_ble_eq_true rfl⟩) hP hK hD hS hA 0 9 rfl rfl rfl rfl hl.1 rfl (Nat.le_of_ble_eq_true rfl) dX8_laysFluxes_123 ⟨Nat.zero_le _, Nat.zero_le _⟩ (fun _ => rfl) (fun u H locs hu hP hD hS => ?_)
                  obtain ⟨f_35, m_36⟩ := u
                  have p37 : ∀ q : Int, 0 ≤ q → q ≤ 5 → f_35 q = f_30 q + (if q = (((((vAim k) + (vErr k)) - (vCor k)) + bb) + 1) then (2 * (vRays k)) else 0) := hu.1
                  have p38 : m_36 = m_31 + (if 0 ≤ (((((vAim k) + (vErr k)) - (vCor k)) + bb) + 1) ∧ (((((vAim k) + (vErr k)) - (vCor k)) + bb) + 1) ≤ 5 then 0 else (2 * (vRays k))) := hu.2
                  have hP : va_P G vwCl (mW ad y vThrown vN vC vNow vHaze vCold vHot vPipe vDeg vThaw vTrc vTurb vLeft vLoad vWater vTrips m_36 vBRow vBSum vCell vDirt vAim vErr vCor vBrk vTop vLm vRows vCols vDown vRight vBound vStrain vPrice vFirm vSums vRays f_35 vSom vHad) H := hP
                  have hD : va_D A (mW ad y vThrown vN vC vNow vHaze vCold vHot vPipe vDeg vThaw vTrc vTurb vLeft vLoad vWater vTrips m_36 vBRow vBSum vCell vDirt vAim vErr vCor vBrk vTop vLm vRows vCols vDown vRight vBound vStrain vPrice vFirm vSums vRays f_35 vSom vHad) := hD
                  refine hz_iinc (v := (k + 1)) (lv' := [(3, zi (k + 1)), (4, zi ((((vAim k) + (vErr k)) - (vCor k)) + bb)), (0, .ref (ad 0)), (1, zi other), (2, zi bb)]) hx hb dX8_laysFluxes_126 hl (k := 4) rfl (by omega) (by decide) rfl (fun ls hl => ?_)
                  refine lv_goto (tgt := 28) hx hb dX8_laysFluxes_129 (by decide) ?_
                  exact ih28 (k + 1) f_35 m_36 _ _ (by omega) (by
            intro q h0 h1
            rw [smZ_s (by omega), p37 q h0 h1, p32 q h0 h1, p27 q h0 h1, h_f28 q h0 h1]
            rw [show ctZ vAim vErr vCor vRays other bb q k = raZ (plZ vAim vErr vCor other bb k) (vRays k) q from by unfold ctZ; exact if_neg (by omega)]
            unfold raZ plZ
            omega) (by
            rw [smZ_s (by omega), p38, p33, p28, h_m28]
            rw [show mtZ vAim vErr vCor vRays other bb k = rmZ (plZ vAim vErr vCor other bb k) (vRays k) from by unfold mtZ; exact if_neg (by omega)]
            unfold rmZ plZ
            omega) (by omega) hP hD hS ls (lv_sub hl [2, 3, 4, 0] rfl)
        exact L28 _ 0 f 0 _ _ (by omega) (by intro q h0 h1; rw [h_f7 q h0 (by omega)]; rfl) (rfl) (Nat.lt_succ_self _) hP hD hS ls (lv_sub hl [1, 2, 3, 0] rfl)
      · refine lv_aload_n hx hb dX8_laysFluxes_13 rfl (lv_at hl 0 rfl) ?_
        refine va_get (D := G) (ci := 9) (v := .ref (ad 19)) (C := RX8) (T := TX8) (N := 40) hx hb hts hinwsX80 hown hK hP 0 rfl rfl 34 (by decide) (hts (.fieldLink RX8 70 "HeliokeepModel" "falls" "[I") (List.mem_of_getElem? (i := 2) rfl)) (fun _ h9 => h9) rfl dX8_laysFluxes_14 ?_
        refine lv_iload_n hx hb dX8_laysFluxes_17 rfl (lv_at hl 3 rfl) ?_
        refine hz_iconst hx hb dX8_laysFluxes_18 ?_
        refine hz_iast (f := f) hx hb hK hP hD hS 19 0 rfl rfl (Nat.le_of_ble_eq_true rfl) (by omega) dX8_laysFluxes_19 (fun H locs hP hD hS => ?_)
        have hP : va_P G vwCl (mW ad y vThrown vN vC vNow vHaze vCold vHot vPipe vDeg vThaw vTrc vTurb vLeft vLoad vWater vTrips 0 vBRow vBSum vCell vDirt vAim vErr vCor vBrk vTop vLm vRows vCols vDown vRight vBound vStrain vPrice vFirm vSums vRays (upZ f k 0) vSom vHad) H := hP
        have hD : va_D A (mW ad y vThrown vN vC vNow vHaze vCold vHot vPipe vDeg vThaw vTrc vTurb vLeft vLoad vWater vTrips 0 vBRow vBSum vCell vDirt vAim vErr vCor vBrk vTop vLm vRows vCols vDown vRight vBound vStrain vPrice vFirm vSums vRays (upZ f k 0) vSom vHad) := hD
        refine hz_iinc (v := (k + 1)) (lv' := [(3, zi (k + 1)), (0, .ref (ad 0)), (1, zi other), (2, zi bb)]) hx hb dX8_laysFluxes_20 hl (k := 3) rfl (by omega) (by decide) rfl (fun ls hl => ?_)
        refine lv_goto (tgt := 7) hx hb dX8_laysFluxes_23 (by decide) ?_
        exact ih7 (k + 1) (upZ f k 0) _ _ (by omega) (by
          intro q h1 h2
          by_cases e : q = k
          · rw [upZ_s e]
          · rw [upZ_n e]; exact h_f7 q h1 (by omega)) (by omega) hP hD hS ls (lv_sub hl [1, 2, 3, 0] rfl)
  exact L7 _ 0 vFalls _ _ (by omega) (fun q h1 h2 => absurd h2 (by omega)) (Nat.lt_succ_self _) hP hD hS ls (lv_sub hl [1, 2, 3, 0] rfl)
abbrev Q_X8_isTripped (G : va_G) (y : Nat → ClassId) (ad : Nat → Nat) (vThrown vN vC vNow vHaze vCold vHot vPipe vDeg vThaw vTrc vTurb vLeft vLoad vWater vTrips vMissed vBRow vBSum : Int) (vCell vDirt vAim vErr vCor vBrk vTop vLm vRows vCols vDown vRight vBound vStrain vPrice vFirm vSums vRays vFalls vSom vHad : Int → Int)  (A : Nat → Prop) : Array Value → State → Outcome → State → Prop := va_Qi (fun (r : Int32) (u : Unit) => r = zI (trN vFalls vBound 6) ∧ True) (fun (u : Unit) t => va_P G vwCl (mW ad y vThrown vN vC vNow vHaze vCold vHot vPipe vDeg vThaw vTrc vTurb vLeft vLoad vWater vTrips vMissed vBRow vBSum vCell vDirt vAim vErr vCor vBrk vTop vLm vRows vCols vDown vRight vBound vStrain vPrice vFirm vSums vRays vFalls vSom vHad) t.heap) A
set_option maxHeartbeats 4000000 in
set_option maxRecDepth 100000 in
theorem c_X8_isTripped (l : Launch) (G : va_G) (y : Nat → ClassId) (ad : Nat → Nat) (sz : Nat) (vThrown vN vC vNow vHaze vCold vHot vPipe vDeg vThaw vTrc vTurb vLeft vLoad vWater vTrips vMissed vBRow vBSum : Int) (vCell vDirt vAim vErr vCor vBrk vTop vLm vRows vCols vDown vRight vBound vStrain vPrice vFirm vSums vRays vFalls vSom vHad : Int → Int)  (hFalls : ∀ k : Int, 0 ≤ k → k ≤ 5 → 0 ≤ vFalls k ∧ vFalls k ≤ 11400) (hBound : ∀ k : Int, 0 ≤ vBound k ∧ vBound k ≤ 9999) : Met l yX8_isTripped wsX8_isTripped ({ frames := 0, cells := 0, slots := 0, locals := 0 }) (va_Pc [.ref (ad 0)] (HPre G (tyL y) (mW ad y vThrown vN vC vNow vHaze vCold vHot vPipe vDeg vThaw vTrc vTurb vLeft vLoad vWater vTrips vMissed vBRow vBSum vCell vDirt vAim vErr vCor vBrk vTop vLm vRows vCols vDown vRight vBound vStrain vPrice vFirm vSums vRays vFalls vSom vHad) sz)) (Q_X8_isTripped G y ad vThrown vN vC vNow vHaze vCold vHot vPipe vDeg vThaw vTrc vTurb vLeft vLoad vWater vTrips vMissed vBRow vBSum vCell vDirt vAim vErr vCor vBrk vTop vLm vRows vCols vDown vRight vBound vStrain vPrice vFirm vSums vRays vFalls vSom vHad (va_A (mW ad y vThrown vN vC vNow vHaze vCold vHot vPipe vDeg vThaw vTrc vTurb vLeft vLoad vWater vTrips vMissed vBRow vBSum vCell vDirt vAim vErr vCor vBrk vTop vLm vRows vCols vDown vRight vBound vStrain vPrice vFirm vSums vRays vFalls vSom vHad) sz)) 0 0 (va_A (mW ad y vThrown vN vC vNow vHaze vCold vHot vPipe vDeg vThaw vTrc vTurb vLeft vLoad vWater vTrips vMissed vBRow vBSum vCell vDirt vAim vErr vCor vBrk vTop vLm vRows vCols vDown vRight vBound vStrain vPrice vFirm vSums vRays vFalls vSom vHad) sz) := by
  refine hz_ofW (Qf := Q_X8_isTripped G y ad vThrown vN vC vNow vHaze vCold vHot vPipe vDeg vThaw vTrc vTurb vLeft vLoad vWater vTrips vMissed vBRow vBSum vCell vDirt vAim vErr vCor vBrk vTop vLm vRows vCols vDown vRight vBound vStrain vPrice vFirm vSums vRays vFalls vSom vHad) (cc := cX8_isTripped) (maxL := 3) (ret := (some .boolean)) (by decide) rfl (Nat.le_of_ble_eq_true rfl) ?_
  intro p e s m below meth c A ls hx hb hr hts hown hin hlocks hml hP hK hA hD hS hl
  have hown : s.vm.findClass RX8 = some m.cls := hown
  have hl : lv_has ls 3 [(0, .ref (ad 0))] := hl
  have hinwsX80 : ∀ w ∈ wsX80, w ∈ wsX8_isTripped := fun _ h => List.mem_cons_of_mem _ (List.mem_append_right _ (h))
  refine hz_iconst hx hb dX8_isTripped_0 ?_
  refine lv_istore_n (lv' := [(1, zi 0), (0, .ref (ad 0))]) hx hb dX8_isTripped_1 rfl hl (by decide) rfl (fun ls hl => ?_)
  refine hz_iconst hx hb dX8_isTripped_2 ?_
  refine lv_istore_n (lv' := [(2, zi 0), (1, zi 0), (0, .ref (ad 0))]) hx hb dX8_isTripped_3 rfl hl (by decide) rfl (fun ls hl => ?_)
  have L4 : ∀ (n : Nat) (tr : Int) (k : Int) (H : Heap) (locs : List Loc), (0 ≤ k ∧ k ≤ 6) → (tr = 0 ∨ tr = 1) → (tr = trN vFalls vBound k) → ((6 - k).toNat) < n → va_P G vwCl (mW ad y vThrown vN vC vNow vHaze vCold vHot vPipe vDeg vThaw vTrc vTurb vLeft vLoad vWater vTrips vMissed vBRow vBSum vCell vDirt vAim vErr vCor vBrk vTop vLm vRows vCols vDown vRight vBound vStrain vPrice vFirm vSums vRays vFalls vSom vHad) H → va_D A (mW ad y vThrown vN vC vNow vHaze vCold vHot vPipe vDeg vThaw vTrc vTurb vLeft vLoad vWater vTrips vMissed vBRow vBSum vCell vDirt vAim vErr vCor vBrk vTop vLm vRows vCols vDown vRight vBound vStrain vPrice vFirm vSums vRays vFalls vSom vHad) → va_S A s.heap H locs → ∀ ls : Array Slot, lv_has ls 3 [(0, .ref (ad 0)), (1, zi tr), (2, zi k)] → W p l e (headSpec wsX8_isTripped ({ frames := 0, cells := 0, slots := 0, locals := 0 })).room s m ([.ref (ad 0)] : List Value).toArray below meth c H locs 0 0 (MQ below (Q_X8_isTripped G y ad vThrown vN vC vNow vHaze vCold vHot vPipe vDeg vThaw vTrc vTurb vLeft vLoad vWater vTrips vMissed vBRow vBSum vCell vDirt vAim vErr vCor vBrk vTop vLm vRows vCols vDown vRight vBound vStrain vPrice vFirm vSums vRays vFalls vSom vHad A) ([.ref (ad 0)] : List Value).toArray s 0 0 A) (F0 m 4 ls []) := by
    intro n
    induction n with
    | zero => exact fun tr k H locs h_k4 h_014 h_c4 hm => absurd hm (Nat.not_lt_zero _)
    | succ n ih4 =>
      intro tr k H locs h_k4 h_014 h_c4 hm4 hP hD hS ls hl
      refine lv_iload_n hx hb dX8_isTripped_4 rfl (lv_at hl 2 rfl) ?_
      refine hz_bipush hx hb dX8_isTripped_5 (by decide) ?_
      refine hz_icmp_ge (tgt := 41) hx hb dX8_isTripped_7 (by decide) (by omega) (fun c1 => ?_) (fun c1 => ?_)
      · refine lv_iload_n hx hb dX8_isTripped_41 rfl (lv_at hl 1 rfl) ?_
        exact W.zret (ty := .boolean) (v := zI tr) hx hb hr (zI_nb (by omega)) (fun t ht hW => ⟨⟨zI tr, (), rfl, ⟨congrArg zI (by rw [h_c4]; exact congrArg (trN vFalls vBound) (by omega)), trivial⟩, hz_at hP ht⟩, hS.F ht⟩) hS.2.2 dX8_isTripped_42
      · have h01 : trN vFalls vBound k = 0 ∨ trN vFalls vBound k = 1 := isZ_01 _
        have qf := hFalls k (by omega) (by omega)
        refine lv_iload_n hx hb dX8_isTripped_10 rfl (lv_at hl 1 rfl) ?_
        refine hz_if_ne (tgt := 29) hx hb dX8_isTripped_11 (by decide) (by omega) (fun c2 => ?_) (fun c2 => ?_)
        · refine hz_iconst hx hb dX8_isTripped_29 ?_
          refine lv_goto (tgt := 34) hx hb dX8_isTripped_30 (by decide) ?_
          refine lv_istore_n (lv' := [(1, zi 1), (0, .ref (ad 0)), (2, zi k)]) hx hb dX8_isTripped_34 rfl hl (by decide) rfl (fun ls hl => ?_)
          refine hz_iinc (v := (k + 1)) (lv' := [(2, zi (k + 1)), (1, zi 1), (0, .ref (ad 0))]) hx hb dX8_isTripped_35 hl (k := 2) rfl (by omega) (by decide) rfl (fun ls hl => ?_)
          refine lv_goto (tgt := 4) hx hb dX8_isTripped_38 (by decide) ?_
          exact ih4 1 (k + 1) _ _ (by omega) (by omega) (by first | exact (trN_y (Or.inl (by omega)) (by omega)).symm | exact (trN_y (Or.inr (by omega)) (by omega)).symm | exact (trN_n (by omega) (by omega)).symm) (by omega) hP hD hS ls (lv_sub hl [2, 1, 0] rfl)
        · refine lv_aload_n hx hb dX8_isTripped_14 rfl (lv_at hl 0 rfl) ?_
          refine va_get (D := G) (ci := 9) (v := .ref (ad 19)) (C := RX8) (T := TX8) (N := 40) hx hb hts hinwsX80 hown hK hP 0 rfl rfl 34 (by decide) (hts (.fieldLink RX8 70 "HeliokeepModel" "falls" "[I") (List.mem_of_getElem? (i := 1) rfl)) (fun _ h9 => h9) rfl dX8_isTripped_15 ?_
          refine lv_iload_n hx hb dX8_isTripped_18 rfl (lv_at hl 2 rfl) ?_
          refine hz_iald (f := vFalls) hx hb hK hP 19 0 rfl rfl (Nat.le_of_ble_eq_true rfl) (by omega) dX8_isTripped_19 ?_
          have q3 := hFalls k
          refine lv_aload_n hx hb dX8_isTripped_20 rfl (lv_at hl 0 rfl) ?_
          refine va_get (D := G) (ci := 9) (v := .ref (ad 13)) (C := RX8) (T := TX8) (N := 40) hx hb hts hinwsX80 hown hK hP 0 rfl rfl 15 (by decide) (hts (.fieldLink RX8 47 "HeliokeepModel" "bound" "[I") (List.mem_of_getElem? (i := 2) rfl)) (fun _ h9 => h9) rfl dX8_isTripped_21 ?_
          refine lv_iload_n hx hb dX8_isTripped_24 rfl (lv_at hl 2 rfl) ?_
          refine hz_iald (f := vBound) hx hb hK hP 13 0 rfl rfl (Nat.le_of_ble_eq_true rfl) (by omega) dX8_isTripped_25 ?_
          have q4 := hBound k
          refine hz_icmp_le (tgt := 33) hx hb dX8_isTripped_26 (by decide) (by omega) (fun c5 => ?_) (fun c5 => ?_)
          · refine hz_iconst hx hb dX8_isTripped_33 ?_
            refine lv_istore_n (lv' := [(1, zi 0), (0, .ref (ad 0)), (2, zi k)]) hx hb dX8_isTripped_34 rfl hl (by decide) rfl (fun ls hl => ?_)
            refine hz_iinc (v := (k + 1)) (lv' := [(2, zi (k + 1)), (1, zi 0), (0, .ref (ad 0))]) hx hb dX8_isTripped_35 hl (k := 2) rfl (by omega) (by decide) rfl (fun ls hl => ?_)
            refine lv_goto (tgt := 4) hx hb dX8_isTripped_38 (by decide) ?_
            exact ih4 0 (k + 1) _ _ (by omega) (by omega) (by first | exact (trN_y (Or.inl (by omega)) (by omega)).symm | exact (trN_y (Or.inr (by omega)) (by omega)).symm | exact (trN_n (by omega) (by omega)).symm) (by omega) hP hD hS ls (lv_sub hl [2, 1, 0] rfl)
          · refine hz_iconst hx hb dX8_isTripped_29 ?_
            refine lv_goto (tgt := 34) hx hb dX8_isTripped_30 (by decide) ?_
            refine lv_istore_n (lv' := [(1, zi 1), (0, .ref (ad 0)), (2, zi k)]) hx hb dX8_isTripped_34 rfl hl (by decide) rfl (fun ls hl => ?_)
            refine hz_iinc (v := (k + 1)) (lv' := [(2, zi (k + 1)), (1, zi 1), (0, .ref (ad 0))]) hx hb dX8_isTripped_35 hl (k := 2) rfl (by omega) (by decide) rfl (fun ls hl => ?_)
            refine lv_goto (tgt := 4) hx hb dX8_isTripped_38 (by decide) ?_
            exact ih4 1 (k + 1) _ _ (by omega) (by omega) (by first | exact (trN_y (Or.inl (by omega)) (by omega)).symm | exact (trN_y (Or.inr (by omega)) (by omega)).symm | exact (trN_n (by omega) (by omega)).symm) (by omega) hP hD hS ls (lv_sub hl [2, 1, 0] rfl)
  exact L4 _ 0 0 _ _ (by omega) (by omega) (trN_0.symm) (Nat.lt_succ_self _) hP hD hS ls (lv_sub hl [2, 1, 0] rfl)
abbrev Q_X8_allFalls (G : va_G) (y : Nat → ClassId) (ad : Nat → Nat) (vThrown vN vC vNow vHaze vCold vHot vPipe vDeg vThaw vTrc vTurb vLeft vLoad vWater vTrips vMissed vBRow vBSum : Int) (vCell vDirt vAim vErr vCor vBrk vTop vLm vRows vCols vDown vRight vBound vStrain vPrice vFirm vSums vRays vFalls vSom vHad : Int → Int)  (A : Nat → Prop) : Array Value → State → Outcome → State → Prop := va_Qi (fun (r : Int32) (u : Unit) => r = zI (alZ vFalls) ∧ True) (fun (u : Unit) t => va_P G vwCl (mW ad y vThrown vN vC vNow vHaze vCold vHot vPipe vDeg vThaw vTrc vTurb vLeft vLoad vWater vTrips vMissed vBRow vBSum vCell vDirt vAim vErr vCor vBrk vTop vLm vRows vCols vDown vRight vBound vStrain vPrice vFirm vSums vRays vFalls vSom vHad) t.heap) A
set_option maxHeartbeats 4000000 in
set_option maxRecDepth 100000 in
theorem c_X8_allFalls (l : Launch) (G : va_G) (y : Nat → ClassId) (ad : Nat → Nat) (sz : Nat) (vThrown vN vC vNow vHaze vCold vHot vPipe vDeg vThaw vTrc vTurb vLeft vLoad vWater vTrips vMissed vBRow vBSum : Int) (vCell vDirt vAim vErr vCor vBrk vTop vLm vRows vCols vDown vRight vBound vStrain vPrice vFirm vSums vRays vFalls vSom vHad : Int → Int)   : Met l yX8_allFalls wsX8_allFalls ({ frames := 0, cells := 0, slots := 0, locals := 0 }) (va_Pc [.ref (ad 0)] (HPre G (tyL y) (mW ad y vThrown vN vC vNow vHaze vCold vHot vPipe vDeg vThaw vTrc vTurb vLeft vLoad vWater vTrips vMissed vBRow vBSum vCell vDirt vAim vErr vCor vBrk vTop vLm vRows vCols vDown vRight vBound vStrain vPrice vFirm vSums vRays vFalls vSom vHad) sz)) (Q_X8_allFalls G y ad vThrown vN vC vNow vHaze vCold vHot vPipe vDeg vThaw vTrc vTurb vLeft vLoad vWater vTrips vMissed vBRow vBSum vCell vDirt vAim vErr vCor vBrk vTop vLm vRows vCols vDown vRight vBound vStrain vPrice vFirm vSums vRays vFalls vSom vHad (va_A (mW ad y vThrown vN vC vNow vHaze vCold vHot vPipe vDeg vThaw vTrc vTurb vLeft vLoad vWater vTrips vMissed vBRow vBSum vCell vDirt vAim vErr vCor vBrk vTop vLm vRows vCols vDown vRight vBound vStrain vPrice vFirm vSums vRays vFalls vSom vHad) sz)) 0 0 (va_A (mW ad y vThrown vN vC vNow vHaze vCold vHot vPipe vDeg vThaw vTrc vTurb vLeft vLoad vWater vTrips vMissed vBRow vBSum vCell vDirt vAim vErr vCor vBrk vTop vLm vRows vCols vDown vRight vBound vStrain vPrice vFirm vSums vRays vFalls vSom vHad) sz) := by
  refine hz_ofW (Qf := Q_X8_allFalls G y ad vThrown vN vC vNow vHaze vCold vHot vPipe vDeg vThaw vTrc vTurb vLeft vLoad vWater vTrips vMissed vBRow vBSum vCell vDirt vAim vErr vCor vBrk vTop vLm vRows vCols vDown vRight vBound vStrain vPrice vFirm vSums vRays vFalls vSom vHad) (cc := cX8_allFalls) (maxL := 3) (ret := (some .int)) (by decide) rfl (Nat.le_of_ble_eq_true rfl) ?_
  intro p e s m below meth c A ls hx hb hr hts hown hin hlocks hml hP hK hA hD hS hl
  have hown : s.vm.findClass RX8 = some m.cls := hown
  have hl : lv_has ls 3 [(0, .ref (ad 0))] := hl
  have hinwsX80 : ∀ w ∈ wsX80, w ∈ wsX8_allFalls := fun _ h => List.mem_cons_of_mem _ (List.mem_append_right _ (h))
  refine hz_iconst hx hb dX8_allFalls_0 ?_
  refine lv_istore_n (lv' := [(1, zi 0), (0, .ref (ad 0))]) hx hb dX8_allFalls_1 rfl hl (by decide) rfl (fun ls hl => ?_)
  refine hz_iconst hx hb dX8_allFalls_2 ?_
  refine lv_istore_n (lv' := [(2, zi 0), (1, zi 0), (0, .ref (ad 0))]) hx hb dX8_allFalls_3 rfl hl (by decide) rfl (fun ls hl => ?_)
  have L4 : ∀ (n : Nat) (su : Int) (k : Int) (H : Heap) (locs : List Loc), (0 ≤ k ∧ k ≤ 6) → (su = smZ vFalls k.toNat) → ((6 - k).toNat) < n → va_P G vwCl (mW ad y vThrown vN vC vNow vHaze vCold vHot vPipe vDeg vThaw vTrc vTurb vLeft vLoad vWater vTrips vMissed vBRow vBSum vCell vDirt vAim vErr vCor vBrk vTop vLm vRows vCols vDown vRight vBound vStrain vPrice vFirm vSums vRays vFalls vSom vHad) H → va_D A (mW ad y vThrown vN vC vNow vHaze vCold vHot vPipe vDeg vThaw vTrc vTurb vLeft vLoad vWater vTrips vMissed vBRow vBSum vCell vDirt vAim vErr vCor vBrk vTop vLm vRows vCols vDown vRight vBound vStrain vPrice vFirm vSums vRays vFalls vSom vHad) → va_S A s.heap H locs → ∀ ls : Array Slot, lv_has ls 3 [(0, .ref (ad 0)), (1, zi su), (2, zi k)] → W p l e (headSpec wsX8_allFalls ({ frames := 0, cells := 0, slots := 0, locals := 0 })).room s m ([.ref (ad 0)] : List Value).toArray below meth c H locs 0 0 (MQ below (Q_X8_allFalls G y ad vThrown vN vC vNow vHaze vCold vHot vPipe vDeg vThaw vTrc vTurb vLeft vLoad vWater vTrips vMissed vBRow vBSum vCell vDirt vAim vErr vCor vBrk vTop vLm vRows vCols vDown vRight vBound vStrain vPrice vFirm vSums vRays vFalls vSom vHad A) ([.ref (ad 0)] : List Value).toArray s 0 0 A) (F0 m 4 ls []) := by
    intro n
    induction n with
    | zero => exact fun su k H locs h_k4 h_c4 hm => absurd hm (Nat.not_lt_zero _)
    | succ n ih4 =>
      intro su k H locs h_k4 h_c4 hm4 hP hD hS ls hl
      refine lv_iload_n hx hb dX8_allFalls_4 rfl (lv_at hl 2 rfl) ?_
      refine hz_bipush hx hb dX8_allFalls_5 (by decide) ?_
      refine hz_icmp_ge (tgt := 25) hx hb dX8_allFalls_7 (by decide) (by omega) (fun c1 => ?_) (fun c1 => ?_)
      · refine lv_iload_n hx hb dX8_allFalls_25 rfl (lv_at hl 1 rfl) ?_
        exact W.iret (v := zI su) hx hb hr (fun t ht hW => ⟨⟨zI su, (), rfl, ⟨congrArg zI (by
          have e : k = 6 := by omega
          rw [h_c4, e]
          rfl), trivial⟩, hz_at hP ht⟩, hS.F ht⟩) hS.2.2 dX8_allFalls_26
      · refine lv_iload_n hx hb dX8_allFalls_10 rfl (lv_at hl 1 rfl) ?_
        refine lv_aload_n hx hb dX8_allFalls_11 rfl (lv_at hl 0 rfl) ?_
        refine va_get (D := G) (ci := 9) (v := .ref (ad 19)) (C := RX8) (T := TX8) (N := 40) hx hb hts hinwsX80 hown hK hP 0 rfl rfl 34 (by decide) (hts (.fieldLink RX8 70 "HeliokeepModel" "falls" "[I") (List.mem_of_getElem? (i := 1) rfl)) (fun _ h9 => h9) rfl dX8_allFalls_12 ?_
        refine lv_iload_n hx hb dX8_allFalls_15 rfl (lv_at hl 2 rfl) ?_
        refine hz_iald (f := vFalls) hx hb hK hP 19 0 rfl rfl (Nat.le_of_ble_eq_true rfl) (by omega) dX8_allFalls_16 ?_
        refine hz_iadd hx hb dX8_allFalls_17 ?_
        refine lv_istore_n (lv' := [(1, zi (su + (vFalls k))), (0, .ref (ad 0)), (2, zi k)]) hx hb dX8_allFalls_18 rfl hl (by decide) rfl (fun ls hl => ?_)
        refine hz_iinc (v := (k + 1)) (lv' := [(2, zi (k + 1)), (1, zi (su + (vFalls k))), (0, .ref (ad 0))]) hx hb dX8_allFalls_19 hl (k := 2) rfl (by omega) (by decide) rfl (fun ls hl => ?_)
        refine lv_goto (tgt := 4) hx hb dX8_allFalls_22 (by decide) ?_
        exact ih4 (su + (vFalls k)) (k + 1) _ _ (by omega) (by rw [smZ_s (by omega), h_c4]) (by omega) hP hD hS ls (lv_sub hl [2, 1, 0] rfl)
  exact L4 _ 0 0 _ _ (by omega) (rfl) (Nat.lt_succ_self _) hP hD hS ls (lv_sub hl [2, 1, 0] rfl)
