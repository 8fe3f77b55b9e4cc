theorem hW_fst {ah : Nat → Nat} {z : LZ} {y : Nat → ClassId} {vN vC : Int} {vNow1 vNow2 : Int} {vHaze1 vHaze2 : Int} {vCold1 vCold2 : Int} {vHot1 vHot2 : Int} {vPipe1 vPipe2 : Int} {vDeg1 vDeg2 : Int} {vThaw1 vThaw2 : Int} {vTrc1 vTrc2 : Int} {vTurb1 vTurb2 : Int} {vLeft1 vLeft2 : Int} {vLoad1 vLoad2 : Int} {vWater1 vWater2 : Int} {vTrips1 vTrips2 : Int} {vMi11 vMi12 : Int} {vMi21 vMi22 : Int} {vSz1 vSz2 : Int} {vBs1 vBs2 : Int} {vCell1 vCell2 : Int → Int} {vDirt1 vDirt2 : Int → Int} {vAim1 vAim2 : Int → Int} {vErr1 vErr2 : Int → Int} {vCor1 vCor2 : Int → Int} {vBrk1 vBrk2 : Int → Int} {vTop1 vTop2 : Int → Int} {vLm1 vLm2 : Int → Int} {vRows1 vRows2 : Int → Int} {vCols1 vCols2 : Int → Int} {vDown1 vDown2 : Int → Int} {vRight1 vRight2 : Int → Int} {vBound1 vBound2 : Int → Int} {vStrain1 vStrain2 : Int → Int} {vPrice1 vPrice2 : Int → Int} {vFirm1 vFirm2 : Int → Int} {vSums1 vSums2 : Int → Int} {vTk1 vTk2 : Int → Int} {vFl11 vFl12 : Int → Int} {vFl21 vFl22 : Int → Int} {vTe1 vTe2 : Int → Int} {vAw1 vAw2 : Int → Int} {vRo1 vRo2 : Int → Int} {vBe1 vBe2 : Int → Int} : (hW ah z y vN vC vNow1 vHaze1 vCold1 vHot1 vPipe1 vDeg1 vThaw1 vTrc1 vTurb1 vLeft1 vLoad1 vWater1 vTrips1 vMi11 vMi21 vSz1 vBs1 vCell1 vDirt1 vAim1 vErr1 vCor1 vBrk1 vTop1 vLm1 vRows1 vCols1 vDown1 vRight1 vBound1 vStrain1 vPrice1 vFirm1 vSums1 vTk1 vFl11 vFl21 vTe1 vAw1 vRo1 vBe1).map Prod.fst = (hW ah z y vN vC vNow2 vHaze2 vCold2 vHot2 vPipe2 vDeg2 vThaw2 vTrc2 vTurb2 vLeft2 vLoad2 vWater2 vTrips2 vMi12 vMi22 vSz2 vBs2 vCell2 vDirt2 vAim2 vErr2 vCor2 vBrk2 vTop2 vLm2 vRows2 vCols2 vDown2 vRight2 vBound2 vStrain2 vPrice2 vFirm2 vSums2 vTk2 vFl12 vFl22 vTe2 vAw2 vRo2 vBe2).map Prod.fst := by
  unfold hW plW mpW cpW
  simp only [List.map_append, List.map_map, List.map_cons, List.map_nil]
  rfl
theorem adZ_cm {f : Int → Int} {i j v w : Int} (h : i ≠ j) : adZ (adZ f i v) j w = adZ (adZ f j w) i v := by
  funext k
  unfold adZ
  by_cases e1 : k = i
  · by_cases e2 : k = j
    · exact absurd (e1.symm.trans e2) h
    · rw [upZ_n e2, upZ_s e1, upZ_s e1, upZ_n h]
  · by_cases e2 : k = j
    · rw [upZ_s e2, upZ_n (fun q => h q.symm), upZ_n e1, upZ_s e2]
    · rw [upZ_n e2, upZ_n e1, upZ_n e1, upZ_n e2]
def dzZ (rest due : Int) : Int := if rest < due then rest else due
theorem mul_99 {u w : Int} (hu : 0 ≤ u ∧ u ≤ 200) (hw : 0 ≤ w ∧ w ≤ 99) : 0 ≤ u * w ∧ u * w ≤ 19800 := by
  have h1 : 0 ≤ u * w := Int.mul_nonneg hu.1 hw.1
  have h2 : u * w ≤ 200 * 99 := Int.mul_le_mul hu.2 hw.2 hw.1 (by omega)
  omega
abbrev Q_X7_trip (G : va_G) (ah : Nat → Nat) (z : LZ) (y : Nat → ClassId) (vN vC vNow vHaze vCold vHot vPipe vDeg vThaw vTrc vTurb vLeft vLoad vWater vTrips vMi1 vMi2 vSz vBs : Int) (vCell vDirt vAim vErr vCor vBrk vTop vLm vRows vCols vDown vRight vBound vStrain vPrice vFirm vSums vTk vFl1 vFl2 vTe vAw vRo vBe : Int → Int)  (A : Nat → Prop) : Array Value → State → Outcome → State → Prop := va_Qv (fun (u : (Int → Int) × (Int → Int)) => (u.1 = snZ vStrain vFl1 vBound 6) ∧ (u.2 = stZ vAim vBrk vN) ∧ (∀ k : Int, -1 ≤ u.2 k ∧ u.2 k ≤ 5)) (fun (u : (Int → Int) × (Int → Int)) t => va_P G vwCl (hW ah z y vN vC vNow vHaze vCold vHot vPipe vDeg vThaw vTrc vTurb vLeft vLoad vWater (vTrips + 1) vMi1 vMi2 vSz vBs vCell vDirt u.2 vErr vCor vBrk vTop vLm vRows vCols vDown vRight vBound u.1 vPrice vFirm vSums vTk vFl1 vFl2 vTe vAw vRo vBe) t.heap) A
set_option maxHeartbeats 4000000 in
set_option maxRecDepth 100000 in
theorem c_X7_trip (l : Launch) (G : va_G) (ah : Nat → Nat) (z : LZ) (zE : Nat) (y : Nat → ClassId) (sz : Nat) (vN vC vNow vHaze vCold vHot vPipe vDeg vThaw vTrc vTurb vLeft vLoad vWater vTrips vMi1 vMi2 vSz vBs : Int) (vCell vDirt vAim vErr vCor vBrk vTop vLm vRows vCols vDown vRight vBound vStrain vPrice vFirm vSums vTk vFl1 vFl2 vTe vAw vRo vBe : Int → Int)  (hZ : LZok z vN vC) (hN : 0 ≤ vN ∧ vN ≤ 12) (hAim : ∀ j9 : Int, -1 ≤ vAim j9 ∧ vAim j9 ≤ 5) (hBrk : ∀ j9 : Int, 0 ≤ vBrk j9 ∧ vBrk j9 ≤ 1) (hBound : ∀ j9 : Int, 0 ≤ vBound j9 ∧ vBound j9 ≤ 9999) (hF : ∀ q : Int, 0 ≤ q → q ≤ 5 → 0 ≤ vFl1 q ∧ vFl1 q ≤ 11400) : Met l yX7_trip wsX7_trip ({ frames := 4, cells := 0, slots := 0, locals := 86 }) (va_Pc [.ref (ah 0)] (HPreG zE G (tyL y) (hW ah z y vN vC vNow vHaze vCold vHot vPipe vDeg vThaw vTrc vTurb vLeft vLoad vWater vTrips vMi1 vMi2 vSz vBs vCell vDirt vAim vErr vCor vBrk vTop vLm vRows vCols vDown vRight vBound vStrain vPrice vFirm vSums vTk vFl1 vFl2 vTe vAw vRo vBe) sz)) (Q_X7_trip G ah z y vN vC vNow vHaze vCold vHot vPipe vDeg vThaw vTrc vTurb vLeft vLoad vWater vTrips vMi1 vMi2 vSz vBs vCell vDirt vAim vErr vCor vBrk vTop vLm vRows vCols vDown vRight vBound vStrain vPrice vFirm vSums vTk vFl1 vFl2 vTe vAw vRo vBe (va_A (hW ah z y vN vC vNow vHaze vCold vHot vPipe vDeg vThaw vTrc vTurb vLeft vLoad vWater vTrips vMi1 vMi2 vSz vBs vCell vDirt vAim vErr vCor vBrk vTop vLm vRows vCols vDown vRight vBound vStrain vPrice vFirm vSums vTk vFl1 vFl2 vTe vAw vRo vBe) sz)) 0 0 (va_A (hW ah z y vN vC vNow vHaze vCold vHot vPipe vDeg vThaw vTrc vTurb vLeft vLoad vWater vTrips vMi1 vMi2 vSz vBs vCell vDirt vAim vErr vCor vBrk vTop vLm vRows vCols vDown vRight vBound vStrain vPrice vFirm vSums vTk vFl1 vFl2 vTe vAw vRo vBe) sz) := by
  refine hz_ofWG (Qf := Q_X7_trip G ah z y vN vC vNow vHaze vCold vHot vPipe vDeg vThaw vTrc vTurb vLeft vLoad vWater vTrips vMi1 vMi2 vSz vBs vCell vDirt vAim vErr vCor vBrk vTop vLm vRows vCols vDown vRight vBound vStrain vPrice vFirm vSums vTk vFl1 vFl2 vTe vAw vRo vBe) (cc := cX7_trip) (maxL := 2) (ret := none) (by decide) rfl (Nat.le_of_ble_eq_true rfl) ?_
  intro p e s m below meth c A ls hx hb hr hts hown hin hlocks hml hP hK hA hD hS hGP hl
  have hown : s.vm.findClass RX7 = some m.cls := hown
  have hl : lv_has ls 2 [(0, .ref (ah 0))] := hl
  have hinwsJx4a65c0 : ∀ w ∈ wsJx4a65c0, w ∈ wsX7_trip := fun _ h => List.mem_cons_of_mem _ (List.mem_append_right _ (h))
  have hinwsX20 : ∀ w ∈ wsX20, w ∈ wsX7_trip := fun _ h => List.mem_cons_of_mem _ (List.mem_append_left _ (List.mem_append_left _ (List.mem_append_right _ (h))))
  have hinwsX30 : ∀ w ∈ wsX30, w ∈ wsX7_trip := fun _ h => List.mem_cons_of_mem _ (List.mem_append_left _ (List.mem_append_left _ (List.mem_append_left _ (List.mem_append_right _ (h)))))
  have hinwsX40 : ∀ w ∈ wsX40, w ∈ wsX7_trip := fun _ h => List.mem_cons_of_mem _ (List.mem_append_left _ (List.mem_append_right _ (h)))
  have hinwsX70 : ∀ w ∈ wsX70, w ∈ wsX7_trip := fun _ h => List.mem_cons_of_mem _ (List.mem_append_left _ (List.mem_append_left _ (List.mem_append_left _ (List.mem_append_left _ (List.mem_append_right _ (h))))))
  refine lv_aload_n hx hb dX7_trip_0 rfl (lv_at hl 0 rfl) ?_
  refine lv_dup hx hb dX7_trip_1 rfl ?_
  refine va_get (D := G) (ci := 8) (v := zi vTrips) (C := RX7) (T := TX7) (N := 14) hx hb hts hinwsX70 hown hK hP 0 rfl rfl 5 (by decide) (hts (.fieldLink RX7 299 "Heliokeep" "trips" "I") (List.mem_of_getElem? (i := 1) rfl)) (fun _ h9 => h9) rfl dX7_trip_2 ?_
  refine hz_iconst hx hb dX7_trip_5 ?_
  refine hz_iadd hx hb dX7_trip_6 ?_
  refine va_put (D := G) (ci := 8) (v := zi (vTrips + 1)) (ty := .int) (C := RX7) (T := TX7) (N := 14) hx hb hts hinwsX70 tyX7 tyX7_ok nmX7 hown hK hP hD hS 0 rfl rfl 5 (by decide) (hts (.fieldLink RX7 299 "Heliokeep" "trips" "I") (List.mem_of_getElem? (i := 1) rfl)) (fun _ h9 => h9) rfl (by decide +kernel) rfl rfl (Nat.le_of_ble_eq_true rfl) dX7_trip_7 (fun H locs hP hD hS => ?_)
  have hP : va_P G vwCl (hW ah z y vN vC vNow vHaze vCold vHot vPipe vDeg vThaw vTrc vTurb vLeft vLoad vWater (vTrips + 1) vMi1 vMi2 vSz vBs vCell vDirt vAim vErr vCor vBrk vTop vLm vRows vCols vDown vRight vBound vStrain vPrice vFirm vSums vTk vFl1 vFl2 vTe vAw vRo vBe) H := hP
  have hD : va_D A (hW ah z y vN vC vNow vHaze vCold vHot vPipe vDeg vThaw vTrc vTurb vLeft vLoad vWater (vTrips + 1) vMi1 vMi2 vSz vBs vCell vDirt vAim vErr vCor vBrk vTop vLm vRows vCols vDown vRight vBound vStrain vPrice vFirm vSums vTk vFl1 vFl2 vTe vAw vRo vBe) := hD
  refine hz_iconst hx hb dX7_trip_10 ?_
  refine lv_istore_n (lv' := [(1, zi 0), (0, .ref (ah 0))]) hx hb dX7_trip_11 rfl hl (by decide) rfl (fun ls hl => ?_)
  have L12 : ∀ (n : Nat) (k : Int) (f : Int → Int) (H : Heap) (locs : List Loc), (0 ≤ k ∧ k ≤ 6) → (f = snZ vStrain vFl1 vBound k) → ((6 - k).toNat) < n → va_P G vwCl (hW ah z y vN vC vNow vHaze vCold vHot vPipe vDeg vThaw vTrc vTurb vLeft vLoad vWater (vTrips + 1) vMi1 vMi2 vSz vBs vCell vDirt vAim vErr vCor vBrk vTop vLm vRows vCols vDown vRight vBound f vPrice vFirm vSums vTk vFl1 vFl2 vTe vAw vRo vBe) H → va_D A (hW ah z y vN vC vNow vHaze vCold vHot vPipe vDeg vThaw vTrc vTurb vLeft vLoad vWater (vTrips + 1) vMi1 vMi2 vSz vBs vCell vDirt vAim vErr vCor vBrk vTop vLm vRows vCols vDown vRight vBound f vPrice vFirm vSums vTk vFl1 vFl2 vTe vAw vRo vBe) → va_S A s.heap H locs → ∀ ls : Array Slot, lv_has ls 2 [(0, .ref (ah 0)), (1, zi k)] → W p l e (headSpec wsX7_trip ({ frames := 4, cells := 0, slots := 0, locals := 86 })).room s m ([.ref (ah 0)] : List Value).toArray below meth c H locs 0 0 (MQ below (Q_X7_trip G ah z y vN vC vNow vHaze vCold vHot vPipe vDeg vThaw vTrc vTurb vLeft vLoad vWater vTrips vMi1 vMi2 vSz vBs vCell vDirt vAim vErr vCor vBrk vTop vLm vRows vCols vDown vRight vBound vStrain vPrice vFirm vSums vTk vFl1 vFl2 vTe vAw vRo vBe A) ([.ref (ah 0)] : List Value).toArray s 0 0 A) (F0 m 12 ls []) := by
    intro n
    induction n with
    | zero => exact fun k f H locs h_k12 h_f12 hm => absurd hm (Nat.not_lt_zero _)
    | succ n ih12 =>
      intro k f H locs h_k12 h_f12 hm12 hP hD hS ls hl
      refine lv_iload_n hx hb dX7_trip_12 rfl (lv_at hl 1 rfl) ?_
      refine hz_bipush hx hb dX7_trip_13 (by decide) ?_
      refine hz_icmp_ge (tgt := 52) hx hb dX7_trip_15 (by decide) (by omega) (fun c1 => ?_) (fun c1 => ?_)
      · refine lv_aload_n hx hb dX7_trip_52 rfl (lv_at hl 0 rfl) ?_
        refine va_get (D := G) (ci := 8) (v := .ref (ah 1)) (C := RX7) (T := TX7) (N := 14) hx hb hts hinwsX70 hown hK hP 0 rfl rfl 0 (by decide) (hts (.fieldLink RX7 10 "Heliokeep" "field" "LHeliokeep$Field;") (List.mem_of_getElem? (i := 6) rfl)) (fun _ h9 => h9) rfl dX7_trip_53 ?_
        refine hz_callWvG (As := []) (rest := []) ⟨hx, hb, hml, hown, hts⟩ (c_X2_stowWhole l G ah z zE y _ vN vC vNow vHaze vCold vHot vPipe vDeg vThaw vTrc vTurb vLeft vLoad vWater (vTrips + 1) vMi1 vMi2 vSz vBs vCell vDirt vAim vErr vCor vBrk vTop vLm vRows vCols vDown vRight vBound f vPrice vFirm vSums vTk vFl1 vFl2 vTe vAw vRo vBe  hZ hN hAim hBrk) (cwV 0 hts gX7_trip_X2_stowWhole rfl rfl rfl (by decide +kernel) ⟨Nat.le_of_ble_eq_true rfl, Nat.le_of_ble_eq_true rfl⟩) hP hK hD hS hA hGP 1 3 rfl rfl rfl rfl hl.1 rfl (Nat.le_of_ble_eq_true rfl) dX7_trip_56 ⟨Nat.zero_le _, Nat.zero_le _⟩ (fun _ => hW_fst) (fun n_2 H locs hu hP hD hS => ?_)
        have p3 : n_2 = stZ vAim vBrk vN := hu.1
        have p4 : ∀ k : Int, -1 ≤ n_2 k ∧ n_2 k ≤ 5 := hu.2
        have hP : va_P G vwCl (hW ah z y vN vC vNow vHaze vCold vHot vPipe vDeg vThaw vTrc vTurb vLeft vLoad vWater (vTrips + 1) vMi1 vMi2 vSz vBs vCell vDirt n_2 vErr vCor vBrk vTop vLm vRows vCols vDown vRight vBound f vPrice vFirm vSums vTk vFl1 vFl2 vTe vAw vRo vBe) H := hP
        have hD : va_D A (hW ah z y vN vC vNow vHaze vCold vHot vPipe vDeg vThaw vTrc vTurb vLeft vLoad vWater (vTrips + 1) vMi1 vMi2 vSz vBs vCell vDirt n_2 vErr vCor vBrk vTop vLm vRows vCols vDown vRight vBound f vPrice vFirm vSums vTk vFl1 vFl2 vTe vAw vRo vBe) := hD
        exact W.vret hx hb hr (fun t ht hW => ⟨⟨(f, n_2), rfl, ⟨(show f = snZ vStrain vFl1 vBound 6 from by rw [h_f12]; exact congrArg (snZ vStrain vFl1 vBound) (by omega)), (show n_2 = stZ vAim vBrk vN from p3), (show ∀ k : Int, -1 ≤ n_2 k ∧ n_2 k ≤ 5 from p4)⟩, hz_at hP ht⟩, hS.F ht⟩) hS.2.2 dX7_trip_59
      · refine lv_aload_n hx hb dX7_trip_18 rfl (lv_at hl 0 rfl) ?_
        refine va_get (D := G) (ci := 8) (v := .ref (ah 2)) (C := RX7) (T := TX7) (N := 14) hx hb hts hinwsX70 hown hK hP 0 rfl rfl 1 (by decide) (hts (.fieldLink RX7 19 "Heliokeep" "light" "LHeliokeep$Light;") (List.mem_of_getElem? (i := 2) rfl)) (fun _ h9 => h9) rfl dX7_trip_19 ?_
        refine va_get (D := G) (ci := 4) (v := .ref (ah 12)) (C := RX3) (T := TX3) (N := 2) hx hb hts hinwsX30 hown hK hP 2 rfl rfl 0 (by decide) (hts (.fieldLink RX7 199 "Heliokeep$Light" "fluxes" "[I") (List.mem_of_getElem? (i := 3) rfl)) (fun _ h9 => h9) rfl dX7_trip_22 ?_
        refine lv_iload_n hx hb dX7_trip_25 rfl (lv_at hl 1 rfl) ?_
        refine hz_iald (f := vFl1) hx hb hK hP 12 0 rfl rfl (Nat.le_of_ble_eq_true rfl) (by omega) dX7_trip_26 ?_
        refine lv_aload_n hx hb dX7_trip_27 rfl (lv_at hl 0 rfl) ?_
        refine va_get (D := G) (ci := 8) (v := .ref (ah 7)) (C := RX7) (T := TX7) (N := 14) hx hb hts hinwsX70 hown hK hP 0 rfl rfl 3 (by decide) (hts (.fieldLink RX7 30 "Heliokeep" "bounds" "[I") (List.mem_of_getElem? (i := 4) rfl)) (fun _ h9 => h9) rfl dX7_trip_28 ?_
        refine lv_iload_n hx hb dX7_trip_31 rfl (lv_at hl 1 rfl) ?_
        refine hz_iald (f := vBound) hx hb hK hP 7 0 rfl rfl (Nat.le_of_ble_eq_true rfl) (by omega) dX7_trip_32 ?_
        have q5 := hBound k
        have qf := hF k (by omega) (by omega)
        have qb := hBound k
        refine hz_icmp_le (tgt := 46) hx hb dX7_trip_33 (by decide) (by omega) (fun c6 => ?_) (fun c6 => ?_)
        · refine hz_iinc (v := (k + 1)) (lv' := [(1, zi (k + 1)), (0, .ref (ah 0))]) hx hb dX7_trip_46 hl (k := 1) rfl (by omega) (by decide) rfl (fun ls hl => ?_)
          refine lv_goto (tgt := 12) hx hb dX7_trip_49 (by decide) ?_
          exact ih12 (k + 1) f _ _ (by omega) (by
          rw [h_f12]
          first
            | exact snZ_y (by omega) (by omega)
            | (have q := snZ_n (st := vStrain) (fa := vFl1) (bo := vBound) h_k12.1 (by omega); rw [Int.add_zero, upZ_id] at q; exact q)) (by omega) hP hD hS ls (lv_sub hl [1, 0] rfl)
        · refine lv_aload_n hx hb dX7_trip_36 rfl (lv_at hl 0 rfl) ?_
          refine va_get (D := G) (ci := 8) (v := .ref (ah 8)) (C := RX7) (T := TX7) (N := 14) hx hb hts hinwsX70 hown hK hP 0 rfl rfl 4 (by decide) (hts (.fieldLink RX7 34 "Heliokeep" "strains" "[I") (List.mem_of_getElem? (i := 5) rfl)) (fun _ h9 => h9) rfl dX7_trip_37 ?_
          refine lv_iload_n hx hb dX7_trip_40 rfl (lv_at hl 1 rfl) ?_
          refine lv_dup2_11 hx hb dX7_trip_41 rfl rfl ?_
          refine hz_iald (f := f) hx hb hK hP 8 0 rfl rfl (Nat.le_of_ble_eq_true rfl) (by omega) dX7_trip_42 ?_
          refine hz_iconst hx hb dX7_trip_43 ?_
          refine hz_iadd hx hb dX7_trip_44 ?_
          refine hz_iast (f := f) hx hb hK hP hD hS 8 0 rfl rfl (Nat.le_of_ble_eq_true rfl) (by omega) dX7_trip_45 (fun H locs hP hD hS => ?_)
          have hP : va_P G vwCl (hW ah z y vN vC vNow vHaze vCold vHot vPipe vDeg vThaw vTrc vTurb vLeft vLoad vWater (vTrips + 1) vMi1 vMi2 vSz vBs vCell vDirt vAim vErr vCor vBrk vTop vLm vRows vCols vDown vRight vBound (upZ f k ((f k) + 1)) vPrice vFirm vSums vTk vFl1 vFl2 vTe vAw vRo vBe) H := hP
          have hD : va_D A (hW ah z y vN vC vNow vHaze vCold vHot vPipe vDeg vThaw vTrc vTurb vLeft vLoad vWater (vTrips + 1) vMi1 vMi2 vSz vBs vCell vDirt vAim vErr vCor vBrk vTop vLm vRows vCols vDown vRight vBound (upZ f k ((f k) + 1)) vPrice vFirm vSums vTk vFl1 vFl2 vTe vAw vRo vBe) := hD
          refine hz_iinc (v := (k + 1)) (lv' := [(1, zi (k + 1)), (0, .ref (ah 0))]) hx hb dX7_trip_46 hl (k := 1) rfl (by omega) (by decide) rfl (fun ls hl => ?_)
          refine lv_goto (tgt := 12) hx hb dX7_trip_49 (by decide) ?_
          exact ih12 (k + 1) (upZ f k ((f k) + 1)) _ _ (by omega) (by
          rw [h_f12]
          first
            | exact snZ_y (by omega) (by omega)
            | (have q := snZ_n (st := vStrain) (fa := vFl1) (bo := vBound) h_k12.1 (by omega); rw [Int.add_zero, upZ_id] at q; exact q)) (by omega) hP hD hS ls (lv_sub hl [1, 0] rfl)
  exact L12 _ 0 vStrain _ _ (by omega) (snZ_0.symm) (Nat.lt_succ_self _) hP hD hS ls (lv_sub hl [1, 0] rfl)
abbrev Q_X7_receiveHeat (G : va_G) (ah : Nat → Nat) (z : LZ) (y : Nat → ClassId) (vN vC vNow vHaze vCold vHot vPipe vDeg vThaw vTrc vTurb vLeft vLoad vWater vTrips vMi1 vMi2 vSz vBs : Int) (vCell vDirt vAim vErr vCor vBrk vTop vLm vRows vCols vDown vRight vBound vStrain vPrice vFirm vSums vTk vFl1 vFl2 vTe vAw vRo vBe : Int → Int)  (A : Nat → Prop) : Array Value → State → Outcome → State → Prop := va_Qi (fun (r : Int32) (u : Int × (Int → Int) × Int × (Int → Int) × (Int → Int)) => r = zI (u.1) ∧ (u.1 = (if trN vFl1 vBound 6 = 1 then 0 else alZ vFl1)) ∧ (0 ≤ u.1 ∧ u.1 ≤ 68400) ∧ (u.2.1 = (if trN vFl1 vBound 6 = 1 then adZ (adZ (adZ vSums 0 (alZ vFl1 + vMi1)) 1 vMi1) 2 (alZ vFl1) else adZ (adZ (adZ vSums 0 (alZ vFl1 + vMi1)) 1 vMi1) 3 (alZ vFl1))) ∧ (u.2.2.1 = (if trN vFl1 vBound 6 = 1 then vTrips + 1 else vTrips)) ∧ (u.2.2.2.1 = (if trN vFl1 vBound 6 = 1 then snZ vStrain vFl1 vBound 6 else vStrain)) ∧ (u.2.2.2.2 = (if trN vFl1 vBound 6 = 1 then stZ vAim vBrk vN else vAim)) ∧ (∀ k : Int, -1 ≤ u.2.2.2.2 k ∧ u.2.2.2.2 k ≤ 5)) (fun (u : Int × (Int → Int) × Int × (Int → Int) × (Int → Int)) t => va_P G vwCl (hW ah z y vN vC vNow vHaze vCold vHot vPipe vDeg vThaw vTrc vTurb vLeft vLoad vWater u.2.2.1 vMi1 vMi2 vSz vBs vCell vDirt u.2.2.2.2 vErr vCor vBrk vTop vLm vRows vCols vDown vRight vBound u.2.2.2.1 vPrice vFirm u.2.1 vTk vFl1 vFl2 vTe vAw vRo vBe) t.heap) A
set_option maxHeartbeats 4000000 in
set_option maxRecDepth 100000 in
theorem c_X7_receiveHeat (l : Launch) (G : va_G) (ah : Nat → Nat) (z : LZ) (zE : Nat) (y : Nat → ClassId) (sz : Nat) (vN vC vNow vHaze vCold vHot vPipe vDeg vThaw vTrc vTurb vLeft vLoad vWater vTrips vMi1 vMi2 vSz vBs : Int) (vCell vDirt vAim vErr vCor vBrk vTop vLm vRows vCols vDown vRight vBound vStrain vPrice vFirm vSums vTk vFl1 vFl2 vTe vAw vRo vBe : Int → Int)  (hZ : LZok z vN vC) (hN : 0 ≤ vN ∧ vN ≤ 12) (hAim : ∀ j9 : Int, -1 ≤ vAim j9 ∧ vAim j9 ≤ 5) (hBrk : ∀ j9 : Int, 0 ≤ vBrk j9 ∧ vBrk j9 ≤ 1) (hBound : ∀ j9 : Int, 0 ≤ vBound j9 ∧ vBound j9 ≤ 9999) (hF : ∀ q : Int, 0 ≤ q → q ≤ 5 → 0 ≤ vFl1 q ∧ vFl1 q ≤ 11400) (hM : 0 ≤ vMi1 ∧ vMi1 ≤ 11400) : Met l yX7_receiveHeat wsX7_receiveHeat ({ frames := 5, cells := 0, slots := 0, locals := 107 }) (va_Pc [.ref (ah 0)] (HPreG zE G (tyL y) (hW ah z y vN vC vNow vHaze vCold vHot vPipe vDeg vThaw vTrc vTurb vLeft vLoad vWater vTrips vMi1 vMi2 vSz vBs vCell vDirt vAim vErr vCor vBrk vTop vLm vRows vCols vDown vRight vBound vStrain vPrice vFirm vSums vTk vFl1 vFl2 vTe vAw vRo vBe) sz)) (Q_X7_receiveHeat G ah z y vN vC vNow vHaze vCold vHot vPipe vDeg vThaw vTrc vTurb vLeft vLoad vWater vTrips vMi1 vMi2 vSz vBs vCell vDirt vAim vErr vCor vBrk vTop vLm vRows vCols vDown vRight vBound vStrain vPrice vFirm vSums vTk vFl1 vFl2 vTe vAw vRo vBe (va_A (hW ah z y vN vC vNow vHaze vCold vHot vPipe vDeg vThaw vTrc vTurb vLeft vLoad vWater vTrips vMi1 vMi2 vSz vBs vCell vDirt vAim vErr vCor vBrk vTop vLm vRows vCols vDown vRight vBound vStrain vPrice vFirm vSums vTk vFl1 vFl2 vTe vAw vRo vBe) sz)) 0 0 (va_A (hW ah z y vN vC vNow vHaze vCold vHot vPipe vDeg vThaw vTrc vTurb vLeft vLoad vWater vTrips vMi1 vMi2 vSz vBs vCell vDirt vAim vErr vCor vBrk vTop vLm vRows vCols vDown vRight vBound vStrain vPrice vFirm vSums vTk vFl1 vFl2 vTe vAw vRo vBe) sz) := by
  refine hz_ofWG (Qf := Q_X7_receiveHeat G ah z y vN vC vNow vHaze vCold vHot vPipe vDeg vThaw vTrc vTurb vLeft vLoad vWater vTrips vMi1 vMi2 vSz vBs vCell vDirt vAim vErr vCor vBrk vTop vLm vRows vCols vDown vRight vBound vStrain vPrice vFirm vSums vTk vFl1 vFl2 vTe vAw vRo vBe) (cc := cX7_receiveHeat) (maxL := 2) (ret := (some .int)) (by decide) rfl (Nat.le_of_ble_eq_true rfl) ?_
  intro p e s m below meth c A ls hx hb hr hts hown hin hlocks hml hP hK hA hD hS hGP hl
  have hown : s.vm.findClass RX7 = some m.cls := hown
  have hl : lv_has ls 2 [(0, .ref (ah 0))] := hl
  have hinwsJx4a65c0 : ∀ w ∈ wsJx4a65c0, w ∈ wsX7_receiveHeat := fun _ h => List.mem_cons_of_mem _ (List.mem_append_right _ (h))
  have hinwsX20 : ∀ w ∈ wsX20, w ∈ wsX7_receiveHeat := fun _ h => List.mem_cons_of_mem _ (List.mem_append_left _ (List.mem_append_left _ (List.mem_append_right _ (h))))
  have hinwsX30 : ∀ w ∈ wsX30, w ∈ wsX7_receiveHeat := fun _ h => List.mem_cons_of_mem _ (List.mem_append_left _ (List.mem_append_left _ (List.mem_append_left _ (List.mem_append_right _ (h)))))
  have hinwsX40 : ∀ w ∈ wsX40, w ∈ wsX7_receiveHeat := fun _ h => List.mem_cons_of_mem _ (List.mem_append_left _ (List.mem_append_right _ (h)))
  have hinwsX70 : ∀ w ∈ wsX70, w ∈ wsX7_receiveHeat := fun _ h => List.mem_cons_of_mem _ (List.mem_append_left _ (List.mem_append_left _ (List.mem_append_left _ (List.mem_append_left _ (List.mem_append_right _ (h))))))
  have eral := alZ_rng hF
  have e01 : trN vFl1 vBound 6 = 0 ∨ trN vFl1 vBound 6 = 1 := isZ_01 _
  have hFr : ∀ q : Int, 0 ≤ q → q ≤ 5 → -2147483648 ≤ vFl1 q ∧ vFl1 q < 2147483648 := fun q a b => by have := hF q a b; omega
  refine lv_aload_n hx hb dX7_receiveHeat_0 rfl (lv_at hl 0 rfl) ?_
  refine va_get (D := G) (ci := 8) (v := .ref (ah 2)) (C := RX7) (T := TX7) (N := 14) hx hb hts hinwsX70 hown hK hP 0 rfl rfl 1 (by decide) (hts (.fieldLink RX7 19 "Heliokeep" "light" "LHeliokeep$Light;") (List.mem_of_getElem? (i := 1) rfl)) (fun _ h9 => h9) rfl dX7_receiveHeat_1 ?_
  refine hz_callRi (As := []) (rest := []) ⟨hx, hb, hml, hown, hts⟩ (c_X3_onPanels l G (ah 2) (ah 12) y vMi1 vFl1  ) (cwV 0 hts gX7_receiveHeat_X3_onPanels rfl rfl rfl (by decide +kernel) ⟨Nat.le_of_ble_eq_true rfl, Nat.le_of_ble_eq_true rfl⟩) (hz_cons hP (i := 2) rfl (hz_cons hP (i := 12) rfl hz_nil)) hK 0 4 rfl rfl rfl rfl hl.1 rfl (Nat.le_of_ble_eq_true rfl) dX7_receiveHeat_4 ⟨Nat.zero_le _, Nat.zero_le _⟩ ?_
  refine lv_istore_n (lv' := [(1, zi (alZ vFl1)), (0, .ref (ah 0))]) hx hb dX7_receiveHeat_7 rfl hl (by decide) rfl (fun ls hl => ?_)
  refine lv_aload_n hx hb dX7_receiveHeat_8 rfl (lv_at hl 1 rfl) ?_
  refine va_get (D := G) (ci := 8) (v := .ref (ah 18)) (C := RX7) (T := TX7) (N := 14) hx hb hts hinwsX70 hown hK hP 0 rfl rfl 13 (by decide) (hts (.fieldLink RX7 61 "Heliokeep" "sums" "[J") (List.mem_of_getElem? (i := 2) rfl)) (fun _ h9 => h9) rfl dX7_receiveHeat_9 ?_
  refine hz_iconst hx hb dX7_receiveHeat_12 ?_
  refine lv_dup2_11 hx hb dX7_receiveHeat_13 rfl rfl ?_
  refine hz_lald (f := vSums) hx hb hK hP 18 1 rfl rfl (Nat.le_of_ble_eq_true rfl) (by omega) dX7_receiveHeat_14 ?_
  refine lv_iload_n hx hb dX7_receiveHeat_15 rfl (lv_at hl 0 rfl) ?_
  refine lv_aload_n hx hb dX7_receiveHeat_16 rfl (lv_at hl 1 rfl) ?_
  refine va_get (D := G) (ci := 8) (v := .ref (ah 2)) (C := RX7) (T := TX7) (N := 14) hx hb hts hinwsX70 hown hK hP 0 rfl rfl 1 (by decide) (hts (.fieldLink RX7 19 "Heliokeep" "light" "LHeliokeep$Light;") (List.mem_of_getElem? (i := 1) rfl)) (fun _ h9 => h9) rfl dX7_receiveHeat_17 ?_
  refine va_get (D := G) (ci := 4) (v := zi vMi1) (C := RX3) (T := TX3) (N := 2) hx hb hts hinwsX30 hown hK hP 2 rfl rfl 1 (by decide) (hts (.fieldLink RX7 354 "Heliokeep$Light" "missed" "I") (List.mem_of_getElem? (i := 3) rfl)) (fun _ h9 => h9) rfl dX7_receiveHeat_20 ?_
  refine hz_iadd hx hb dX7_receiveHeat_23 ?_
  refine hz_i2l hx hb dX7_receiveHeat_24 (by omega) ?_
  refine hz_ladd hx hb dX7_receiveHeat_25 ?_
  refine hz_last (f := vSums) hx hb hK hP hD hS 18 1 rfl rfl (Nat.le_of_ble_eq_true rfl) (by omega) dX7_receiveHeat_26 (fun H locs hP hD hS => ?_)
  have hP : va_P G vwCl (hW ah z y vN vC vNow vHaze vCold vHot vPipe vDeg vThaw vTrc vTurb vLeft vLoad vWater vTrips vMi1 vMi2 vSz vBs vCell vDirt vAim vErr vCor vBrk vTop vLm vRows vCols vDown vRight vBound vStrain vPrice vFirm (upZ vSums 0 ((vSums 0) + ((alZ vFl1) + vMi1))) vTk vFl1 vFl2 vTe vAw vRo vBe) H := hP
  have hD : va_D A (hW ah z y vN vC vNow vHaze vCold vHot vPipe vDeg vThaw vTrc vTurb vLeft vLoad vWater vTrips vMi1 vMi2 vSz vBs vCell vDirt vAim vErr vCor vBrk vTop vLm vRows vCols vDown vRight vBound vStrain vPrice vFirm (upZ vSums 0 ((vSums 0) + ((alZ vFl1) + vMi1))) vTk vFl1 vFl2 vTe vAw vRo vBe) := hD
  refine lv_aload_n hx hb dX7_receiveHeat_27 rfl (lv_at hl 1 rfl) ?_
  refine va_get (D := G) (ci := 8) (v := .ref (ah 18)) (C := RX7) (T := TX7) (N := 14) hx hb hts hinwsX70 hown hK hP 0 rfl rfl 13 (by decide) (hts (.fieldLink RX7 61 "Heliokeep" "sums" "[J") (List.mem_of_getElem? (i := 2) rfl)) (fun _ h9 => h9) rfl dX7_receiveHeat_28 ?_
  refine hz_iconst hx hb dX7_receiveHeat_31 ?_
  refine lv_dup2_11 hx hb dX7_receiveHeat_32 rfl rfl ?_
  refine hz_lald (f := (upZ vSums 0 ((vSums 0) + ((alZ vFl1) + vMi1)))) hx hb hK hP 18 1 rfl rfl (Nat.le_of_ble_eq_true rfl) (by omega) dX7_receiveHeat_33 ?_
  refine lv_aload_n hx hb dX7_receiveHeat_34 rfl (lv_at hl 1 rfl) ?_
  refine va_get (D := G) (ci := 8) (v := .ref (ah 2)) (C := RX7) (T := TX7) (N := 14) hx hb hts hinwsX70 hown hK hP 0 rfl rfl 1 (by decide) (hts (.fieldLink RX7 19 "Heliokeep" "light" "LHeliokeep$Light;") (List.mem_of_getElem? (i := 1) rfl)) (fun _ h9 => h9) rfl dX7_receiveHeat_35 ?_
  refine va_get (D := G) (ci := 4) (v := zi vMi1) (C := RX3) (T := TX3) (N := 2) hx hb hts hinwsX30 hown hK hP 2 rfl rfl 1 (by decide) (hts (.fieldLink RX7 354 "Heliokeep$Light" "missed" "I") (List.mem_of_getElem? (i := 3) rfl)) (fun _ h9 => h9) rfl dX7_receiveHeat_38 ?_
  refine hz_i2l hx hb dX7_receiveHeat_41 (by omega) ?_
  refine hz_ladd hx hb dX7_receiveHeat_42 ?_
  refine hz_last (f := (upZ vSums 0 ((vSums 0) + ((alZ vFl1) + vMi1)))) hx hb hK hP hD hS 18 1 rfl rfl (Nat.le_of_ble_eq_true rfl) (by omega) dX7_receiveHeat_43 (fun H locs hP hD hS => ?_)
  have hP : va_P G vwCl (hW ah z y vN vC vNow vHaze vCold vHot vPipe vDeg vThaw vTrc vTurb vLeft vLoad vWater vTrips vMi1 vMi2 vSz vBs vCell vDirt vAim vErr vCor vBrk vTop vLm vRows vCols vDown vRight vBound vStrain vPrice vFirm (upZ (upZ vSums 0 ((vSums 0) + ((alZ vFl1) + vMi1))) 1 (((upZ vSums 0 ((vSums 0) + ((alZ vFl1) + vMi1))) 1) + vMi1)) vTk vFl1 vFl2 vTe vAw vRo vBe) H := hP
  have hD : va_D A (hW ah z y vN vC vNow vHaze vCold vHot vPipe vDeg vThaw vTrc vTurb vLeft vLoad vWater vTrips vMi1 vMi2 vSz vBs vCell vDirt vAim vErr vCor vBrk vTop vLm vRows vCols vDown vRight vBound vStrain vPrice vFirm (upZ (upZ vSums 0 ((vSums 0) + ((alZ vFl1) + vMi1))) 1 (((upZ vSums 0 ((vSums 0) + ((alZ vFl1) + vMi1))) 1) + vMi1)) vTk vFl1 vFl2 vTe vAw vRo vBe) := hD
  refine lv_aload_n hx hb dX7_receiveHeat_44 rfl (lv_at hl 1 rfl) ?_
  refine va_get (D := G) (ci := 8) (v := .ref (ah 2)) (C := RX7) (T := TX7) (N := 14) hx hb hts hinwsX70 hown hK hP 0 rfl rfl 1 (by decide) (hts (.fieldLink RX7 19 "Heliokeep" "light" "LHeliokeep$Light;") (List.mem_of_getElem? (i := 1) rfl)) (fun _ h9 => h9) rfl dX7_receiveHeat_45 ?_
  refine lv_aload_n hx hb dX7_receiveHeat_48 rfl (lv_at hl 1 rfl) ?_
  refine va_get (D := G) (ci := 8) (v := .ref (ah 7)) (C := RX7) (T := TX7) (N := 14) hx hb hts hinwsX70 hown hK hP 0 rfl rfl 3 (by decide) (hts (.fieldLink RX7 30 "Heliokeep" "bounds" "[I") (List.mem_of_getElem? (i := 4) rfl)) (fun _ h9 => h9) rfl dX7_receiveHeat_49 ?_
  refine hz_callRi (As := [.ref (ah 7)]) (rest := []) ⟨hx, hb, hml, hown, hts⟩ (c_X3_isAbove l G (ah 2) (ah 12) (ah 7) y vMi1 vFl1 vBound  hFr hBound) (cwV 1 hts gX7_receiveHeat_X3_isAbove rfl rfl rfl (by decide +kernel) ⟨Nat.le_of_ble_eq_true rfl, Nat.le_of_ble_eq_true rfl⟩) (hz_cons hP (i := 2) rfl (hz_cons hP (i := 12) rfl (hz_cons hP (i := 7) rfl hz_nil))) hK 0 4 rfl rfl rfl rfl hl.1 rfl (Nat.le_of_ble_eq_true rfl) dX7_receiveHeat_52 ⟨Nat.zero_le _, Nat.zero_le _⟩ ?_
  refine hz_if_eq (tgt := 75) hx hb dX7_receiveHeat_55 (by decide) (by omega) (fun c1 => ?_) (fun c1 => ?_)
  · refine lv_aload_n hx hb dX7_receiveHeat_75 rfl (lv_at hl 1 rfl) ?_
    refine va_get (D := G) (ci := 8) (v := .ref (ah 18)) (C := RX7) (T := TX7) (N := 14) hx hb hts hinwsX70 hown hK hP 0 rfl rfl 13 (by decide) (hts (.fieldLink RX7 61 "Heliokeep" "sums" "[J") (List.mem_of_getElem? (i := 2) rfl)) (fun _ h9 => h9) rfl dX7_receiveHeat_76 ?_
    refine hz_iconst hx hb dX7_receiveHeat_79 ?_
    refine lv_dup2_11 hx hb dX7_receiveHeat_80 rfl rfl ?_
    refine hz_lald (f := (upZ (upZ vSums 0 ((vSums 0) + ((alZ vFl1) + vMi1))) 1 (((upZ vSums 0 ((vSums 0) + ((alZ vFl1) + vMi1))) 1) + vMi1))) hx hb hK hP 18 1 rfl rfl (Nat.le_of_ble_eq_true rfl) (by omega) dX7_receiveHeat_81 ?_
    refine lv_iload_n hx hb dX7_receiveHeat_82 rfl (lv_at hl 0 rfl) ?_
    refine hz_i2l hx hb dX7_receiveHeat_83 (by omega) ?_
    refine hz_ladd hx hb dX7_receiveHeat_84 ?_
    refine hz_last (f := (upZ (upZ vSums 0 ((vSums 0) + ((alZ vFl1) + vMi1))) 1 (((upZ vSums 0 ((vSums 0) + ((alZ vFl1) + vMi1))) 1) + vMi1))) hx hb hK hP hD hS 18 1 rfl rfl (Nat.le_of_ble_eq_true rfl) (by omega) dX7_receiveHeat_85 (fun H locs hP hD hS => ?_)
    have hP : va_P G vwCl (hW ah z y vN vC vNow vHaze vCold vHot vPipe vDeg vThaw vTrc vTurb vLeft vLoad vWater vTrips vMi1 vMi2 vSz vBs vCell vDirt vAim vErr vCor vBrk vTop vLm vRows vCols vDown vRight vBound vStrain vPrice vFirm (upZ (upZ (upZ vSums 0 ((vSums 0) + ((alZ vFl1) + vMi1))) 1 (((upZ vSums 0 ((vSums 0) + ((alZ vFl1) + vMi1))) 1) + vMi1)) 3 (((upZ (upZ vSums 0 ((vSums 0) + ((alZ vFl1) + vMi1))) 1 (((upZ vSums 0 ((vSums 0) + ((alZ vFl1) + vMi1))) 1) + vMi1)) 3) + (alZ vFl1))) vTk vFl1 vFl2 vTe vAw vRo vBe) H := hP
    have hD : va_D A (hW ah z y vN vC vNow vHaze vCold vHot vPipe vDeg vThaw vTrc vTurb vLeft vLoad vWater vTrips vMi1 vMi2 vSz vBs vCell vDirt vAim vErr vCor vBrk vTop vLm vRows vCols vDown vRight vBound vStrain vPrice vFirm (upZ (upZ (upZ vSums 0 ((vSums 0) + ((alZ vFl1) + vMi1))) 1 (((upZ vSums 0 ((vSums 0) + ((alZ vFl1) + vMi1))) 1) + vMi1)) 3 (((upZ (upZ vSums 0 ((vSums 0) + ((alZ vFl1) + vMi1))) 1 (((upZ vSums 0 ((vSums 0) + ((alZ vFl1) + vMi1))) 1) + vMi1)) 3) + (alZ vFl1))) vTk vFl1 vFl2 vTe vAw vRo vBe) := hD
    refine lv_iload_n hx hb dX7_receiveHeat_86 rfl (lv_at hl 0 rfl) ?_
    exact W.iret (v := zI (alZ vFl1)) hx hb hr (fun t ht hW => ⟨⟨zI (alZ vFl1), ((alZ vFl1), (upZ (upZ (upZ vSums 0 ((vSums 0) + ((alZ vFl1) + vMi1))) 1 (((upZ vSums 0 ((vSums 0) + ((alZ vFl1) + vMi1))) 1) + vMi1)) 3 (((upZ (upZ vSums 0 ((vSums 0) + ((alZ vFl1) + vMi1))) 1 (((upZ vSums 0 ((vSums 0) + ((alZ vFl1) + vMi1))) 1) + vMi1)) 3) + (alZ vFl1))), vTrips, vStrain, vAim), rfl, ⟨rfl, ⟨(show (alZ vFl1) = (if trN vFl1 vBound 6 = 1 then 0 else alZ vFl1) from by first | exact (if_pos (by omega)).symm | exact (if_neg (by omega)).symm), (show 0 ≤ (alZ vFl1) ∧ (alZ vFl1) ≤ 68400 from by omega), (show (upZ (upZ (upZ vSums 0 ((vSums 0) + ((alZ vFl1) + vMi1))) 1 (((upZ vSums 0 ((vSums 0) + ((alZ vFl1) + vMi1))) 1) + vMi1)) 3 (((upZ (upZ vSums 0 ((vSums 0) + ((alZ vFl1) + vMi1))) 1 (((upZ vSums 0 ((vSums 0) + ((alZ vFl1) + vMi1))) 1) + vMi1)) 3) + (alZ vFl1))) = (if trN vFl1 vBound 6 = 1 then adZ (adZ (adZ vSums 0 (alZ vFl1 + vMi1)) 1 vMi1) 2 (alZ vFl1) else adZ (adZ (adZ vSums 0 (alZ vFl1 + vMi1)) 1 vMi1) 3 (alZ vFl1)) from by first | (rw [if_pos (by omega)]; rfl) | (rw [if_neg (by omega)]; rfl)), (show vTrips = (if trN vFl1 vBound 6 = 1 then vTrips + 1 else vTrips) from by first | exact (if_pos (by omega)).symm | exact (if_neg (by omega)).symm), (show vStrain = (if trN vFl1 vBound 6 = 1 then snZ vStrain vFl1 vBound 6 else vStrain) from by first | exact (if_neg (by omega)).symm | (rw [if_pos (by omega)]; exact rfl)), (show vAim = (if trN vFl1 vBound 6 = 1 then stZ vAim vBrk vN else vAim) from by first | exact (if_neg (by omega)).symm | (rw [if_pos (by omega)]; exact rfl)), (show ∀ k : Int, -1 ≤ vAim k ∧ vAim k ≤ 5 from hAim)⟩⟩, hz_at hP ht⟩, hS.F ht⟩) hS.2.2 dX7_receiveHeat_87
  · refine lv_aload_n hx hb dX7_receiveHeat_58 rfl (lv_at hl 1 rfl) ?_
    refine hz_callWvG (As := []) (rest := []) ⟨hx, hb, hml, hown, hts⟩ (c_X7_trip l G ah z zE y _ vN vC vNow vHaze vCold vHot vPipe vDeg vThaw vTrc vTurb vLeft vLoad vWater vTrips vMi1 vMi2 vSz vBs vCell vDirt vAim vErr vCor vBrk vTop vLm vRows vCols vDown vRight vBound vStrain vPrice vFirm (upZ (upZ vSums 0 ((vSums 0) + ((alZ vFl1) + vMi1))) 1 (((upZ vSums 0 ((vSums 0) + ((alZ vFl1) + vMi1))) 1) + vMi1)) vTk vFl1 vFl2 vTe vAw vRo vBe  hZ hN hAim hBrk hBound hF) (cwV 0 hts gX7_receiveHeat_X7_trip rfl rfl rfl (by decide +kernel) ⟨Nat.le_of_ble_eq_true rfl, Nat.le_of_ble_eq_true rfl⟩) hP hK hD hS hA hGP 0 8 rfl rfl rfl rfl hl.1 rfl (Nat.le_of_ble_eq_true rfl) dX7_receiveHeat_59 ⟨Nat.zero_le _, Nat.zero_le _⟩ (fun _ => hW_fst) (fun u H locs hu hP hD hS => ?_)
    obtain ⟨n_2, n_3⟩ := u
    have p4 : n_2 = snZ vStrain vFl1 vBound 6 := hu.1
    have p5 : n_3 = stZ vAim vBrk vN := hu.2.1
    have p6 : ∀ k : Int, -1 ≤ n_3 k ∧ n_3 k ≤ 5 := hu.2.2
    have hP : va_P G vwCl (hW ah z y vN vC vNow vHaze vCold vHot vPipe vDeg vThaw vTrc vTurb vLeft vLoad vWater (vTrips + 1) vMi1 vMi2 vSz vBs vCell vDirt n_3 vErr vCor vBrk vTop vLm vRows vCols vDown vRight vBound n_2 vPrice vFirm (upZ (upZ vSums 0 ((vSums 0) + ((alZ vFl1) + vMi1))) 1 (((upZ vSums 0 ((vSums 0) + ((alZ vFl1) + vMi1))) 1) + vMi1)) vTk vFl1 vFl2 vTe vAw vRo vBe) H := hP
    have hD : va_D A (hW ah z y vN vC vNow vHaze vCold vHot vPipe vDeg vThaw vTrc vTurb vLeft vLoad vWater (vTrips + 1) vMi1 vMi2 vSz vBs vCell vDirt n_3 vErr vCor vBrk vTop vLm vRows vCols vDown vRight vBound n_2 vPrice vFirm (upZ (upZ vSums 0 ((vSums 0) + ((alZ vFl1) + vMi1))) 1 (((upZ vSums 0 ((vSums 0) + ((alZ vFl1) + vMi1))) 1) + vMi1)) vTk vFl1 vFl2 vTe vAw vRo vBe) := hD
    refine lv_aload_n hx hb dX7_receiveHeat_62 rfl (lv_at hl 1 rfl) ?_
    refine va_get (D := G) (ci := 8) (v := .ref (ah 18)) (C := RX7) (T := TX7) (N := 14) hx hb hts hinwsX70 hown hK hP 0 rfl rfl 13 (by decide) (hts (.fieldLink RX7 61 "Heliokeep" "sums" "[J") (List.mem_of_getElem? (i := 2) rfl)) (fun _ h9 => h9) rfl dX7_receiveHeat_63 ?_
    refine hz_iconst hx hb dX7_receiveHeat_66 ?_
    refine lv_dup2_11 hx hb dX7_receiveHeat_67 rfl rfl ?_
    refine hz_lald (f := (upZ (upZ vSums 0 ((vSums 0) + ((alZ vFl1) + vMi1))) 1 (((upZ vSums 0 ((vSums 0) + ((alZ vFl1) + vMi1))) 1) + vMi1))) hx hb hK hP 18 1 rfl rfl (Nat.le_of_ble_eq_true rfl) (by omega) dX7_receiveHeat_68 ?_
    refine lv_iload_n hx hb dX7_receiveHeat_69 rfl (lv_at hl 0 rfl) ?_
    refine hz_i2l hx hb dX7_receiveHeat_70 (by omega) ?_
    refine hz_ladd hx hb dX7_receiveHeat_71 ?_
    refine hz_last (f := (upZ (upZ vSums 0 ((vSums 0) + ((alZ vFl1) + vMi1))) 1 (((upZ vSums 0 ((vSums 0) + ((alZ vFl1) + vMi1))) 1) + vMi1))) hx hb hK hP hD hS 18 1 rfl rfl (Nat.le_of_ble_eq_true rfl) (by omega) dX7_receiveHeat_72 (fun H locs hP hD hS => ?_)
    have hP : va_P G vwCl (hW ah z y vN vC vNow vHaze vCold vHot vPipe vDeg vThaw vTrc vTurb vLeft vLoad vWater (vTrips + 1) vMi1 vMi2 vSz vBs vCell vDirt n_3 vErr vCor vBrk vTop vLm vRows vCols vDown vRight vBound n_2 vPrice vFirm (upZ (upZ (upZ vSums 0 ((vSums 0) + ((alZ vFl1) + vMi1))) 1 (((upZ vSums 0 ((vSums 0) + ((alZ vFl1) + vMi1))) 1) + vMi1)) 2 (((upZ (upZ vSums 0 ((vSums 0) + ((alZ vFl1) + vMi1))) 1 (((upZ vSums 0 ((vSums 0) + ((alZ vFl1) + vMi1))) 1) + vMi1)) 2) + (alZ vFl1))) vTk vFl1 vFl2 vTe vAw vRo vBe) H := hP
    have hD : va_D A (hW ah z y vN vC vNow vHaze vCold vHot vPipe vDeg vThaw vTrc vTurb vLeft vLoad vWater (vTrips + 1) vMi1 vMi2 vSz vBs vCell vDirt n_3 vErr vCor vBrk vTop vLm vRows vCols vDown vRight vBound n_2 vPrice vFirm (upZ (upZ (upZ vSums 0 ((vSums 0) + ((alZ vFl1) + vMi1))) 1 (((upZ vSums 0 ((vSums 0) + ((alZ vFl1) + vMi1))) 1) + vMi1)) 2 (((upZ (upZ vSums 0 ((vSums 0) + ((alZ vFl1) + vMi1))) 1 (((upZ vSums 0 ((vSums 0) + ((alZ vFl1) + vMi1))) 1) + vMi1)) 2) + (alZ vFl1))) vTk vFl1 vFl2 vTe vAw vRo vBe) := hD
    refine hz_iconst hx hb dX7_receiveHeat_73 ?_
    exact W.iret (v := zI 0) hx hb hr (fun t ht hW => ⟨⟨zI 0, (0, (upZ (upZ (upZ vSums 0 ((vSums 0) + ((alZ vFl1) + vMi1))) 1 (((upZ vSums 0 ((vSums 0) + ((alZ vFl1) + vMi1))) 1) + vMi1)) 2 (((upZ (upZ vSums 0 ((vSums 0) + ((alZ vFl1) + vMi1))) 1 (((upZ vSums 0 ((vSums 0) + ((alZ vFl1) + vMi1))) 1) + vMi1)) 2) + (alZ vFl1))), vTrips + 1, n_2, n_3), rfl, ⟨rfl, ⟨(show (0 : Int) = (if trN vFl1 vBound 6 = 1 then 0 else alZ vFl1) from by first | exact (if_pos (by omega)).symm | exact (if_neg (by omega)).symm), (show 0 ≤ (0 : Int) ∧ (0 : Int) ≤ 68400 from by omega), (show (upZ (upZ (upZ vSums 0 ((vSums 0) + ((alZ vFl1) + vMi1))) 1 (((upZ vSums 0 ((vSums 0) + ((alZ vFl1) + vMi1))) 1) + vMi1)) 2 (((upZ (upZ vSums 0 ((vSums 0) + ((alZ vFl1) + vMi1))) 1 (((upZ vSums 0 ((vSums 0) + ((alZ vFl1) + vMi1))) 1) + vMi1)) 2) + (alZ vFl1))) = (if trN vFl1 vBound 6 = 1 then adZ (adZ (adZ vSums 0 (alZ vFl1 + vMi1)) 1 vMi1) 2 (alZ vFl1) else adZ (adZ (adZ vSums 0 (alZ vFl1 + vMi1)) 1 vMi1) 3 (alZ vFl1)) from by first | (rw [if_pos (by omega)]; rfl) | (rw [if_neg (by omega)]; rfl)), (show (vTrips + 1) = (if trN vFl1 vBound 6 = 1 then vTrips + 1 else vTrips) from by first | exact (if_pos (by omega)).symm | exact (if_neg (by omega)).symm), (show n_2 = (if trN vFl1 vBound 6 = 1 then snZ vStrain vFl1 vBound 6 else vStrain) from by first | exact (if_neg (by omega)).symm | (rw [if_pos (by omega)]; exact p4)), (show n_3 = (if trN vFl1 vBound 6 = 1 then stZ vAim vBrk vN else vAim) from by first | exact (if_neg (by omega)).symm | (rw [if_pos (by omega)]; exact p5)), (show ∀ k : Int, -1 ≤ n_3 k ∧ n_3 k ≤ 5 from p6)⟩⟩, hz_at hP ht⟩, hS.F ht⟩) hS.2.2 dX7_receiveHeat_74
abbrev Q_X7_moveSaltToHot (G : va_G) (ah : Nat → Nat) (z : LZ) (y : Nat → ClassId) (vN vC vNow vHaze vCold vHot vPipe vDeg vThaw vTrc vTurb vLeft vLoad vWater vTrips vMi1 vMi2 vSz vBs : Int) (vCell vDirt vAim vErr vCor vBrk vTop vLm vRows vCols vDown vRight vBound vStrain vPrice vFirm vSums vTk vFl1 vFl2 vTe vAw vRo vBe : Int → Int) (heat : Int) (A : Nat → Prop) : Array Value → State → Outcome → State → Prop := va_Qi (fun (r : Int32) (u : Int × Int × Int × (Int → Int)) => r = zI (u.1) ∧ (u.1 = cmZ vPipe heat vCold) ∧ (u.2.1 = vCold - u.1) ∧ (u.2.2.1 = vHot + u.1) ∧ (u.2.2.2 = adZ (adZ vSums 4 (heat - 100 * u.1)) 5 u.1) ∧ (0 ≤ u.2.1 ∧ 0 ≤ u.2.2.1 ∧ u.2.1 + u.2.2.1 ≤ 1000) ∧ (0 ≤ u.1 ∧ u.1 ≤ 1000)) (fun (u : Int × Int × Int × (Int → Int)) t => va_P G vwCl (hW ah z y vN vC vNow vHaze u.2.1 u.2.2.1 vPipe vDeg vThaw vTrc vTurb vLeft vLoad vWater vTrips vMi1 vMi2 vSz vBs vCell vDirt vAim vErr vCor vBrk vTop vLm vRows vCols vDown vRight vBound vStrain vPrice vFirm u.2.2.2 vTk vFl1 vFl2 vTe vAw vRo vBe) t.heap) A
set_option maxHeartbeats 4000000 in
set_option maxRecDepth 100000 in
theorem c_X7_moveSaltToHot (l : Launch) (G : va_G) (ah : Nat → Nat) (z : LZ) (zE : Nat) (y : Nat → ClassId) (sz : Nat) (vN vC vNow vHaze vCold vHot vPipe vDeg vThaw vTrc vTurb vLeft vLoad vWater vTrips vMi1 vMi2 vSz vBs : Int) (vCell vDirt vAim vErr vCor vBrk vTop vLm vRows vCols vDown vRight vBound vStrain vPrice vFirm vSums vTk vFl1 vFl2 vTe vAw vRo vBe : Int → Int) (heat : Int) (hSalt : 0 ≤ vCold ∧ 0 ≤ vHot ∧ vCold + vHot ≤ 1000) (hPipe : 0 ≤ vPipe ∧ vPipe ≤ 2) (hh : 0 ≤ heat ∧ heat ≤ 68400) : Met l yX7_moveSaltToHot wsX7_moveSaltToHot ({ frames := 1, cells := 0, slots := 0, locals := 21 }) (va_Pc [.ref (ah 0), zi heat] (HPreG zE G (tyL y) (hW ah z y vN vC vNow vHaze vCold vHot vPipe vDeg vThaw vTrc vTurb vLeft vLoad vWater vTrips vMi1 vMi2 vSz vBs vCell vDirt vAim vErr vCor vBrk vTop vLm vRows vCols vDown vRight vBound vStrain vPrice vFirm vSums vTk vFl1 vFl2 vTe vAw vRo vBe) sz)) (Q_X7_moveSaltToHot G ah z y vN vC vNow vHaze vCold vHot vPipe vDeg vThaw vTrc vTurb vLeft vLoad vWater vTrips vMi1 vMi2 vSz vBs vCell vDirt vAim vErr vCor vBrk vTop vLm vRows vCols vDown vRight vBound vStrain vPrice vFirm vSums vTk vFl1 vFl2 vTe vAw vRo vBe heat (va_A (hW ah z y vN vC vNow vHaze vCold vHot vPipe vDeg vThaw vTrc vTurb vLeft vLoad vWater vTrips vMi1 vMi2 vSz vBs vCell vDirt vAim vErr vCor vBrk vTop vLm vRows vCols vDown vRight vBound vStrain vPrice vFirm vSums vTk vFl1 vFl2 vTe vAw vRo vBe) sz)) 0 0 (va_A (hW ah z y vN vC vNow vHaze vCold vHot vPipe vDeg vThaw vTrc vTurb vLeft vLoad vWater vTrips vMi1 vMi2 vSz vBs vCell vDirt vAim vErr vCor vBrk vTop vLm vRows vCols vDown vRight vBound vStrain vPrice vFirm vSums vTk vFl1 vFl2 vTe vAw vRo vBe) sz) := by
  refine hz_ofWG (Qf := Q_X7_moveSaltToHot G ah z y vN vC vNow vHaze vCold vHot vPipe vDeg vThaw vTrc vTurb vLeft vLoad vWater vTrips vMi1 vMi2 vSz vBs vCell vDirt vAim vErr vCor vBrk vTop vLm vRows vCols vDown vRight vBound vStrain vPrice vFirm vSums vTk vFl1 vFl2 vTe vAw vRo vBe heat) (cc := cX7_moveSaltToHot) (maxL := 3) (ret := (some .int)) (by decide) rfl (Nat.le_of_ble_eq_true rfl) ?_
  intro p e s m below meth c A ls hx hb hr hts hown hin hlocks hml hP hK hA hD hS hGP hl
  have hown : s.vm.findClass RX7 = some m.cls := hown
  have hl : lv_has ls 3 [(0, .ref (ah 0)), (1, zi heat)] := hl
  have hinwsX50 : ∀ w ∈ wsX50, w ∈ wsX7_moveSaltToHot := fun _ h => List.mem_cons_of_mem _ (List.mem_append_right _ (h))
  have hinwsX70 : ∀ w ∈ wsX70, w ∈ wsX7_moveSaltToHot := fun _ h => List.mem_cons_of_mem _ (List.mem_append_left _ (List.mem_append_right _ (h)))
  refine lv_aload_n hx hb dX7_moveSaltToHot_0 rfl (lv_at hl 0 rfl) ?_
  refine va_get (D := G) (ci := 8) (v := .ref (ah 5)) (C := RX7) (T := TX7) (N := 14) hx hb hts hinwsX70 hown hK hP 0 rfl rfl 8 (by decide) (hts (.fieldLink RX7 44 "Heliokeep" "pipe" "LHeliokeep$Pipe;") (List.mem_of_getElem? (i := 1) rfl)) (fun _ h9 => h9) rfl dX7_moveSaltToHot_1 ?_
  refine va_get (D := G) (ci := 6) (v := zi vPipe) (C := RX5) (T := TX5) (N := 4) hx hb hts hinwsX50 hown hK hP 5 rfl rfl 0 (by decide) (hts (.fieldLink RX7 255 "Heliokeep$Pipe" "state" "I") (List.mem_of_getElem? (i := 2) rfl)) (fun _ h9 => h9) rfl dX7_moveSaltToHot_4 ?_
  refine hz_iconst hx hb dX7_moveSaltToHot_7 ?_
  refine hz_icmp_ne (tgt := 25) hx hb dX7_moveSaltToHot_8 (by decide) (by omega) (fun c1 => ?_) (fun c1 => ?_)
  · refine hz_iconst hx hb dX7_moveSaltToHot_25 ?_
    refine lv_istore_n (lv' := [(2, zi 0), (0, .ref (ah 0)), (1, zi heat)]) hx hb dX7_moveSaltToHot_26 rfl hl (by decide) rfl (fun ls hl => ?_)
    refine lv_aload_n hx hb dX7_moveSaltToHot_27 rfl (lv_at hl 1 rfl) ?_
    refine lv_dup hx hb dX7_moveSaltToHot_28 rfl ?_
    refine va_get (D := G) (ci := 8) (v := zi vCold) (C := RX7) (T := TX7) (N := 14) hx hb hts hinwsX70 hown hK hP 0 rfl rfl 6 (by decide) (hts (.fieldLink RX7 37 "Heliokeep" "cold" "I") (List.mem_of_getElem? (i := 3) rfl)) (fun _ h9 => h9) rfl dX7_moveSaltToHot_29 ?_
    refine lv_iload_n hx hb dX7_moveSaltToHot_32 rfl (lv_at hl 0 rfl) ?_
    refine hz_isub hx hb dX7_moveSaltToHot_33 ?_
    refine va_put (D := G) (ci := 8) (v := zi (vCold - 0)) (ty := .int) (C := RX7) (T := TX7) (N := 14) hx hb hts hinwsX70 tyX7 tyX7_ok nmX7 hown hK hP hD hS 0 rfl rfl 6 (by decide) (hts (.fieldLink RX7 37 "Heliokeep" "cold" "I") (List.mem_of_getElem? (i := 3) rfl)) (fun _ h9 => h9) rfl (by decide +kernel) rfl rfl (Nat.le_of_ble_eq_true rfl) dX7_moveSaltToHot_34 (fun H locs hP hD hS => ?_)
    have hP : va_P G vwCl (hW ah z y vN vC vNow vHaze (vCold - 0) vHot vPipe vDeg vThaw vTrc vTurb vLeft vLoad vWater vTrips vMi1 vMi2 vSz vBs vCell vDirt vAim vErr vCor vBrk vTop vLm vRows vCols vDown vRight vBound vStrain vPrice vFirm vSums vTk vFl1 vFl2 vTe vAw vRo vBe) H := hP
    have hD : va_D A (hW ah z y vN vC vNow vHaze (vCold - 0) vHot vPipe vDeg vThaw vTrc vTurb vLeft vLoad vWater vTrips vMi1 vMi2 vSz vBs vCell vDirt vAim vErr vCor vBrk vTop vLm vRows vCols vDown vRight vBound vStrain vPrice vFirm vSums vTk vFl1 vFl2 vTe vAw vRo vBe) := hD
    refine lv_aload_n hx hb dX7_moveSaltToHot_37 rfl (lv_at hl 1 rfl) ?_
    refine lv_dup hx hb dX7_moveSaltToHot_38 rfl ?_
    refine va_get (D := G) (ci := 8) (v := zi vHot) (C := RX7) (T := TX7) (N := 14) hx hb hts hinwsX70 hown hK hP 0 rfl rfl 7 (by decide) (hts (.fieldLink RX7 250 "Heliokeep" "hot" "I") (List.mem_of_getElem? (i := 8) rfl)) (fun _ h9 => h9) rfl dX7_moveSaltToHot_39 ?_
    refine lv_iload_n hx hb dX7_moveSaltToHot_42 rfl (lv_at hl 0 rfl) ?_
    refine hz_iadd hx hb dX7_moveSaltToHot_43 ?_
    refine va_put (D := G) (ci := 8) (v := zi (vHot + 0)) (ty := .int) (C := RX7) (T := TX7) (N := 14) hx hb hts hinwsX70 tyX7 tyX7_ok nmX7 hown hK hP hD hS 0 rfl rfl 7 (by decide) (hts (.fieldLink RX7 250 "Heliokeep" "hot" "I") (List.mem_of_getElem? (i := 8) rfl)) (fun _ h9 => h9) rfl (by decide +kernel) rfl rfl (Nat.le_of_ble_eq_true rfl) dX7_moveSaltToHot_44 (fun H locs hP hD hS => ?_)
    have hP : va_P G vwCl (hW ah z y vN vC vNow vHaze (vCold - 0) (vHot + 0) vPipe vDeg vThaw vTrc vTurb vLeft vLoad vWater vTrips vMi1 vMi2 vSz vBs vCell vDirt vAim vErr vCor vBrk vTop vLm vRows vCols vDown vRight vBound vStrain vPrice vFirm vSums vTk vFl1 vFl2 vTe vAw vRo vBe) H := hP
    have hD : va_D A (hW ah z y vN vC vNow vHaze (vCold - 0) (vHot + 0) vPipe vDeg vThaw vTrc vTurb vLeft vLoad vWater vTrips vMi1 vMi2 vSz vBs vCell vDirt vAim vErr vCor vBrk vTop vLm vRows vCols vDown vRight vBound vStrain vPrice vFirm vSums vTk vFl1 vFl2 vTe vAw vRo vBe) := hD
    refine lv_aload_n hx hb dX7_moveSaltToHot_47 rfl (lv_at hl 1 rfl) ?_
    refine va_get (D := G) (ci := 8) (v := .ref (ah 18)) (C := RX7) (T := TX7) (N := 14) hx hb hts hinwsX70 hown hK hP 0 rfl rfl 13 (by decide) (hts (.fieldLink RX7 61 "Heliokeep" "sums" "[J") (List.mem_of_getElem? (i := 9) rfl)) (fun _ h9 => h9) rfl dX7_moveSaltToHot_48 ?_
    refine hz_iconst hx hb dX7_moveSaltToHot_51 ?_
    refine lv_dup2_11 hx hb dX7_moveSaltToHot_52 rfl rfl ?_
    refine hz_lald (f := vSums) hx hb hK hP 18 1 rfl rfl (Nat.le_of_ble_eq_true rfl) (by omega) dX7_moveSaltToHot_53 ?_
    refine lv_iload_n hx hb dX7_moveSaltToHot_54 rfl (lv_at hl 0 rfl) ?_
    refine hz_i2l hx hb dX7_moveSaltToHot_55 (by omega) ?_
    refine hz_ladd hx hb dX7_moveSaltToHot_56 ?_
    refine hz_last (f := vSums) hx hb hK hP hD hS 18 1 rfl rfl (Nat.le_of_ble_eq_true rfl) (by omega) dX7_moveSaltToHot_57 (fun H locs hP hD hS => ?_)
    have hP : va_P G vwCl (hW ah z y vN vC vNow vHaze (vCold - 0) (vHot + 0) vPipe vDeg vThaw vTrc vTurb vLeft vLoad vWater vTrips vMi1 vMi2 vSz vBs vCell vDirt vAim vErr vCor vBrk vTop vLm vRows vCols vDown vRight vBound vStrain vPrice vFirm (upZ vSums 5 ((vSums 5) + 0)) vTk vFl1 vFl2 vTe vAw vRo vBe) H := hP
    have hD : va_D A (hW ah z y vN vC vNow vHaze (vCold - 0) (vHot + 0) vPipe vDeg vThaw vTrc vTurb vLeft vLoad vWater vTrips vMi1 vMi2 vSz vBs vCell vDirt vAim vErr vCor vBrk vTop vLm vRows vCols vDown vRight vBound vStrain vPrice vFirm (upZ vSums 5 ((vSums 5) + 0)) vTk vFl1 vFl2 vTe vAw vRo vBe) := hD
    refine lv_aload_n hx hb dX7_moveSaltToHot_58 rfl (lv_at hl 1 rfl) ?_
    refine va_get (D := G) (ci := 8) (v := .ref (ah 18)) (C := RX7) (T := TX7) (N := 14) hx hb hts hinwsX70 hown hK hP 0 rfl rfl 13 (by decide) (hts (.fieldLink RX7 61 "Heliokeep" "sums" "[J") (List.mem_of_getElem? (i := 9) rfl)) (fun _ h9 => h9) rfl dX7_moveSaltToHot_59 ?_
    refine hz_iconst hx hb dX7_moveSaltToHot_62 ?_
    refine lv_dup2_11 hx hb dX7_moveSaltToHot_63 rfl rfl ?_
    refine hz_lald (f := (upZ vSums 5 ((vSums 5) + 0))) hx hb hK hP 18 1 rfl rfl (Nat.le_of_ble_eq_true rfl) (by omega) dX7_moveSaltToHot_64 ?_
    refine lv_iload_n hx hb dX7_moveSaltToHot_65 rfl (lv_at hl 2 rfl) ?_
    refine lv_iload_n hx hb dX7_moveSaltToHot_66 rfl (lv_at hl 0 rfl) ?_
    refine hz_bipush hx hb dX7_moveSaltToHot_67 (by decide) ?_
    refine hz_imul hx hb dX7_moveSaltToHot_69 ?_
    refine hz_isub hx hb dX7_moveSaltToHot_70 ?_
    refine hz_i2l hx hb dX7_moveSaltToHot_71 (by omega) ?_
    refine hz_ladd hx hb dX7_moveSaltToHot_72 ?_
    refine hz_last (f := (upZ vSums 5 ((vSums 5) + 0))) hx hb hK hP hD hS 18 1 rfl rfl (Nat.le_of_ble_eq_true rfl) (by omega) dX7_moveSaltToHot_73 (fun H locs hP hD hS => ?_)
    have hP : va_P G vwCl (hW ah z y vN vC vNow vHaze (vCold - 0) (vHot + 0) vPipe vDeg vThaw vTrc vTurb vLeft vLoad vWater vTrips vMi1 vMi2 vSz vBs vCell vDirt vAim vErr vCor vBrk vTop vLm vRows vCols vDown vRight vBound vStrain vPrice vFirm (upZ (upZ vSums 5 ((vSums 5) + 0)) 4 (((upZ vSums 5 ((vSums 5) + 0)) 4) + (heat - (0 * 100)))) vTk vFl1 vFl2 vTe vAw vRo vBe) H := hP
    have hD : va_D A (hW ah z y vN vC vNow vHaze (vCold - 0) (vHot + 0) vPipe vDeg vThaw vTrc vTurb vLeft vLoad vWater vTrips vMi1 vMi2 vSz vBs vCell vDirt vAim vErr vCor vBrk vTop vLm vRows vCols vDown vRight vBound vStrain vPrice vFirm (upZ (upZ vSums 5 ((vSums 5) + 0)) 4 (((upZ vSums 5 ((vSums 5) + 0)) 4) + (heat - (0 * 100)))) vTk vFl1 vFl2 vTe vAw vRo vBe) := hD
    refine lv_iload_n hx hb dX7_moveSaltToHot_74 rfl (lv_at hl 0 rfl) ?_
    exact W.iret (v := zI 0) hx hb hr (fun t ht hW => ⟨⟨zI 0, (0, (vCold - 0), (vHot + 0), (upZ (upZ vSums 5 ((vSums 5) + 0)) 4 (((upZ vSums 5 ((vSums 5) + 0)) 4) + (heat - (0 * 100))))), rfl, ⟨rfl, ⟨(show (0 : Int) = cmZ vPipe heat vCold from by unfold cmZ; omega), (show (vCold - 0) = vCold - (0 : Int) from by omega), (show (vHot + 0) = vHot + (0 : Int) from by omega), (show (upZ (upZ vSums 5 ((vSums 5) + 0)) 4 (((upZ vSums 5 ((vSums 5) + 0)) 4) + (heat - (0 * 100)))) = adZ (adZ vSums 4 (heat - 100 * (0 : Int))) 5 (0 : Int) from by rw [adZ_cm (by decide), show heat - 100 * (0 : Int) = heat - (0 : Int) * 100 from by omega]; rfl), (show 0 ≤ (vCold - 0) ∧ 0 ≤ (vHot + 0) ∧ (vCold - 0) + (vHot + 0) ≤ 1000 from by omega), (show 0 ≤ (0 : Int) ∧ (0 : Int) ≤ 1000 from by omega)⟩⟩, hz_at hP ht⟩, hS.F ht⟩) hS.2.2 dX7_moveSaltToHot_75
  · refine lv_iload_n hx hb dX7_moveSaltToHot_11 rfl (lv_at hl 1 rfl) ?_
    refine hz_bipush hx hb dX7_moveSaltToHot_12 (by decide) ?_
    refine hz_idiv hx hb dX7_moveSaltToHot_14 (by omega) ?_
    refine lv_aload_n hx hb dX7_moveSaltToHot_15 rfl (lv_at hl 0 rfl) ?_
    refine va_get (D := G) (ci := 8) (v := zi vCold) (C := RX7) (T := TX7) (N := 14) hx hb hts hinwsX70 hown hK hP 0 rfl rfl 6 (by decide) (hts (.fieldLink RX7 37 "Heliokeep" "cold" "I") (List.mem_of_getElem? (i := 3) rfl)) (fun _ h9 => h9) rfl dX7_moveSaltToHot_16 ?_
    refine hz_mmin hx hb (hml.trans hl.1.symm) hown (hts (.methodLink RX7 110 Lib.Math.min.name) (List.mem_of_getElem? (i := 4) rfl)) (hts (.static Lib.Math.min.name) (List.mem_of_getElem? (i := 5) rfl)) (hts (.initialized "java/lang/Math") (List.mem_of_getElem? (i := 6) rfl)) (hts (.code Lib.Math.min.name Lib.Math.min.code 2 (some .int)) (List.mem_of_getElem? (i := 7) rfl)) (Nat.le_of_ble_eq_true rfl) (Nat.le_of_ble_eq_true rfl) (Nat.le_of_ble_eq_true rfl) (Nat.le_of_ble_eq_true rfl) (by omega) dX7_moveSaltToHot_19 ?_
    refine hz_topi (fun z2 e3 => ?_)
    refine lv_goto (tgt := 26) hx hb dX7_moveSaltToHot_22 (by decide) ?_
    refine lv_istore_n (lv' := [(2, zi z2), (0, .ref (ah 0)), (1, zi heat)]) hx hb dX7_moveSaltToHot_26 rfl hl (by decide) rfl (fun ls hl => ?_)
    refine lv_aload_n hx hb dX7_moveSaltToHot_27 rfl (lv_at hl 1 rfl) ?_
    refine lv_dup hx hb dX7_moveSaltToHot_28 rfl ?_
    refine va_get (D := G) (ci := 8) (v := zi vCold) (C := RX7) (T := TX7) (N := 14) hx hb hts hinwsX70 hown hK hP 0 rfl rfl 6 (by decide) (hts (.fieldLink RX7 37 "Heliokeep" "cold" "I") (List.mem_of_getElem? (i := 3) rfl)) (fun _ h9 => h9) rfl dX7_moveSaltToHot_29 ?_
    refine lv_iload_n hx hb dX7_moveSaltToHot_32 rfl (lv_at hl 0 rfl) ?_
    refine hz_isub hx hb dX7_moveSaltToHot_33 ?_
    refine va_put (D := G) (ci := 8) (v := zi (vCold - z2)) (ty := .int) (C := RX7) (T := TX7) (N := 14) hx hb hts hinwsX70 tyX7 tyX7_ok nmX7 hown hK hP hD hS 0 rfl rfl 6 (by decide) (hts (.fieldLink RX7 37 "Heliokeep" "cold" "I") (List.mem_of_getElem? (i := 3) rfl)) (fun _ h9 => h9) rfl (by decide +kernel) rfl rfl (Nat.le_of_ble_eq_true rfl) dX7_moveSaltToHot_34 (fun H locs hP hD hS => ?_)
    have hP : va_P G vwCl (hW ah z y vN vC vNow vHaze (vCold - z2) vHot vPipe vDeg vThaw vTrc vTurb vLeft vLoad vWater vTrips vMi1 vMi2 vSz vBs vCell vDirt vAim vErr vCor vBrk vTop vLm vRows vCols vDown vRight vBound vStrain vPrice vFirm vSums vTk vFl1 vFl2 vTe vAw vRo vBe) H := hP
    have hD : va_D A (hW ah z y vN vC vNow vHaze (vCold - z2) vHot vPipe vDeg vThaw vTrc vTurb vLeft vLoad vWater vTrips vMi1 vMi2 vSz vBs vCell vDirt vAim vErr vCor vBrk vTop vLm vRows vCols vDown vRight vBound vStrain vPrice vFirm vSums vTk vFl1 vFl2 vTe vAw vRo vBe) := hD
    refine lv_aload_n hx hb dX7_moveSaltToHot_37 rfl (lv_at hl 1 rfl) ?_
    refine lv_dup hx hb dX7_moveSaltToHot_38 rfl ?_
    refine va_get (D := G) (ci := 8) (v := zi vHot) (C := RX7) (T := TX7) (N := 14) hx hb hts hinwsX70 hown hK hP 0 rfl rfl 7 (by decide) (hts (.fieldLink RX7 250 "Heliokeep" "hot" "I") (List.mem_of_getElem? (i := 8) rfl)) (fun _ h9 => h9) rfl dX7_moveSaltToHot_39 ?_
    refine lv_iload_n hx hb dX7_moveSaltToHot_42 rfl (lv_at hl 0 rfl) ?_
    refine hz_iadd hx hb dX7_moveSaltToHot_43 ?_
    refine va_put (D := G) (ci := 8) (v := zi (vHot + z2)) (ty := .int) (C := RX7) (T := TX7) (N := 14) hx hb hts hinwsX70 tyX7 tyX7_ok nmX7 hown hK hP hD hS 0 rfl rfl 7 (by decide) (hts (.fieldLink RX7 250 "Heliokeep" "hot" "I") (List.mem_of_getElem? (i := 8) rfl)) (fun _ h9 => h9) rfl (by decide +kernel) rfl rfl (Nat.le_of_ble_eq_true rfl) dX7_moveSaltToHot_44 (fun H locs hP hD hS => ?_)
    have hP : va_P G vwCl (hW ah z y vN vC vNow vHaze (vCold - z2) (vHot + z2) vPipe vDeg vThaw vTrc vTurb vLeft vLoad vWater vTrips vMi1 vMi2 vSz vBs vCell vDirt vAim vErr vCor vBrk vTop vLm vRows vCols vDown vRight vBound vStrain vPrice vFirm vSums vTk vFl1 vFl2 vTe vAw vRo vBe) H := hP
    have hD : va_D A (hW ah z y vN vC vNow vHaze (vCold - z2) (vHot + z2) vPipe vDeg vThaw vTrc vTurb vLeft vLoad vWater vTrips vMi1 vMi2 vSz vBs vCell vDirt vAim vErr vCor vBrk vTop vLm vRows vCols vDown vRight vBound vStrain vPrice vFirm vSums vTk vFl1 vFl2 vTe vAw vRo vBe) := hD
    refine lv_aload_n hx hb dX7_moveSaltToHot_47 rfl (lv_at hl 1 rfl) ?_
    refine va_get (D := G) (ci := 8) (v := .ref (ah 18)) (C := RX7) (T := TX7) (N := 14) hx hb hts hinwsX70 hown hK hP 0 rfl rfl 13 (by decide) (hts (.fieldLink RX7 61 "Heliokeep" "sums" "[J") (List.mem_of_getElem? (i := 9) rfl)) (fun _ h9 => h9) rfl dX7_moveSaltToHot_48 ?_
    refine hz_iconst hx hb dX7_moveSaltToHot_51 ?_
    refine lv_dup2_11 hx hb dX7_moveSaltToHot_52 rfl rfl ?_
    refine hz_lald (f := vSums) hx hb hK hP 18 1 rfl rfl (Nat.le_of_ble_eq_true rfl) (by omega) dX7_moveSaltToHot_53 ?_
    refine lv_iload_n hx hb dX7_moveSaltToHot_54 rfl (lv_at hl 0 rfl) ?_
    refine hz_i2l hx hb dX7_moveSaltToHot_55 (by omega) ?_
    refine hz_ladd hx hb dX7_moveSaltToHot_56 ?_
    refine hz_last (f := vSums) hx hb hK hP hD hS 18 1 rfl rfl (Nat.le_of_ble_eq_true rfl) (by omega) dX7_moveSaltToHot_57 (fun H locs hP hD hS => ?_)
    have hP : va_P G vwCl (hW ah z y vN vC vNow vHaze (vCold - z2) (vHot + z2) vPipe vDeg vThaw vTrc vTurb vLeft vLoad vWater vTrips vMi1 vMi2 vSz vBs vCell vDirt vAim vErr vCor vBrk vTop vLm vRows vCols vDown vRight vBound vStrain vPrice vFirm (upZ vSums 5 ((vSums 5) + z2)) vTk vFl1 vFl2 vTe vAw vRo vBe) H := hP
    have hD : va_D A (hW ah z y vN vC vNow vHaze (vCold - z2) (vHot + z2) vPipe vDeg vThaw vTrc vTurb vLeft vLoad vWater vTrips vMi1 vMi2 vSz vBs vCell vDirt vAim vErr vCor vBrk vTop vLm vRows vCols vDown vRight vBound vStrain vPrice vFirm (upZ vSums 5 ((vSums 5) + z2)) vTk vFl1 vFl2 vTe vAw vRo vBe) := hD
    refine lv_aload_n hx hb dX7_moveSaltToHot_58 rfl (lv_at hl 1 rfl) ?_
    refine va_get (D := G) (ci := 8) (v := .ref (ah 18)) (C := RX7) (T := TX7) (N := 14) hx hb hts hinwsX70 hown hK hP 0 rfl rfl 13 (by decide) (hts (.fieldLink RX7 61 "Heliokeep" "sums" "[J") (List.mem_of_getElem? (i := 9) rfl)) (fun _ h9 => h9) rfl dX7_moveSaltToHot_59 ?_
    refine hz_iconst hx hb dX7_moveSaltToHot_62 ?_
    refine lv_dup2_11 hx hb dX7_moveSaltToHot_63 rfl rfl ?_
    refine hz_lald (f := (upZ vSums 5 ((vSums 5) + z2))) hx hb hK hP 18 1 rfl rfl (Nat.le_of_ble_eq_true rfl) (by omega) dX7_moveSaltToHot_64 ?_
    refine lv_iload_n hx hb dX7_moveSaltToHot_65 rfl (lv_at hl 2 rfl) ?_
    refine lv_iload_n hx hb dX7_moveSaltToHot_66 rfl (lv_at hl 0 rfl) ?_
    refine hz_bipush hx hb dX7_moveSaltToHot_67 (by decide) ?_
    refine hz_imul hx hb dX7_moveSaltToHot_69 ?_
    refine hz_isub hx hb dX7_moveSaltToHot_70 ?_
    refine hz_i2l hx hb dX7_moveSaltToHot_71 (by omega) ?_
    refine hz_ladd hx hb dX7_moveSaltToHot_72 ?_
    refine hz_last (f := (upZ vSums 5 ((vSums 5) + z2))) hx hb hK hP hD hS 18 1 rfl rfl (Nat.le_of_ble_eq_true rfl) (by omega) dX7_moveSaltToHot_73 (fun H locs hP hD hS => ?_)
    have hP : va_P G vwCl (hW ah z y vN vC vNow vHaze (vCold - z2) (vHot + z2) vPipe vDeg vThaw vTrc vTurb vLeft vLoad vWater vTrips vMi1 vMi2 vSz vBs vCell vDirt vAim vErr vCor vBrk vTop vLm vRows vCols vDown vRight vBound vStrain vPrice vFirm (upZ (upZ vSums 5 ((vSums 5) + z2)) 4 (((upZ vSums 5 ((vSums 5) + z2)) 4) + (heat - (z2 * 100)))) vTk vFl1 vFl2 vTe vAw vRo vBe) H := hP
    have hD : va_D A (hW ah z y vN vC vNow vHaze (vCold - z2) (vHot + z2) vPipe vDeg vThaw vTrc vTurb vLeft vLoad vWater vTrips vMi1 vMi2 vSz vBs vCell vDirt vAim vErr vCor vBrk vTop vLm vRows vCols vDown vRight vBound vStrain vPrice vFirm (upZ (upZ vSums 5 ((vSums 5) + z2)) 4 (((upZ vSums 5 ((vSums 5) + z2)) 4) + (heat - (z2 * 100)))) vTk vFl1 vFl2 vTe vAw vRo vBe) := hD
    refine lv_iload_n hx hb dX7_moveSaltToHot_74 rfl (lv_at hl 0 rfl) ?_
    exact W.iret (v := zI z2) hx hb hr (fun t ht hW => ⟨⟨zI z2, (z2, (vCold - z2), (vHot + z2), (upZ (upZ vSums 5 ((vSums 5) + z2)) 4 (((upZ vSums 5 ((vSums 5) + z2)) 4) + (heat - (z2 * 100))))), rfl, ⟨rfl, ⟨(show z2 = cmZ vPipe heat vCold from by unfold cmZ; omega), (show (vCold - z2) = vCold - z2 from by omega), (show (vHot + z2) = vHot + z2 from by omega), (show (upZ (upZ vSums 5 ((vSums 5) + z2)) 4 (((upZ vSums 5 ((vSums 5) + z2)) 4) + (heat - (z2 * 100)))) = adZ (adZ vSums 4 (heat - 100 * z2)) 5 z2 from by rw [adZ_cm (by decide), show heat - 100 * z2 = heat - z2 * 100 from by omega]; rfl), (show 0 ≤ (vCold - z2) ∧ 0 ≤ (vHot + z2) ∧ (vCold - z2) + (vHot + z2) ≤ 1000 from by omega), (show 0 ≤ z2 ∧ z2 ≤ 1000 from by omega)⟩⟩, hz_at hP ht⟩, hS.F ht⟩) hS.2.2 dX7_moveSaltToHot_75
abbrev Q_X7_makeEnergy (G : va_G) (ah : Nat → Nat) (z : LZ) (y : Nat → ClassId) (vN vC vNow vHaze vCold vHot vPipe vDeg vThaw vTrc vTurb vLeft vLoad vWater vTrips vMi1 vMi2 vSz vBs : Int) (vCell vDirt vAim vErr vCor vBrk vTop vLm vRows vCols vDown vRight vBound vStrain vPrice vFirm vSums vTk vFl1 vFl2 vTe vAw vRo vBe : Int → Int)  (A : Nat → Prop) : Array Value → State → Outcome → State → Prop := va_Qi (fun (r : Int32) (u : Int × Int × Int × Int × Int × (Int → Int)) => r = zI (u.1) ∧ (u.1 = tuZ vTurb vLoad vHot * (10 - strZ vNow / 5)) ∧ (0 ≤ u.1 ∧ u.1 ≤ 200) ∧ (u.2.1 = vCold + tuZ vTurb vLoad vHot) ∧ (u.2.2.1 = vHot - tuZ vTurb vLoad vHot) ∧ (u.2.2.2.1 = nbZ vTurb vLeft) ∧ (u.2.2.2.2.1 = nlZ vTurb vLeft) ∧ (u.2.2.2.2.2 = adZ vSums 6 u.1) ∧ (0 ≤ u.2.1 ∧ 0 ≤ u.2.2.1 ∧ u.2.1 + u.2.2.1 ≤ 1000) ∧ (0 ≤ u.2.2.2.1 ∧ u.2.2.2.1 ≤ 2) ∧ (0 ≤ u.2.2.2.2.1 ∧ u.2.2.2.2.1 ≤ 2 ∧ (u.2.2.2.1 = 1 → 1 ≤ u.2.2.2.2.1))) (fun (u : Int × Int × Int × Int × Int × (Int → Int)) t => va_P G vwCl (hW ah z y vN vC vNow vHaze u.2.1 u.2.2.1 vPipe vDeg vThaw vTrc u.2.2.2.1 u.2.2.2.2.1 vLoad vWater vTrips vMi1 vMi2 vSz vBs vCell vDirt vAim vErr vCor vBrk vTop vLm vRows vCols vDown vRight vBound vStrain vPrice vFirm u.2.2.2.2.2 vTk vFl1 vFl2 vTe vAw vRo vBe) t.heap) A
set_option maxHeartbeats 4000000 in
set_option maxRecDepth 100000 in
theorem c_X7_makeEnergy (l : Launch) (G : va_G) (ah : Nat → Nat) (z : LZ) (zE : Nat) (y : Nat → ClassId) (sz : Nat) (vN vC vNow vHaze vCold vHot vPipe vDeg vThaw vTrc vTurb vLeft vLoad vWater vTrips vMi1 vMi2 vSz vBs : Int) (vCell vDirt vAim vErr vCor vBrk vTop vLm vRows vCols vDown vRight vBound vStrain vPrice vFirm vSums vTk vFl1 vFl2 vTe vAw vRo vBe : Int → Int)  (hNow : 0 ≤ vNow ∧ vNow ≤ 9999) (hSalt : 0 ≤ vCold ∧ 0 ≤ vHot ∧ vCold + vHot ≤ 1000) (hTurb : 0 ≤ vTurb ∧ vTurb ≤ 2) (hLeft : 0 ≤ vLeft ∧ vLeft ≤ 2 ∧ (vTurb = 1 → 1 ≤ vLeft)) (hLoad : 0 ≤ vLoad ∧ vLoad ≤ 20) : Met l yX7_makeEnergy wsX7_makeEnergy ({ frames := 2, cells := 0, slots := 0, locals := 43 }) (va_Pc [.ref (ah 0)] (HPreG zE G (tyL y) (hW ah z y vN vC vNow vHaze vCold vHot vPipe vDeg vThaw vTrc vTurb vLeft vLoad vWater vTrips vMi1 vMi2 vSz vBs vCell vDirt vAim vErr vCor vBrk vTop vLm vRows vCols vDown vRight vBound vStrain vPrice vFirm vSums vTk vFl1 vFl2 vTe vAw vRo vBe) sz)) (Q_X7_makeEnergy G ah z y vN vC vNow vHaze vCold vHot vPipe vDeg vThaw vTrc vTurb vLeft vLoad vWater vTrips vMi1 vMi2 vSz vBs vCell vDirt vAim vErr vCor vBrk vTop vLm vRows vCols vDown vRight vBound vStrain vPrice vFirm vSums vTk vFl1 vFl2 vTe vAw vRo vBe (va_A (hW ah z y vN vC vNow vHaze vCold vHot vPipe vDeg vThaw vTrc vTurb vLeft vLoad vWater vTrips vMi1 vMi2 vSz vBs vCell vDirt vAim vErr vCor vBrk vTop vLm vRows vCols vDown vRight vBound vStrain vPrice vFirm vSums vTk vFl1 vFl2 vTe vAw vRo vBe) sz)) 0 0 (va_A (hW ah z y vN vC vNow vHaze vCold vHot vPipe vDeg vThaw vTrc vTurb vLeft vLoad vWater vTrips vMi1 vMi2 vSz vBs vCell vDirt vAim vErr vCor vBrk vTop vLm vRows vCols vDown vRight vBound vStrain vPrice vFirm vSums vTk vFl1 vFl2 vTe vAw vRo vBe) sz) := by
  refine hz_ofWG (Qf := Q_X7_makeEnergy G ah z y vN vC vNow vHaze vCold vHot vPipe vDeg vThaw vTrc vTurb vLeft vLoad vWater vTrips vMi1 vMi2 vSz vBs vCell vDirt vAim vErr vCor vBrk vTop vLm vRows vCols vDown vRight vBound vStrain vPrice vFirm vSums vTk vFl1 vFl2 vTe vAw vRo vBe) (cc := cX7_makeEnergy) (maxL := 3) (ret := (some .int)) (by decide) rfl (Nat.le_of_ble_eq_true rfl) ?_
  intro p e s m below meth c A ls hx hb hr hts hown hin hlocks hml hP hK hA hD hS hGP hl
  have hown : s.vm.findClass RX7 = some m.cls := hown
  have hl : lv_has ls 3 [(0, .ref (ah 0))] := hl
  have hinwsX20 : ∀ w ∈ wsX20, w ∈ wsX7_makeEnergy := fun _ h => List.mem_cons_of_mem _ (List.mem_append_right _ (h))
  have hinwsX60 : ∀ w ∈ wsX60, w ∈ wsX7_makeEnergy := fun _ h => List.mem_cons_of_mem _ (List.mem_append_left _ (List.mem_append_right _ (h)))
  have hinwsX70 : ∀ w ∈ wsX70, w ∈ wsX7_makeEnergy := fun _ h => List.mem_cons_of_mem _ (List.mem_append_left _ (List.mem_append_left _ (List.mem_append_right _ (h))))
  have qs := strZ_rng vNow
  have qtu : 0 ≤ tuZ vTurb vLoad vHot ∧ tuZ vTurb vLoad vHot ≤ 20 ∧ tuZ vTurb vLoad vHot ≤ vHot := by unfold tuZ; omega
  have qm := mul_20 (u := tuZ vTurb vLoad vHot) (w := 10 - strZ vNow / 5) (by omega) (by omega)
  refine lv_aload_n hx hb dX7_makeEnergy_0 rfl (lv_at hl 0 rfl) ?_
  refine va_get (D := G) (ci := 8) (v := .ref (ah 6)) (C := RX7) (T := TX7) (N := 14) hx hb hts hinwsX70 hown hK hP 0 rfl rfl 9 (by decide) (hts (.fieldLink RX7 51 "Heliokeep" "turbine" "LHeliokeep$Turbine;") (List.mem_of_getElem? (i := 1) rfl)) (fun _ h9 => h9) rfl dX7_makeEnergy_1 ?_
  refine lv_aload_n hx hb dX7_makeEnergy_4 rfl (lv_at hl 0 rfl) ?_
  refine va_get (D := G) (ci := 8) (v := zi vHot) (C := RX7) (T := TX7) (N := 14) hx hb hts hinwsX70 hown hK hP 0 rfl rfl 7 (by decide) (hts (.fieldLink RX7 250 "Heliokeep" "hot" "I") (List.mem_of_getElem? (i := 2) rfl)) (fun _ h9 => h9) rfl dX7_makeEnergy_5 ?_
  refine hz_callVi (ws := (hW ah z y vN vC vNow vHaze vCold vHot vPipe vDeg vThaw vTrc vTurb vLeft vLoad vWater vTrips vMi1 vMi2 vSz vBs vCell vDirt vAim vErr vCor vBrk vTop vLm vRows vCols vDown vRight vBound vStrain vPrice vFirm vSums vTk vFl1 vFl2 vTe vAw vRo vBe)) (wc := (tbW (ah 6) y vTurb vLoad vLeft)) (As := [zi vHot]) (rest := []) ⟨hx, hb, hml, hown, hts⟩ (c_X6_takeTick l G (ah 6) y _ vTurb vLoad vLeft vHot (by omega) (by omega)) (cwV 1 hts gX7_makeEnergy_X6_takeTick rfl rfl rfl (by decide +kernel) ⟨Nat.le_of_ble_eq_true rfl, Nat.le_of_ble_eq_true rfl⟩) hP hK hD hS hA [6] [0, 1, 2, 3] rfl rfl rfl 6 7 rfl rfl rfl rfl hl.1 rfl (Nat.le_of_ble_eq_true rfl) dX7_makeEnergy_8 ⟨Nat.zero_le _, Nat.zero_le _⟩ (fun _ => rfl) (fun u H locs hu hP hD hS => ?_)
  obtain ⟨r_1, n_2, n_3⟩ := u
  have p4 : r_1 = tuZ vTurb vLoad vHot := hu.1
  have p5 : n_2 = nbZ vTurb vLeft := hu.2.1
  have p6 : n_3 = nlZ vTurb vLeft := hu.2.2
  have hP : va_P G vwCl (hW ah z y vN vC vNow vHaze vCold vHot vPipe vDeg vThaw vTrc n_2 n_3 vLoad vWater vTrips vMi1 vMi2 vSz vBs vCell vDirt vAim vErr vCor vBrk vTop vLm vRows vCols vDown vRight vBound vStrain vPrice vFirm vSums vTk vFl1 vFl2 vTe vAw vRo vBe) H := hP
  have hD : va_D A (hW ah z y vN vC vNow vHaze vCold vHot vPipe vDeg vThaw vTrc n_2 n_3 vLoad vWater vTrips vMi1 vMi2 vSz vBs vCell vDirt vAim vErr vCor vBrk vTop vLm vRows vCols vDown vRight vBound vStrain vPrice vFirm vSums vTk vFl1 vFl2 vTe vAw vRo vBe) := hD
  refine hz_tope (z2 := (tuZ vTurb vLoad vHot)) (by exact p4) ?_
  refine lv_istore_n (lv' := [(1, zi (tuZ vTurb vLoad vHot)), (0, .ref (ah 0))]) hx hb dX7_makeEnergy_11 rfl hl (by decide) rfl (fun ls hl => ?_)
  refine lv_aload_n hx hb dX7_makeEnergy_12 rfl (lv_at hl 1 rfl) ?_
  refine lv_dup hx hb dX7_makeEnergy_13 rfl ?_
  refine va_get (D := G) (ci := 8) (v := zi vHot) (C := RX7) (T := TX7) (N := 14) hx hb hts hinwsX70 hown hK hP 0 rfl rfl 7 (by decide) (hts (.fieldLink RX7 250 "Heliokeep" "hot" "I") (List.mem_of_getElem? (i := 2) rfl)) (fun _ h9 => h9) rfl dX7_makeEnergy_14 ?_
  refine lv_iload_n hx hb dX7_makeEnergy_17 rfl (lv_at hl 0 rfl) ?_
  refine hz_isub hx hb dX7_makeEnergy_18 ?_
  refine va_put (D := G) (ci := 8) (v := zi (vHot - (tuZ vTurb vLoad vHot))) (ty := .int) (C := RX7) (T := TX7) (N := 14) hx hb hts hinwsX70 tyX7 tyX7_ok nmX7 hown hK hP hD hS 0 rfl rfl 7 (by decide) (hts (.fieldLink RX7 250 "Heliokeep" "hot" "I") (List.mem_of_getElem? (i := 2) rfl)) (fun _ h9 => h9) rfl (by decide +kernel) rfl rfl (Nat.le_of_ble_eq_true rfl) dX7_makeEnergy_19 (fun H locs hP hD hS => ?_)
  have hP : va_P G vwCl (hW ah z y vN vC vNow vHaze vCold (vHot - (tuZ vTurb vLoad vHot)) vPipe vDeg vThaw vTrc n_2 n_3 vLoad vWater vTrips vMi1 vMi2 vSz vBs vCell vDirt vAim vErr vCor vBrk vTop vLm vRows vCols vDown vRight vBound vStrain vPrice vFirm vSums vTk vFl1 vFl2 vTe vAw vRo vBe) H := hP
  have hD : va_D A (hW ah z y vN vC vNow vHaze vCold (vHot - (tuZ vTurb vLoad vHot)) vPipe vDeg vThaw vTrc n_2 n_3 vLoad vWater vTrips vMi1 vMi2 vSz vBs vCell vDirt vAim vErr vCor vBrk vTop vLm vRows vCols vDown vRight vBound vStrain vPrice vFirm vSums vTk vFl1 vFl2 vTe vAw vRo vBe) := hD
  refine lv_aload_n hx hb dX7_makeEnergy_22 rfl (lv_at hl 1 rfl) ?_
  refine lv_dup hx hb dX7_makeEnergy_23 rfl ?_
  refine va_get (D := G) (ci := 8) (v := zi vCold) (C := RX7) (T := TX7) (N := 14) hx hb hts hinwsX70 hown hK hP 0 rfl rfl 6 (by decide) (hts (.fieldLink RX7 37 "Heliokeep" "cold" "I") (List.mem_of_getElem? (i := 3) rfl)) (fun _ h9 => h9) rfl dX7_makeEnergy_24 ?_
  refine lv_iload_n hx hb dX7_makeEnergy_27 rfl (lv_at hl 0 rfl) ?_
  refine hz_iadd hx hb dX7_makeEnergy_28 ?_
  refine va_put (D := G) (ci := 8) (v := zi (vCold + (tuZ vTurb vLoad vHot))) (ty := .int) (C := RX7) (T := TX7) (N := 14) hx hb hts hinwsX70 tyX7 tyX7_ok nmX7 hown hK hP hD hS 0 rfl rfl 6 (by decide) (hts (.fieldLink RX7 37 "Heliokeep" "cold" "I") (List.mem_of_getElem? (i := 3) rfl)) (fun _ h9 => h9) rfl (by decide +kernel) rfl rfl (Nat.le_of_ble_eq_true rfl) dX7_makeEnergy_29 (fun H locs hP hD hS => ?_)
  have hP : va_P G vwCl (hW ah z y vN vC vNow vHaze (vCold + (tuZ vTurb vLoad vHot)) (vHot - (tuZ vTurb vLoad vHot)) vPipe vDeg vThaw vTrc n_2 n_3 vLoad vWater vTrips vMi1 vMi2 vSz vBs vCell vDirt vAim vErr vCor vBrk vTop vLm vRows vCols vDown vRight vBound vStrain vPrice vFirm vSums vTk vFl1 vFl2 vTe vAw vRo vBe) H := hP
  have hD : va_D A (hW ah z y vN vC vNow vHaze (vCold + (tuZ vTurb vLoad vHot)) (vHot - (tuZ vTurb vLoad vHot)) vPipe vDeg vThaw vTrc n_2 n_3 vLoad vWater vTrips vMi1 vMi2 vSz vBs vCell vDirt vAim vErr vCor vBrk vTop vLm vRows vCols vDown vRight vBound vStrain vPrice vFirm vSums vTk vFl1 vFl2 vTe vAw vRo vBe) := hD
  refine lv_iload_n hx hb dX7_makeEnergy_32 rfl (lv_at hl 0 rfl) ?_
  refine hz_bipush hx hb dX7_makeEnergy_33 (by decide) ?_
  refine lv_aload_n hx hb dX7_makeEnergy_35 rfl (lv_at hl 1 rfl) ?_
  refine va_get (D := G) (ci := 8) (v := .ref (ah 1)) (C := RX7) (T := TX7) (N := 14) hx hb hts hinwsX70 hown hK hP 0 rfl rfl 0 (by decide) (hts (.fieldLink RX7 10 "Heliokeep" "field" "LHeliokeep$Field;") (List.mem_of_getElem? (i := 4) rfl)) (fun _ h9 => h9) rfl dX7_makeEnergy_36 ?_
  refine hz_iconst hx hb dX7_makeEnergy_39 ?_
  refine hz_callRiG (As := [zi 0]) (rest := [zi 10, zi (tuZ vTurb vLoad vHot)]) ⟨hx, hb, hml, hown, hts⟩ (c_X2_strengthBehind l G ah z zE y vN vC vNow vHaze (vCold + (tuZ vTurb vLoad vHot)) (vHot - (tuZ vTurb vLoad vHot)) vPipe vDeg vThaw vTrc n_2 n_3 vLoad vWater vTrips vMi1 vMi2 vSz vBs vCell vDirt vAim vErr vCor vBrk vTop vLm vRows vCols vDown vRight vBound vStrain vPrice vFirm vSums vTk vFl1 vFl2 vTe vAw vRo vBe 0 hNow (by omega)) (cwV 1 hts gX7_makeEnergy_X2_strengthBehind rfl rfl rfl (by decide +kernel) ⟨Nat.le_of_ble_eq_true rfl, Nat.le_of_ble_eq_true rfl⟩) hP hK hS hGP 1 3 rfl rfl rfl rfl hl.1 rfl (Nat.le_of_ble_eq_true rfl) dX7_makeEnergy_40 ⟨Nat.zero_le _, Nat.zero_le _⟩ ?_
  refine hz_tope (z2 := (strZ vNow)) (by rw [Int.add_zero]) ?_
  refine hz_iconst hx hb dX7_makeEnergy_43 ?_
  refine hz_idiv hx hb dX7_makeEnergy_44 (by omega) ?_
  refine hz_isub hx hb dX7_makeEnergy_45 ?_
  refine hz_imul hx hb dX7_makeEnergy_46 ?_
  refine lv_istore_n (lv' := [(2, zi ((tuZ vTurb vLoad vHot) * (10 - ((strZ vNow) / 5)))), (1, zi (tuZ vTurb vLoad vHot)), (0, .ref (ah 0))]) hx hb dX7_makeEnergy_47 rfl hl (by decide) rfl (fun ls hl => ?_)
  refine lv_aload_n hx hb dX7_makeEnergy_48 rfl (lv_at hl 2 rfl) ?_
  refine va_get (D := G) (ci := 8) (v := .ref (ah 18)) (C := RX7) (T := TX7) (N := 14) hx hb hts hinwsX70 hown hK hP 0 rfl rfl 13 (by decide) (hts (.fieldLink RX7 61 "Heliokeep" "sums" "[J") (List.mem_of_getElem? (i := 5) rfl)) (fun _ h9 => h9) rfl dX7_makeEnergy_49 ?_
  refine hz_bipush hx hb dX7_makeEnergy_52 (by decide) ?_
  refine lv_dup2_11 hx hb dX7_makeEnergy_54 rfl rfl ?_
  refine hz_lald (f := vSums) hx hb hK hP 18 1 rfl rfl (Nat.le_of_ble_eq_true rfl) (by omega) dX7_makeEnergy_55 ?_
  refine lv_iload_n hx hb dX7_makeEnergy_56 rfl (lv_at hl 0 rfl) ?_
  refine hz_i2l hx hb dX7_makeEnergy_57 (by omega) ?_
  refine hz_ladd hx hb dX7_makeEnergy_58 ?_
  refine hz_last (f := vSums) hx hb hK hP hD hS 18 1 rfl rfl (Nat.le_of_ble_eq_true rfl) (by omega) dX7_makeEnergy_59 (fun H locs hP hD hS => ?_)
  have hP : va_P G vwCl (hW ah z y vN vC vNow vHaze (vCold + (tuZ vTurb vLoad vHot)) (vHot - (tuZ vTurb vLoad vHot)) vPipe vDeg vThaw vTrc n_2 n_3 vLoad vWater vTrips vMi1 vMi2 vSz vBs vCell vDirt vAim vErr vCor vBrk vTop vLm vRows vCols vDown vRight vBound vStrain vPrice vFirm (upZ vSums 6 ((vSums 6) + ((tuZ vTurb vLoad vHot) * (10 - ((strZ vNow) / 5))))) vTk vFl1 vFl2 vTe vAw vRo vBe) H := hP
  have hD : va_D A (hW ah z y vN vC vNow vHaze (vCold + (tuZ vTurb vLoad vHot)) (vHot - (tuZ vTurb vLoad vHot)) vPipe vDeg vThaw vTrc n_2 n_3 vLoad vWater vTrips vMi1 vMi2 vSz vBs vCell vDirt vAim vErr vCor vBrk vTop vLm vRows vCols vDown vRight vBound vStrain vPrice vFirm (upZ vSums 6 ((vSums 6) + ((tuZ vTurb vLoad vHot) * (10 - ((strZ vNow) / 5))))) vTk vFl1 vFl2 vTe vAw vRo vBe) := hD
  refine lv_iload_n hx hb dX7_makeEnergy_60 rfl (lv_at hl 0 rfl) ?_
  exact W.iret (v := zI ((tuZ vTurb vLoad vHot) * (10 - ((strZ vNow) / 5)))) hx hb hr (fun t ht hW => ⟨⟨zI ((tuZ vTurb vLoad vHot) * (10 - ((strZ vNow) / 5))), (((tuZ vTurb vLoad vHot) * (10 - ((strZ vNow) / 5))), (vCold + (tuZ vTurb vLoad vHot)), (vHot - (tuZ vTurb vLoad vHot)), n_2, n_3, (upZ vSums 6 ((vSums 6) + ((tuZ vTurb vLoad vHot) * (10 - ((strZ vNow) / 5)))))), rfl, ⟨rfl, ⟨(show ((tuZ vTurb vLoad vHot) * (10 - ((strZ vNow) / 5))) = tuZ vTurb vLoad vHot * (10 - strZ vNow / 5) from rfl), (show 0 ≤ ((tuZ vTurb vLoad vHot) * (10 - ((strZ vNow) / 5))) ∧ ((tuZ vTurb vLoad vHot) * (10 - ((strZ vNow) / 5))) ≤ 200 from qm), (show (vCold + (tuZ vTurb vLoad vHot)) = vCold + tuZ vTurb vLoad vHot from by omega), (show (vHot - (tuZ vTurb vLoad vHot)) = vHot - tuZ vTurb vLoad vHot from by omega), (show n_2 = nbZ vTurb vLeft from p5), (show n_3 = nlZ vTurb vLeft from p6), (show (upZ vSums 6 ((vSums 6) + ((tuZ vTurb vLoad vHot) * (10 - ((strZ vNow) / 5))))) = adZ vSums 6 ((tuZ vTurb vLoad vHot) * (10 - ((strZ vNow) / 5))) from rfl), (show 0 ≤ (vCold + (tuZ vTurb vLoad vHot)) ∧ 0 ≤ (vHot - (tuZ vTurb vLoad vHot)) ∧ (vCold + (tuZ vTurb vLoad vHot)) + (vHot - (tuZ vTurb vLoad vHot)) ≤ 1000 from by omega), (show 0 ≤ n_2 ∧ n_2 ≤ 2 from by have q := p5; unfold nbZ at q; omega), (show 0 ≤ n_3 ∧ n_3 ≤ 2 ∧ (n_2 = 1 → 1 ≤ n_3) from by have q := p5; have q2 := p6; unfold nbZ at q; unfold nlZ at q2; omega)⟩⟩, hz_at hP ht⟩, hS.F ht⟩) hS.2.2 dX7_makeEnergy_61
abbrev Q_X7_payForTrace (G : va_G) (ah : Nat → Nat) (z : LZ) (y : Nat → ClassId) (vN vC vNow vHaze vCold vHot vPipe vDeg vThaw vTrc vTurb vLeft vLoad vWater vTrips vMi1 vMi2 vSz vBs : Int) (vCell vDirt vAim vErr vCor vBrk vTop vLm vRows vCols vDown vRight vBound vStrain vPrice vFirm vSums vTk vFl1 vFl2 vTe vAw vRo vBe : Int → Int) (made : Int) (A : Nat → Prop) : Array Value → State → Outcome → State → Prop := va_Qi (fun (r : Int32) (u : Int × (Int → Int)) => r = zI (u.1) ∧ (u.1 = toZ vTrc - boZ vTrc made) ∧ (u.2 = adZ (adZ vSums 7 (toZ vTrc)) 8 (boZ vTrc made)) ∧ (0 ≤ u.1 ∧ u.1 ≤ 2 ∧ u.1 ≤ made)) (fun (u : Int × (Int → Int)) t => va_P G vwCl (hW ah z y vN vC vNow vHaze vCold vHot vPipe vDeg vThaw vTrc vTurb vLeft vLoad vWater vTrips vMi1 vMi2 vSz vBs vCell vDirt vAim vErr vCor vBrk vTop vLm vRows vCols vDown vRight vBound vStrain vPrice vFirm u.2 vTk vFl1 vFl2 vTe vAw vRo vBe) t.heap) A
set_option maxHeartbeats 4000000 in
set_option maxRecDepth 100000 in
theorem c_X7_payForTrace (l : Launch) (G : va_G) (ah : Nat → Nat) (z : LZ) (zE : Nat) (y : Nat → ClassId) (sz : Nat) (vN vC vNow vHaze vCold vHot vPipe vDeg vThaw vTrc vTurb vLeft vLoad vWater vTrips vMi1 vMi2 vSz vBs : Int) (vCell vDirt vAim vErr vCor vBrk vTop vLm vRows vCols vDown vRight vBound vStrain vPrice vFirm vSums vTk vFl1 vFl2 vTe vAw vRo vBe : Int → Int) (made : Int) (hTrc : 0 ≤ vTrc ∧ vTrc ≤ 1) (hm : 0 ≤ made ∧ made ≤ 200) : Met l yX7_payForTrace wsX7_payForTrace ({ frames := 1, cells := 0, slots := 0, locals := 21 }) (va_Pc [.ref (ah 0), zi made] (HPreG zE G (tyL y) (hW ah z y vN vC vNow vHaze vCold vHot vPipe vDeg vThaw vTrc vTurb vLeft vLoad vWater vTrips vMi1 vMi2 vSz vBs vCell vDirt vAim vErr vCor vBrk vTop vLm vRows vCols vDown vRight vBound vStrain vPrice vFirm vSums vTk vFl1 vFl2 vTe vAw vRo vBe) sz)) (Q_X7_payForTrace G ah z y vN vC vNow vHaze vCold vHot vPipe vDeg vThaw vTrc vTurb vLeft vLoad vWater vTrips vMi1 vMi2 vSz vBs vCell vDirt vAim vErr vCor vBrk vTop vLm vRows vCols vDown vRight vBound vStrain vPrice vFirm vSums vTk vFl1 vFl2 vTe vAw vRo vBe made (va_A (hW ah z y vN vC vNow vHaze vCold vHot vPipe vDeg vThaw vTrc vTurb vLeft vLoad vWater vTrips vMi1 vMi2 vSz vBs vCell vDirt vAim vErr vCor vBrk vTop vLm vRows vCols vDown vRight vBound vStrain vPrice vFirm vSums vTk vFl1 vFl2 vTe vAw vRo vBe) sz)) 0 0 (va_A (hW ah z y vN vC vNow vHaze vCold vHot vPipe vDeg vThaw vTrc vTurb vLeft vLoad vWater vTrips vMi1 vMi2 vSz vBs vCell vDirt vAim vErr vCor vBrk vTop vLm vRows vCols vDown vRight vBound vStrain vPrice vFirm vSums vTk vFl1 vFl2 vTe vAw vRo vBe) sz) := by
  refine hz_ofWG (Qf := Q_X7_payForTrace G ah z y vN vC vNow vHaze vCold vHot vPipe vDeg vThaw vTrc vTurb vLeft vLoad vWater vTrips vMi1 vMi2 vSz vBs vCell vDirt vAim vErr vCor vBrk vTop vLm vRows vCols vDown vRight vBound vStrain vPrice vFirm vSums vTk vFl1 vFl2 vTe vAw vRo vBe made) (cc := cX7_payForTrace) (maxL := 4) (ret := (some .int)) (by decide) rfl (Nat.le_of_ble_eq_true rfl) ?_
  intro p e s m below meth c A ls hx hb hr hts hown hin hlocks hml hP hK hA hD hS hGP hl
  have hown : s.vm.findClass RX7 = some m.cls := hown
  have hl : lv_has ls 4 [(0, .ref (ah 0)), (1, zi made)] := hl
  have hinwsX50 : ∀ w ∈ wsX50, w ∈ wsX7_payForTrace := fun _ h => List.mem_cons_of_mem _ (List.mem_append_right _ (h))
  have hinwsX70 : ∀ w ∈ wsX70, w ∈ wsX7_payForTrace := fun _ h => List.mem_cons_of_mem _ (List.mem_append_left _ (List.mem_append_right _ (h)))
  refine lv_aload_n hx hb dX7_payForTrace_0 rfl (lv_at hl 0 rfl) ?_
  refine va_get (D := G) (ci := 8) (v := .ref (ah 5)) (C := RX7) (T := TX7) (N := 14) hx hb hts hinwsX70 hown hK hP 0 rfl rfl 8 (by decide) (hts (.fieldLink RX7 44 "Heliokeep" "pipe" "LHeliokeep$Pipe;") (List.mem_of_getElem? (i := 1) rfl)) (fun _ h9 => h9) rfl dX7_payForTrace_1 ?_
  refine va_get (D := G) (ci := 6) (v := zi vTrc) (C := RX5) (T := TX5) (N := 4) hx hb hts hinwsX50 hown hK hP 5 rfl rfl 2 (by decide) (hts (.fieldLink RX7 271 "Heliokeep$Pipe" "traced" "Z") (List.mem_of_getElem? (i := 2) rfl)) (fun _ h9 => h9) rfl dX7_payForTrace_4 ?_
  refine hz_if_eq (tgt := 14) hx hb dX7_payForTrace_7 (by decide) (by omega) (fun c1 => ?_) (fun c1 => ?_)
  · refine hz_iconst hx hb dX7_payForTrace_14 ?_
    refine lv_istore_n (lv' := [(2, zi 0), (0, .ref (ah 0)), (1, zi made)]) hx hb dX7_payForTrace_15 rfl hl (by decide) rfl (fun ls hl => ?_)
    refine lv_iload_n hx hb dX7_payForTrace_16 rfl (lv_at hl 0 rfl) ?_
    refine lv_iload_n hx hb dX7_payForTrace_17 rfl (lv_at hl 2 rfl) ?_
    refine hz_mmin hx hb (hml.trans hl.1.symm) hown (hts (.methodLink RX7 110 Lib.Math.min.name) (List.mem_of_getElem? (i := 3) rfl)) (hts (.static Lib.Math.min.name) (List.mem_of_getElem? (i := 4) rfl)) (hts (.initialized "java/lang/Math") (List.mem_of_getElem? (i := 5) rfl)) (hts (.code Lib.Math.min.name Lib.Math.min.code 2 (some .int)) (List.mem_of_getElem? (i := 6) rfl)) (Nat.le_of_ble_eq_true rfl) (Nat.le_of_ble_eq_true rfl) (Nat.le_of_ble_eq_true rfl) (Nat.le_of_ble_eq_true rfl) (by omega) dX7_payForTrace_18 ?_
    refine hz_topi (fun z2 e3 => ?_)
    refine lv_istore_n (lv' := [(3, zi z2), (2, zi 0), (0, .ref (ah 0)), (1, zi made)]) hx hb dX7_payForTrace_21 rfl hl (by decide) rfl (fun ls hl => ?_)
    refine lv_aload_n hx hb dX7_payForTrace_22 rfl (lv_at hl 2 rfl) ?_
    refine va_get (D := G) (ci := 8) (v := .ref (ah 18)) (C := RX7) (T := TX7) (N := 14) hx hb hts hinwsX70 hown hK hP 0 rfl rfl 13 (by decide) (hts (.fieldLink RX7 61 "Heliokeep" "sums" "[J") (List.mem_of_getElem? (i := 7) rfl)) (fun _ h9 => h9) rfl dX7_payForTrace_23 ?_
    refine hz_bipush hx hb dX7_payForTrace_26 (by decide) ?_
    refine lv_dup2_11 hx hb dX7_payForTrace_28 rfl rfl ?_
    refine hz_lald (f := vSums) hx hb hK hP 18 1 rfl rfl (Nat.le_of_ble_eq_true rfl) (by omega) dX7_payForTrace_29 ?_
    refine lv_iload_n hx hb dX7_payForTrace_30 rfl (lv_at hl 1 rfl) ?_
    refine hz_i2l hx hb dX7_payForTrace_31 (by omega) ?_
    refine hz_ladd hx hb dX7_payForTrace_32 ?_
    refine hz_last (f := vSums) hx hb hK hP hD hS 18 1 rfl rfl (Nat.le_of_ble_eq_true rfl) (by omega) dX7_payForTrace_33 (fun H locs hP hD hS => ?_)
    have hP : va_P G vwCl (hW ah z y vN vC vNow vHaze vCold vHot vPipe vDeg vThaw vTrc vTurb vLeft vLoad vWater vTrips vMi1 vMi2 vSz vBs vCell vDirt vAim vErr vCor vBrk vTop vLm vRows vCols vDown vRight vBound vStrain vPrice vFirm (upZ vSums 7 ((vSums 7) + 0)) vTk vFl1 vFl2 vTe vAw vRo vBe) H := hP
    have hD : va_D A (hW ah z y vN vC vNow vHaze vCold vHot vPipe vDeg vThaw vTrc vTurb vLeft vLoad vWater vTrips vMi1 vMi2 vSz vBs vCell vDirt vAim vErr vCor vBrk vTop vLm vRows vCols vDown vRight vBound vStrain vPrice vFirm (upZ vSums 7 ((vSums 7) + 0)) vTk vFl1 vFl2 vTe vAw vRo vBe) := hD
    refine lv_aload_n hx hb dX7_payForTrace_34 rfl (lv_at hl 2 rfl) ?_
    refine va_get (D := G) (ci := 8) (v := .ref (ah 18)) (C := RX7) (T := TX7) (N := 14) hx hb hts hinwsX70 hown hK hP 0 rfl rfl 13 (by decide) (hts (.fieldLink RX7 61 "Heliokeep" "sums" "[J") (List.mem_of_getElem? (i := 7) rfl)) (fun _ h9 => h9) rfl dX7_payForTrace_35 ?_
    refine hz_bipush hx hb dX7_payForTrace_38 (by decide) ?_
    refine lv_dup2_11 hx hb dX7_payForTrace_40 rfl rfl ?_
    refine hz_lald (f := (upZ vSums 7 ((vSums 7) + 0))) hx hb hK hP 18 1 rfl rfl (Nat.le_of_ble_eq_true rfl) (by omega) dX7_payForTrace_41 ?_
    refine lv_iload_n hx hb dX7_payForTrace_42 rfl (lv_at hl 1 rfl) ?_
    refine lv_iload_n hx hb dX7_payForTrace_43 rfl (lv_at hl 0 rfl) ?_
    refine hz_isub hx hb dX7_payForTrace_44 ?_
    refine hz_i2l hx hb dX7_payForTrace_45 (by omega) ?_
    refine hz_ladd hx hb dX7_payForTrace_46 ?_
    refine hz_last (f := (upZ vSums 7 ((vSums 7) + 0))) hx hb hK hP hD hS 18 1 rfl rfl (Nat.le_of_ble_eq_true rfl) (by omega) dX7_payForTrace_47 (fun H locs hP hD hS => ?_)
    have hP : va_P G vwCl (hW ah z y vN vC vNow vHaze vCold vHot vPipe vDeg vThaw vTrc vTurb vLeft vLoad vWater vTrips vMi1 vMi2 vSz vBs vCell vDirt vAim vErr vCor vBrk vTop vLm vRows vCols vDown vRight vBound vStrain vPrice vFirm (upZ (upZ vSums 7 ((vSums 7) + 0)) 8 (((upZ vSums 7 ((vSums 7) + 0)) 8) + (0 - z2))) vTk vFl1 vFl2 vTe vAw vRo vBe) H := hP
    have hD : va_D A (hW ah z y vN vC vNow vHaze vCold vHot vPipe vDeg vThaw vTrc vTurb vLeft vLoad vWater vTrips vMi1 vMi2 vSz vBs vCell vDirt vAim vErr vCor vBrk vTop vLm vRows vCols vDown vRight vBound vStrain vPrice vFirm (upZ (upZ vSums 7 ((vSums 7) + 0)) 8 (((upZ vSums 7 ((vSums 7) + 0)) 8) + (0 - z2))) vTk vFl1 vFl2 vTe vAw vRo vBe) := hD
    refine lv_iload_n hx hb dX7_payForTrace_48 rfl (lv_at hl 0 rfl) ?_
    exact W.iret (v := zI z2) hx hb hr (fun t ht hW => ⟨⟨zI z2, (z2, (upZ (upZ vSums 7 ((vSums 7) + 0)) 8 (((upZ vSums 7 ((vSums 7) + 0)) 8) + (0 - z2)))), rfl, ⟨rfl, ⟨(show z2 = toZ vTrc - boZ vTrc made from by unfold boZ toZ; omega), (show (upZ (upZ vSums 7 ((vSums 7) + 0)) 8 (((upZ vSums 7 ((vSums 7) + 0)) 8) + (0 - z2))) = adZ (adZ vSums 7 (toZ vTrc)) 8 (boZ vTrc made) from by
          have e1 : toZ vTrc = (0 : Int) := by unfold toZ; omega
          have e2 : boZ vTrc made = (0 : Int) - z2 := by unfold boZ; omega
          rw [e2, e1]
          rfl), (show 0 ≤ z2 ∧ z2 ≤ 2 ∧ z2 ≤ made from by omega)⟩⟩, hz_at hP ht⟩, hS.F ht⟩) hS.2.2 dX7_payForTrace_49
  · refine hz_iconst hx hb dX7_payForTrace_10 ?_
    refine lv_goto (tgt := 15) hx hb dX7_payForTrace_11 (by decide) ?_
    refine lv_istore_n (lv' := [(2, zi 2), (0, .ref (ah 0)), (1, zi made)]) hx hb dX7_payForTrace_15 rfl hl (by decide) rfl (fun ls hl => ?_)
    refine lv_iload_n hx hb dX7_payForTrace_16 rfl (lv_at hl 0 rfl) ?_
    refine lv_iload_n hx hb dX7_payForTrace_17 rfl (lv_at hl 2 rfl) ?_
    refine hz_mmin hx hb (hml.trans hl.1.symm) hown (hts (.methodLink RX7 110 Lib.Math.min.name) (List.mem_of_getElem? (i := 3) rfl)) (hts (.static Lib.Math.min.name) (List.mem_of_getElem? (i := 4) rfl)) (hts (.initialized "java/lang/Math") (List.mem_of_getElem? (i := 5) rfl)) (hts (.code Lib.Math.min.name Lib.Math.min.code 2 (some .int)) (List.mem_of_getElem? (i := 6) rfl)) (Nat.le_of_ble_eq_true rfl) (Nat.le_of_ble_eq_true rfl) (Nat.le_of_ble_eq_true rfl) (Nat.le_of_ble_eq_true rfl) (by omega) dX7_payForTrace_18 ?_
    refine hz_topi (fun z4 e5 => ?_)
    refine lv_istore_n (lv' := [(3, zi z4), (2, zi 2), (0, .ref (ah 0)), (1, zi made)]) hx hb dX7_payForTrace_21 rfl hl (by decide) rfl (fun ls hl => ?_)
    refine lv_aload_n hx hb dX7_payForTrace_22 rfl (lv_at hl 2 rfl) ?_
    refine va_get (D := G) (ci := 8) (v := .ref (ah 18)) (C := RX7) (T := TX7) (N := 14) hx hb hts hinwsX70 hown hK hP 0 rfl rfl 13 (by decide) (hts (.fieldLink RX7 61 "Heliokeep" "sums" "[J") (List.mem_of_getElem? (i := 7) rfl)) (fun _ h9 => h9) rfl dX7_payForTrace_23 ?_
    refine hz_bipush hx hb dX7_payForTrace_26 (by decide) ?_
    refine lv_dup2_11 hx hb dX7_payForTrace_28 rfl rfl ?_
    refine hz_lald (f := vSums) hx hb hK hP 18 1 rfl rfl (Nat.le_of_ble_eq_true rfl) (by omega) dX7_payForTrace_29 ?_
    refine lv_iload_n hx hb dX7_payForTrace_30 rfl (lv_at hl 1 rfl) ?_
    refine hz_i2l hx hb dX7_payForTrace_31 (by omega) ?_
    refine hz_ladd hx hb dX7_payForTrace_32 ?_
    refine hz_last (f := vSums) hx hb hK hP hD hS 18 1 rfl rfl (Nat.le_of_ble_eq_true rfl) (by omega) dX7_payForTrace_33 (fun H locs hP hD hS => ?_)
    have hP : va_P G vwCl (hW ah z y vN vC vNow vHaze vCold vHot vPipe vDeg vThaw vTrc vTurb vLeft vLoad vWater vTrips vMi1 vMi2 vSz vBs vCell vDirt vAim vErr vCor vBrk vTop vLm vRows vCols vDown vRight vBound vStrain vPrice vFirm (upZ vSums 7 ((vSums 7) + 2)) vTk vFl1 vFl2 vTe vAw vRo vBe) H := hP
    have hD : va_D A (hW ah z y vN vC vNow vHaze vCold vHot vPipe vDeg vThaw vTrc vTurb vLeft vLoad vWater vTrips vMi1 vMi2 vSz vBs vCell vDirt vAim vErr vCor vBrk vTop vLm vRows vCols vDown vRight vBound vStrain vPrice vFirm (upZ vSums 7 ((vSums 7) + 2)) vTk vFl1 vFl2 vTe vAw vRo vBe) := hD
    refine lv_aload_n hx hb dX7_payForTrace_34 rfl (lv_at hl 2 rfl) ?_
    refine va_get (D := G) (ci := 8) (v := .ref (ah 18)) (C := RX7) (T := TX7) (N := 14) hx hb hts hinwsX70 hown hK hP 0 rfl rfl 13 (by decide) (hts (.fieldLink RX7 61 "Heliokeep" "sums" "[J") (List.mem_of_getElem? (i := 7) rfl)) (fun _ h9 => h9) rfl dX7_payForTrace_35 ?_
    refine hz_bipush hx hb dX7_payForTrace_38 (by decide) ?_
    refine lv_dup2_11 hx hb dX7_payForTrace_40 rfl rfl ?_
    refine hz_lald (f := (upZ vSums 7 ((vSums 7) + 2))) hx hb hK hP 18 1 rfl rfl (Nat.le_of_ble_eq_true rfl) (by omega) dX7_payForTrace_41 ?_
    refine lv_iload_n hx hb dX7_payForTrace_42 rfl (lv_at hl 1 rfl) ?_
    refine lv_iload_n hx hb dX7_payForTrace_43 rfl (lv_at hl 0 rfl) ?_
    refine hz_isub hx hb dX7_payForTrace_44 ?_
    refine hz_i2l hx hb dX7_payForTrace_45 (by omega) ?_
    refine hz_ladd hx hb dX7_payForTrace_46 ?_
    refine hz_last (f := (upZ vSums 7 ((vSums 7) + 2))) hx hb hK hP hD hS 18 1 rfl rfl (Nat.le_of_ble_eq_true rfl) (by omega) dX7_payForTrace_47 (fun H locs hP hD hS => ?_)
    have hP : va_P G vwCl (hW ah z y vN vC vNow vHaze vCold vHot vPipe vDeg vThaw vTrc vTurb vLeft vLoad vWater vTrips vMi1 vMi2 vSz vBs vCell vDirt vAim vErr vCor vBrk vTop vLm vRows vCols vDown vRight vBound vStrain vPrice vFirm (upZ (upZ vSums 7 ((vSums 7) + 2)) 8 (((upZ vSums 7 ((vSums 7) + 2)) 8) + (2 - z4))) vTk vFl1 vFl2 vTe vAw vRo vBe) H := hP
    have hD : va_D A (hW ah z y vN vC vNow vHaze vCold vHot vPipe vDeg vThaw vTrc vTurb vLeft vLoad vWater vTrips vMi1 vMi2 vSz vBs vCell vDirt vAim vErr vCor vBrk vTop vLm vRows vCols vDown vRight vBound vStrain vPrice vFirm (upZ (upZ vSums 7 ((vSums 7) + 2)) 8 (((upZ vSums 7 ((vSums 7) + 2)) 8) + (2 - z4))) vTk vFl1 vFl2 vTe vAw vRo vBe) := hD
    refine lv_iload_n hx hb dX7_payForTrace_48 rfl (lv_at hl 0 rfl) ?_
    exact W.iret (v := zI z4) hx hb hr (fun t ht hW => ⟨⟨zI z4, (z4, (upZ (upZ vSums 7 ((vSums 7) + 2)) 8 (((upZ vSums 7 ((vSums 7) + 2)) 8) + (2 - z4)))), rfl, ⟨rfl, ⟨(show z4 = toZ vTrc - boZ vTrc made from by unfold boZ toZ; omega), (show (upZ (upZ vSums 7 ((vSums 7) + 2)) 8 (((upZ vSums 7 ((vSums 7) + 2)) 8) + (2 - z4))) = adZ (adZ vSums 7 (toZ vTrc)) 8 (boZ vTrc made) from by
          have e1 : toZ vTrc = (2 : Int) := by unfold toZ; omega
          have e2 : boZ vTrc made = (2 : Int) - z4 := by unfold boZ; omega
          rw [e2, e1]
          rfl), (show 0 ≤ z4 ∧ z4 ≤ 2 ∧ z4 ≤ made from by omega)⟩⟩, hz_at hP ht⟩, hS.F ht⟩) hS.2.2 dX7_payForTrace_49
abbrev Q_X7_shareEnergy (G : va_G) (ah : Nat → Nat) (z : LZ) (y : Nat → ClassId) (vN vC vNow vHaze vCold vHot vPipe vDeg vThaw vTrc vTurb vLeft vLoad vWater vTrips vMi1 vMi2 vSz vBs : Int) (vCell vDirt vAim vErr vCor vBrk vTop vLm vRows vCols vDown vRight vBound vStrain vPrice vFirm vSums vTk vFl1 vFl2 vTe vAw vRo vBe : Int → Int) (rest : Int) (A : Nat → Prop) : Array Value → State → Outcome → State → Prop := va_Qv (fun (u : (Int → Int)) => (u = adZ (adZ (adZ (adZ vSums 9 (dzZ rest (vFirm (vNow % 24)))) 10 (vFirm (vNow % 24) - dzZ rest (vFirm (vNow % 24)))) 11 (rest - dzZ rest (vFirm (vNow % 24)))) 12 ((rest - dzZ rest (vFirm (vNow % 24))) * vPrice (vNow % 24)))) (fun (u : (Int → Int)) t => va_P G vwCl (hW ah z y vN vC vNow vHaze vCold vHot vPipe vDeg vThaw vTrc vTurb vLeft vLoad vWater vTrips vMi1 vMi2 vSz vBs vCell vDirt vAim vErr vCor vBrk vTop vLm vRows vCols vDown vRight vBound vStrain vPrice vFirm u vTk vFl1 vFl2 vTe vAw vRo vBe) t.heap) A
set_option maxHeartbeats 4000000 in
set_option maxRecDepth 100000 in
theorem c_X7_shareEnergy (l : Launch) (G : va_G) (ah : Nat → Nat) (z : LZ) (zE : Nat) (y : Nat → ClassId) (sz : Nat) (vN vC vNow vHaze vCold vHot vPipe vDeg vThaw vTrc vTurb vLeft vLoad vWater vTrips vMi1 vMi2 vSz vBs : Int) (vCell vDirt vAim vErr vCor vBrk vTop vLm vRows vCols vDown vRight vBound vStrain vPrice vFirm vSums vTk vFl1 vFl2 vTe vAw vRo vBe : Int → Int) (rest : Int) (hNow : 0 ≤ vNow ∧ vNow ≤ 9999) (hPrice : ∀ j9 : Int, 0 ≤ vPrice j9 ∧ vPrice j9 ≤ 99) (hFirm : ∀ j9 : Int, 0 ≤ vFirm j9 ∧ vFirm j9 ≤ 200) (hm : 0 ≤ rest ∧ rest ≤ 200) : Met l yX7_shareEnergy wsX7_shareEnergy ({ frames := 1, cells := 0, slots := 0, locals := 22 }) (va_Pc [.ref (ah 0), zi rest] (HPreG zE G (tyL y) (hW ah z y vN vC vNow vHaze vCold vHot vPipe vDeg vThaw vTrc vTurb vLeft vLoad vWater vTrips vMi1 vMi2 vSz vBs vCell vDirt vAim vErr vCor vBrk vTop vLm vRows vCols vDown vRight vBound vStrain vPrice vFirm vSums vTk vFl1 vFl2 vTe vAw vRo vBe) sz)) (Q_X7_shareEnergy G ah z y vN vC vNow vHaze vCold vHot vPipe vDeg vThaw vTrc vTurb vLeft vLoad vWater vTrips vMi1 vMi2 vSz vBs vCell vDirt vAim vErr vCor vBrk vTop vLm vRows vCols vDown vRight vBound vStrain vPrice vFirm vSums vTk vFl1 vFl2 vTe vAw vRo vBe rest (va_A (hW ah z y vN vC vNow vHaze vCold vHot vPipe vDeg vThaw vTrc vTurb vLeft vLoad vWater vTrips vMi1 vMi2 vSz vBs vCell vDirt vAim vErr vCor vBrk vTop vLm vRows vCols vDown vRight vBound vStrain vPrice vFirm vSums vTk vFl1 vFl2 vTe vAw vRo vBe) sz)) 0 0 (va_A (hW ah z y vN vC vNow vHaze vCold vHot vPipe vDeg vThaw vTrc vTurb vLeft vLoad vWater vTrips vMi1 vMi2 vSz vBs vCell vDirt vAim vErr vCor vBrk vTop vLm vRows vCols vDown vRight vBound vStrain vPrice vFirm vSums vTk vFl1 vFl2 vTe vAw vRo vBe) sz) := by
  refine hz_ofWG (Qf := Q_X7_shareEnergy G ah z y vN vC vNow vHaze vCold vHot vPipe vDeg vThaw vTrc vTurb vLeft vLoad vWater vTrips vMi1 vMi2 vSz vBs vCell vDirt vAim vErr vCor vBrk vTop vLm vRows vCols vDown vRight vBound vStrain vPrice vFirm vSums vTk vFl1 vFl2 vTe vAw vRo vBe rest) (cc := cX7_shareEnergy) (maxL := 5) (ret := none) (by decide) rfl (Nat.le_of_ble_eq_true rfl) ?_
  intro p e s m below meth c A ls hx hb hr hts hown hin hlocks hml hP hK hA hD hS hGP hl
  have hown : s.vm.findClass RX7 = some m.cls := hown
  have hl : lv_has ls 5 [(0, .ref (ah 0)), (1, zi rest)] := hl
  have hinwsX20 : ∀ w ∈ wsX20, w ∈ wsX7_shareEnergy := fun _ h => List.mem_cons_of_mem _ (List.mem_append_right _ (h))
  have hinwsX70 : ∀ w ∈ wsX70, w ∈ wsX7_shareEnergy := fun _ h => List.mem_cons_of_mem _ (List.mem_append_left _ (List.mem_append_right _ (h)))
  refine lv_aload_n hx hb dX7_shareEnergy_0 rfl (lv_at hl 0 rfl) ?_
  refine va_get (D := G) (ci := 8) (v := .ref (ah 1)) (C := RX7) (T := TX7) (N := 14) hx hb hts hinwsX70 hown hK hP 0 rfl rfl 0 (by decide) (hts (.fieldLink RX7 10 "Heliokeep" "field" "LHeliokeep$Field;") (List.mem_of_getElem? (i := 1) rfl)) (fun _ h9 => h9) rfl dX7_shareEnergy_1 ?_
  refine hz_iconst hx hb dX7_shareEnergy_4 ?_
  refine hz_callRiG (As := [zi 0]) (rest := []) ⟨hx, hb, hml, hown, hts⟩ (c_X2_hourBehind l G ah z zE y vN vC vNow vHaze vCold vHot vPipe vDeg vThaw vTrc vTurb vLeft vLoad vWater vTrips vMi1 vMi2 vSz vBs vCell vDirt vAim vErr vCor vBrk vTop vLm vRows vCols vDown vRight vBound vStrain vPrice vFirm vSums vTk vFl1 vFl2 vTe vAw vRo vBe 0 hNow (by omega)) (cwV 1 hts gX7_shareEnergy_X2_hourBehind rfl rfl rfl (by decide +kernel) ⟨Nat.le_of_ble_eq_true rfl, Nat.le_of_ble_eq_true rfl⟩) hP hK hS hGP 1 3 rfl rfl rfl rfl hl.1 rfl (Nat.le_of_ble_eq_true rfl) dX7_shareEnergy_5 ⟨Nat.zero_le _, Nat.zero_le _⟩ ?_
  refine hz_tope (z2 := (vNow % 24)) (by rw [Int.add_zero]) ?_
  refine lv_istore_n (lv' := [(2, zi (vNow % 24)), (0, .ref (ah 0)), (1, zi rest)]) hx hb dX7_shareEnergy_8 rfl hl (by decide) rfl (fun ls hl => ?_)
  refine lv_aload_n hx hb dX7_shareEnergy_9 rfl (lv_at hl 1 rfl) ?_
  refine va_get (D := G) (ci := 8) (v := .ref (ah 10)) (C := RX7) (T := TX7) (N := 14) hx hb hts hinwsX70 hown hK hP 0 rfl rfl 12 (by decide) (hts (.fieldLink RX7 58 "Heliokeep" "firms" "[I") (List.mem_of_getElem? (i := 2) rfl)) (fun _ h9 => h9) rfl dX7_shareEnergy_10 ?_
  refine lv_iload_n hx hb dX7_shareEnergy_13 rfl (lv_at hl 0 rfl) ?_
  refine hz_iald (f := vFirm) hx hb hK hP 10 0 rfl rfl (Nat.le_of_ble_eq_true rfl) (by omega) dX7_shareEnergy_14 ?_
  have q1 := hFirm (vNow % 24)
  refine lv_iload_n hx hb dX7_shareEnergy_15 rfl (lv_at hl 2 rfl) ?_
  refine hz_mmin hx hb (hml.trans hl.1.symm) hown (hts (.methodLink RX7 110 Lib.Math.min.name) (List.mem_of_getElem? (i := 3) rfl)) (hts (.static Lib.Math.min.name) (List.mem_of_getElem? (i := 4) rfl)) (hts (.initialized "java/lang/Math") (List.mem_of_getElem? (i := 5) rfl)) (hts (.code Lib.Math.min.name Lib.Math.min.code 2 (some .int)) (List.mem_of_getElem? (i := 6) rfl)) (Nat.le_of_ble_eq_true rfl) (Nat.le_of_ble_eq_true rfl) (Nat.le_of_ble_eq_true rfl) (Nat.le_of_ble_eq_true rfl) (by omega) dX7_shareEnergy_16 ?_
  refine hz_topi (fun z2 e3 => ?_)
  refine hz_tope (z2 := (dzZ rest (vFirm (vNow % 24)))) (by unfold dzZ; omega) ?_
  have qdz : 0 ≤ dzZ rest (vFirm (vNow % 24)) ∧ dzZ rest (vFirm (vNow % 24)) ≤ rest ∧ dzZ rest (vFirm (vNow % 24)) ≤ vFirm (vNow % 24) := by have := hFirm (vNow % 24); unfold dzZ; omega
  refine lv_istore_n (lv' := [(3, zi (dzZ rest (vFirm (vNow % 24)))), (2, zi (vNow % 24)), (0, .ref (ah 0)), (1, zi rest)]) hx hb dX7_shareEnergy_19 rfl hl (by decide) rfl (fun ls hl => ?_)
  refine lv_iload_n hx hb dX7_shareEnergy_20 rfl (lv_at hl 3 rfl) ?_
  refine lv_iload_n hx hb dX7_shareEnergy_21 rfl (lv_at hl 0 rfl) ?_
  refine hz_isub hx hb dX7_shareEnergy_22 ?_
  refine lv_istore (lv' := [(4, zi (rest - (dzZ rest (vFirm (vNow % 24))))), (3, zi (dzZ rest (vFirm (vNow % 24)))), (2, zi (vNow % 24)), (0, .ref (ah 0)), (1, zi rest)]) hx hb dX7_shareEnergy_23 hl (by decide) rfl (fun ls hl => ?_)
  refine lv_aload_n hx hb dX7_shareEnergy_25 rfl (lv_at hl 3 rfl) ?_
  refine va_get (D := G) (ci := 8) (v := .ref (ah 18)) (C := RX7) (T := TX7) (N := 14) hx hb hts hinwsX70 hown hK hP 0 rfl rfl 13 (by decide) (hts (.fieldLink RX7 61 "Heliokeep" "sums" "[J") (List.mem_of_getElem? (i := 7) rfl)) (fun _ h9 => h9) rfl dX7_shareEnergy_26 ?_
  refine hz_bipush hx hb dX7_shareEnergy_29 (by decide) ?_
  refine lv_dup2_11 hx hb dX7_shareEnergy_31 rfl rfl ?_
  refine hz_lald (f := vSums) hx hb hK hP 18 1 rfl rfl (Nat.le_of_ble_eq_true rfl) (by omega) dX7_shareEnergy_32 ?_
  refine lv_iload_n hx hb dX7_shareEnergy_33 rfl (lv_at hl 1 rfl) ?_
  refine hz_i2l hx hb dX7_shareEnergy_34 (by omega) ?_
  refine hz_ladd hx hb dX7_shareEnergy_35 ?_
  refine hz_last (f := vSums) hx hb hK hP hD hS 18 1 rfl rfl (Nat.le_of_ble_eq_true rfl) (by omega) dX7_shareEnergy_36 (fun H locs hP hD hS => ?_)
  have hP : va_P G vwCl (hW ah z y vN vC vNow vHaze vCold vHot vPipe vDeg vThaw vTrc vTurb vLeft vLoad vWater vTrips vMi1 vMi2 vSz vBs vCell vDirt vAim vErr vCor vBrk vTop vLm vRows vCols vDown vRight vBound vStrain vPrice vFirm (upZ vSums 9 ((vSums 9) + (dzZ rest (vFirm (vNow % 24))))) vTk vFl1 vFl2 vTe vAw vRo vBe) H := hP
  have hD : va_D A (hW ah z y vN vC vNow vHaze vCold vHot vPipe vDeg vThaw vTrc vTurb vLeft vLoad vWater vTrips vMi1 vMi2 vSz vBs vCell vDirt vAim vErr vCor vBrk vTop vLm vRows vCols vDown vRight vBound vStrain vPrice vFirm (upZ vSums 9 ((vSums 9) + (dzZ rest (vFirm (vNow % 24))))) vTk vFl1 vFl2 vTe vAw vRo vBe) := hD
  refine lv_aload_n hx hb dX7_shareEnergy_37 rfl (lv_at hl 3 rfl) ?_
  refine va_get (D := G) (ci := 8) (v := .ref (ah 18)) (C := RX7) (T := TX7) (N := 14) hx hb hts hinwsX70 hown hK hP 0 rfl rfl 13 (by decide) (hts (.fieldLink RX7 61 "Heliokeep" "sums" "[J") (List.mem_of_getElem? (i := 7) rfl)) (fun _ h9 => h9) rfl dX7_shareEnergy_38 ?_
  refine hz_bipush hx hb dX7_shareEnergy_41 (by decide) ?_
  refine lv_dup2_11 hx hb dX7_shareEnergy_43 rfl rfl ?_
  refine hz_lald (f := (upZ vSums 9 ((vSums 9) + (dzZ rest (vFirm (vNow % 24)))))) hx hb hK hP 18 1 rfl rfl (Nat.le_of_ble_eq_true rfl) (by omega) dX7_shareEnergy_44 ?_
  refine lv_aload_n hx hb dX7_shareEnergy_45 rfl (lv_at hl 3 rfl) ?_
  refine va_get (D := G) (ci := 8) (v := .ref (ah 10)) (C := RX7) (T := TX7) (N := 14) hx hb hts hinwsX70 hown hK hP 0 rfl rfl 12 (by decide) (hts (.fieldLink RX7 58 "Heliokeep" "firms" "[I") (List.mem_of_getElem? (i := 2) rfl)) (fun _ h9 => h9) rfl dX7_shareEnergy_46 ?_
  refine lv_iload_n hx hb dX7_shareEnergy_49 rfl (lv_at hl 2 rfl) ?_
  refine hz_iald (f := vFirm) hx hb hK hP 10 0 rfl rfl (Nat.le_of_ble_eq_true rfl) (by omega) dX7_shareEnergy_50 ?_
  have q4 := hFirm (vNow % 24)
  refine lv_iload_n hx hb dX7_shareEnergy_51 rfl (lv_at hl 1 rfl) ?_
  refine hz_isub hx hb dX7_shareEnergy_52 ?_
  refine hz_i2l hx hb dX7_shareEnergy_53 (by omega) ?_
  refine hz_ladd hx hb dX7_shareEnergy_54 ?_
  refine hz_last (f := (upZ vSums 9 ((vSums 9) + (dzZ rest (vFirm (vNow % 24)))))) hx hb hK hP hD hS 18 1 rfl rfl (Nat.le_of_ble_eq_true rfl) (by omega) dX7_shareEnergy_55 (fun H locs hP hD hS => ?_)
  have hP : va_P G vwCl (hW ah z y vN vC vNow vHaze vCold vHot vPipe vDeg vThaw vTrc vTurb vLeft vLoad vWater vTrips vMi1 vMi2 vSz vBs vCell vDirt vAim vErr vCor vBrk vTop vLm vRows vCols vDown vRight vBound vStrain vPrice vFirm (upZ (upZ vSums 9 ((vSums 9) + (dzZ rest (vFirm (vNow % 24))))) 10 (((upZ vSums 9 ((vSums 9) + (dzZ rest (vFirm (vNow % 24))))) 10) + ((vFirm (vNow % 24)) - (dzZ rest (vFirm (vNow % 24)))))) vTk vFl1 vFl2 vTe vAw vRo vBe) H := hP
  have hD : va_D A (hW ah z y vN vC vNow vHaze vCold vHot vPipe vDeg vThaw vTrc vTurb vLeft vLoad vWater vTrips vMi1 vMi2 vSz vBs vCell vDirt vAim vErr vCor vBrk vTop vLm vRows vCols vDown vRight vBound vStrain vPrice vFirm (upZ (upZ vSums 9 ((vSums 9) + (dzZ rest (vFirm (vNow % 24))))) 10 (((upZ vSums 9 ((vSums 9) + (dzZ rest (vFirm (vNow % 24))))) 10) + ((vFirm (vNow % 24)) - (dzZ rest (vFirm (vNow % 24)))))) vTk vFl1 vFl2 vTe vAw vRo vBe) := hD
  refine lv_aload_n hx hb dX7_shareEnergy_56 rfl (lv_at hl 3 rfl) ?_
  refine va_get (D := G) (ci := 8) (v := .ref (ah 18)) (C := RX7) (T := TX7) (N := 14) hx hb hts hinwsX70 hown hK hP 0 rfl rfl 13 (by decide) (hts (.fieldLink RX7 61 "Heliokeep" "sums" "[J") (List.mem_of_getElem? (i := 7) rfl)) (fun _ h9 => h9) rfl dX7_shareEnergy_57 ?_
  refine hz_bipush hx hb dX7_shareEnergy_60 (by decide) ?_
  refine lv_dup2_11 hx hb dX7_shareEnergy_62 rfl rfl ?_
  refine hz_lald (f := (upZ (upZ vSums 9 ((vSums 9) + (dzZ rest (vFirm (vNow % 24))))) 10 (((upZ vSums 9 ((vSums 9) + (dzZ rest (vFirm (vNow % 24))))) 10) + ((vFirm (vNow % 24)) - (dzZ rest (vFirm (vNow % 24))))))) hx hb hK hP 18 1 rfl rfl (Nat.le_of_ble_eq_true rfl) (by omega) dX7_shareEnergy_63 ?_
  refine lv_iload hx hb dX7_shareEnergy_64 (lv_at hl 0 rfl) ?_
  refine hz_i2l hx hb dX7_shareEnergy_66 (by omega) ?_
  refine hz_ladd hx hb dX7_shareEnergy_67 ?_
  refine hz_topl (fun z5 e6 => ?_)
  refine hz_last (f := (upZ (upZ vSums 9 ((vSums 9) + (dzZ rest (vFirm (vNow % 24))))) 10 (((upZ vSums 9 ((vSums 9) + (dzZ rest (vFirm (vNow % 24))))) 10) + ((vFirm (vNow % 24)) - (dzZ rest (vFirm (vNow % 24))))))) hx hb hK hP hD hS 18 1 rfl rfl (Nat.le_of_ble_eq_true rfl) (by omega) dX7_shareEnergy_68 (fun H locs hP hD hS => ?_)
  have hP : va_P G vwCl (hW ah z y vN vC vNow vHaze vCold vHot vPipe vDeg vThaw vTrc vTurb vLeft vLoad vWater vTrips vMi1 vMi2 vSz vBs vCell vDirt vAim vErr vCor vBrk vTop vLm vRows vCols vDown vRight vBound vStrain vPrice vFirm (upZ (upZ (upZ vSums 9 ((vSums 9) + (dzZ rest (vFirm (vNow % 24))))) 10 (((upZ vSums 9 ((vSums 9) + (dzZ rest (vFirm (vNow % 24))))) 10) + ((vFirm (vNow % 24)) - (dzZ rest (vFirm (vNow % 24)))))) 11 z5) vTk vFl1 vFl2 vTe vAw vRo vBe) H := hP
  have hD : va_D A (hW ah z y vN vC vNow vHaze vCold vHot vPipe vDeg vThaw vTrc vTurb vLeft vLoad vWater vTrips vMi1 vMi2 vSz vBs vCell vDirt vAim vErr vCor vBrk vTop vLm vRows vCols vDown vRight vBound vStrain vPrice vFirm (upZ (upZ (upZ vSums 9 ((vSums 9) + (dzZ rest (vFirm (vNow % 24))))) 10 (((upZ vSums 9 ((vSums 9) + (dzZ rest (vFirm (vNow % 24))))) 10) + ((vFirm (vNow % 24)) - (dzZ rest (vFirm (vNow % 24)))))) 11 z5) vTk vFl1 vFl2 vTe vAw vRo vBe) := hD
  refine lv_aload_n hx hb dX7_shareEnergy_69 rfl (lv_at hl 3 rfl) ?_
  refine va_get (D := G) (ci := 8) (v := .ref (ah 18)) (C := RX7) (T := TX7) (N := 14) hx hb hts hinwsX70 hown hK hP 0 rfl rfl 13 (by decide) (hts (.fieldLink RX7 61 "Heliokeep" "sums" "[J") (List.mem_of_getElem? (i := 7) rfl)) (fun _ h9 => h9) rfl dX7_shareEnergy_70 ?_
  refine hz_bipush hx hb dX7_shareEnergy_73 (by decide) ?_
  refine lv_dup2_11 hx hb dX7_shareEnergy_75 rfl rfl ?_
  refine hz_lald (f := (upZ (upZ (upZ vSums 9 ((vSums 9) + (dzZ rest (vFirm (vNow % 24))))) 10 (((upZ vSums 9 ((vSums 9) + (dzZ rest (vFirm (vNow % 24))))) 10) + ((vFirm (vNow % 24)) - (dzZ rest (vFirm (vNow % 24)))))) 11 z5)) hx hb hK hP 18 1 rfl rfl (Nat.le_of_ble_eq_true rfl) (by omega) dX7_shareEnergy_76 ?_
  refine lv_iload hx hb dX7_shareEnergy_77 (lv_at hl 0 rfl) ?_
  refine lv_aload_n hx hb dX7_shareEnergy_79 rfl (lv_at hl 3 rfl) ?_
  refine va_get (D := G) (ci := 8) (v := .ref (ah 9)) (C := RX7) (T := TX7) (N := 14) hx hb hts hinwsX70 hown hK hP 0 rfl rfl 11 (by decide) (hts (.fieldLink RX7 55 "Heliokeep" "prices" "[I") (List.mem_of_getElem? (i := 8) rfl)) (fun _ h9 => h9) rfl dX7_shareEnergy_80 ?_
  refine lv_iload_n hx hb dX7_shareEnergy_83 rfl (lv_at hl 2 rfl) ?_
  refine hz_iald (f := vPrice) hx hb hK hP 9 0 rfl rfl (Nat.le_of_ble_eq_true rfl) (by omega) dX7_shareEnergy_84 ?_
  have q7 := hPrice (vNow % 24)
  refine hz_imul hx hb dX7_shareEnergy_85 ?_
  have qpp := mul_99 (u := rest - dzZ rest (vFirm (vNow % 24))) (w := vPrice (vNow % 24)) (by omega) (hPrice _)
  refine hz_i2l hx hb dX7_shareEnergy_86 (by omega) ?_
  refine hz_ladd hx hb dX7_shareEnergy_87 ?_
  refine hz_topl (fun z8 e9 => ?_)
  refine hz_last (f := (upZ (upZ (upZ vSums 9 ((vSums 9) + (dzZ rest (vFirm (vNow % 24))))) 10 (((upZ vSums 9 ((vSums 9) + (dzZ rest (vFirm (vNow % 24))))) 10) + ((vFirm (vNow % 24)) - (dzZ rest (vFirm (vNow % 24)))))) 11 z5)) hx hb hK hP hD hS 18 1 rfl rfl (Nat.le_of_ble_eq_true rfl) (by omega) dX7_shareEnergy_88 (fun H locs hP hD hS => ?_)
  have hP : va_P G vwCl (hW ah z y vN vC vNow vHaze vCold vHot vPipe vDeg vThaw vTrc vTurb vLeft vLoad vWater vTrips vMi1 vMi2 vSz vBs vCell vDirt vAim vErr vCor vBrk vTop vLm vRows vCols vDown vRight vBound vStrain vPrice vFirm (upZ (upZ (upZ (upZ vSums 9 ((vSums 9) + (dzZ rest (vFirm (vNow % 24))))) 10 (((upZ vSums 9 ((vSums 9) + (dzZ rest (vFirm (vNow % 24))))) 10) + ((vFirm (vNow % 24)) - (dzZ rest (vFirm (vNow % 24)))))) 11 z5) 12 z8) vTk vFl1 vFl2 vTe vAw vRo vBe) H := hP
  have hD : va_D A (hW ah z y vN vC vNow vHaze vCold vHot vPipe vDeg vThaw vTrc vTurb vLeft vLoad vWater vTrips vMi1 vMi2 vSz vBs vCell vDirt vAim vErr vCor vBrk vTop vLm vRows vCols vDown vRight vBound vStrain vPrice vFirm (upZ (upZ (upZ (upZ vSums 9 ((vSums 9) + (dzZ rest (vFirm (vNow % 24))))) 10 (((upZ vSums 9 ((vSums 9) + (dzZ rest (vFirm (vNow % 24))))) 10) + ((vFirm (vNow % 24)) - (dzZ rest (vFirm (vNow % 24)))))) 11 z5) 12 z8) vTk vFl1 vFl2 vTe vAw vRo vBe) := hD
  exact W.vret hx hb hr (fun t ht hW => ⟨⟨((upZ (upZ (upZ (upZ vSums 9 ((vSums 9) + (dzZ rest (vFirm (vNow % 24))))) 10 (((upZ vSums 9 ((vSums 9) + (dzZ rest (vFirm (vNow % 24))))) 10) + ((vFirm (vNow % 24)) - (dzZ rest (vFirm (vNow % 24)))))) 11 z5) 12 z8)), rfl, (show (upZ (upZ (upZ (upZ vSums 9 ((vSums 9) + (dzZ rest (vFirm (vNow % 24))))) 10 (((upZ vSums 9 ((vSums 9) + (dzZ rest (vFirm (vNow % 24))))) 10) + ((vFirm (vNow % 24)) - (dzZ rest (vFirm (vNow % 24)))))) 11 z5) 12 z8) = adZ (adZ (adZ (adZ vSums 9 (dzZ rest (vFirm (vNow % 24)))) 10 (vFirm (vNow % 24) - dzZ rest (vFirm (vNow % 24)))) 11 (rest - dzZ rest (vFirm (vNow % 24)))) 12 ((rest - dzZ rest (vFirm (vNow % 24))) * vPrice (vNow % 24)) from by first | rfl | (subst_vars; rfl)), hz_at hP ht⟩, hS.F ht⟩) hS.2.2 dX7_shareEnergy_89
