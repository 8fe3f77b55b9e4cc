theorem np_e {p g w w2 t s u : Int} (hs : 0 < s ↔ 0 < u) (hw : p = 2 → w = w2) : npZ p g w t s = npZ p g w2 t u := by unfold npZ dgZ dwZ; omega
theorem nd_e {p g w w2 t s u : Int} (hs : 0 < s ↔ 0 < u) (hw : p = 2 → w = w2) : ndZ p g w t s = ndZ p g w2 t u := by unfold ndZ dgZ dwZ; omega
abbrev Q_X7_takeTick (G : va_G) (ah : Nat → Nat) (z : LZ) (y : Nat → ClassId) (vN vC vNow vHaze vCold vHot vPipe vDeg vThaw vTrc vTurb vLeft vLoad vWater vTrips vMi1 vMi2 vSz vBs : Int) (vCell vDirt vAim vErr vCor vBrk vTop vLm vRows vCols vDown vRight vBound vStrain vPrice vFirm vSums vTk vFl1 vFl2 vTe vAw vRo vBe : Int → Int) (w : Int) (A : Nat → Prop) : Array Value → State → Outcome → State → Prop := va_Qv (fun (u : (Int → Int) × Int × (Int → Int) × (Int → Int) × (Int → Int) × (Int → Int) × (Int → Int) × (Int → Int) × Int × Int × Int × Int × Int × Int × Int × Int × Int × Int) => ((u.2.2.1, u.2.2.2.1, u.2.2.2.2.1, u.2.2.2.2.2.1, u.2.2.2.2.2.2.1, u.2.2.2.2.2.2.2.1, u.2.2.2.2.2.2.2.2.1, u.2.2.2.2.2.2.2.2.2.1, u.2.2.2.2.2.2.2.2.2.2.1, u.2.2.2.2.2.2.2.2.2.2.2.1, u.2.2.2.2.2.2.2.2.2.2.2.2.1, u.2.2.2.2.2.2.2.2.2.2.2.2.2.2.2.2.2, u.2.2.2.2.2.2.2.2.2.2.2.2.2.2.1, u.2.2.2.2.2.2.2.2.2.2.2.2.2.2.2.1, u.2.2.2.2.2.2.2.2.2.2.2.2.2.2.2.2.1) = tkF (vN, vC, vHaze, vTrc, vLoad, vCell, vErr, vCor, vBrk, vRows, vCols, vDown, vRight, vBound, vPrice, vFirm) (vAim, vDirt, vTop, vLm, vStrain, vSums, vNow, vCold, vHot, vPipe, vDeg, w, vTurb, vLeft, vTrips)) ∧ (u.2.2.2.2.2.2.2.2.2.2.2.1 = 2 → u.2.2.2.2.2.2.2.2.2.2.2.2.2.1 = u.2.2.2.2.2.2.2.2.2.2.2.2.2.2.2.2.2) ∧ (u.2.2.2.2.2.2.2.2.1 = vNow + 1) ∧ (∀ j9 : Int, -1 ≤ u.2.2.1 j9 ∧ u.2.2.1 j9 ≤ 5) ∧ (∀ j9 : Int, 0 ≤ u.2.2.2.1 j9 ∧ u.2.2.2.1 j9 ≤ 9) ∧ (∀ j9 : Int, -(16 + u.2.2.2.2.2.2.2.2.1) ≤ u.2.2.2.2.1 j9 ∧ u.2.2.2.2.1 j9 ≤ 16 + u.2.2.2.2.2.2.2.2.1) ∧ (∀ j9 : Int, -(16 + u.2.2.2.2.2.2.2.2.1) ≤ u.2.2.2.2.2.1 j9 ∧ u.2.2.2.2.2.1 j9 ≤ 16 + u.2.2.2.2.2.2.2.2.1) ∧ (∀ j9 : Int, 0 ≤ u.2.2.2.2.2.2.1 j9 ∧ u.2.2.2.2.2.2.1 j9 ≤ u.2.2.2.2.2.2.2.2.1) ∧ (0 ≤ u.2.2.2.2.2.2.2.2.2.2.2.2.2.2.2.2.1 ∧ u.2.2.2.2.2.2.2.2.2.2.2.2.2.2.2.2.1 ≤ u.2.2.2.2.2.2.2.2.1) ∧ (0 ≤ u.2.2.2.2.2.2.2.2.2.1 ∧ 0 ≤ u.2.2.2.2.2.2.2.2.2.2.1 ∧ u.2.2.2.2.2.2.2.2.2.1 + u.2.2.2.2.2.2.2.2.2.2.1 ≤ 1000) ∧ (0 ≤ u.2.2.2.2.2.2.2.2.2.2.2.1 ∧ u.2.2.2.2.2.2.2.2.2.2.2.1 ≤ 2) ∧ (0 ≤ u.2.2.2.2.2.2.2.2.2.2.2.2.1 ∧ u.2.2.2.2.2.2.2.2.2.2.2.2.1 ≤ 40 ∧ (u.2.2.2.2.2.2.2.2.2.2.2.1 = 1 → 20 ≤ u.2.2.2.2.2.2.2.2.2.2.2.2.1)) ∧ (u.2.2.2.2.2.2.2.2.2.2.2.1 = 2 → 0 ≤ u.2.2.2.2.2.2.2.2.2.2.2.2.2.1 ∧ u.2.2.2.2.2.2.2.2.2.2.2.2.2.1 ≤ 2) ∧ (0 ≤ u.2.2.2.2.2.2.2.2.2.2.2.2.2.2.1 ∧ u.2.2.2.2.2.2.2.2.2.2.2.2.2.2.1 ≤ 2) ∧ (0 ≤ u.2.2.2.2.2.2.2.2.2.2.2.2.2.2.2.1 ∧ u.2.2.2.2.2.2.2.2.2.2.2.2.2.2.2.1 ≤ 2 ∧ (u.2.2.2.2.2.2.2.2.2.2.2.2.2.2.1 = 1 → 1 ≤ u.2.2.2.2.2.2.2.2.2.2.2.2.2.2.2.1))) (fun (u : (Int → Int) × Int × (Int → Int) × (Int → Int) × (Int → Int) × (Int → Int) × (Int → Int) × (Int → Int) × Int × Int × Int × Int × Int × Int × Int × Int × Int × Int) t => va_P G vwCl (hW ah z y vN vC u.2.2.2.2.2.2.2.2.1 vHaze u.2.2.2.2.2.2.2.2.2.1 u.2.2.2.2.2.2.2.2.2.2.1 u.2.2.2.2.2.2.2.2.2.2.2.1 u.2.2.2.2.2.2.2.2.2.2.2.2.1 u.2.2.2.2.2.2.2.2.2.2.2.2.2.1 vTrc u.2.2.2.2.2.2.2.2.2.2.2.2.2.2.1 u.2.2.2.2.2.2.2.2.2.2.2.2.2.2.2.1 vLoad vWater u.2.2.2.2.2.2.2.2.2.2.2.2.2.2.2.2.1 u.2.1 vMi2 vSz vBs vCell u.2.2.2.1 u.2.2.1 vErr vCor vBrk u.2.2.2.2.1 u.2.2.2.2.2.1 vRows vCols vDown vRight vBound u.2.2.2.2.2.2.1 vPrice vFirm u.2.2.2.2.2.2.2.1 vTk u.1 vFl2 vTe vAw vRo vBe) t.heap) A
set_option maxHeartbeats 4000000 in
set_option maxRecDepth 100000 in
theorem c_X7_takeTick (l : Launch) (G : va_G) (ah : Nat → Nat) (z : LZ) (zE : Nat) (y : Nat → ClassId) (sz : Nat) (vN vC vNow vHaze vCold vHot vPipe vDeg vThaw vTrc vTurb vLeft vLoad vWater vTrips vMi1 vMi2 vSz vBs : Int) (vCell vDirt vAim vErr vCor vBrk vTop vLm vRows vCols vDown vRight vBound vStrain vPrice vFirm vSums vTk vFl1 vFl2 vTe vAw vRo vBe : Int → Int) (w : Int) (hZ : LZok z vN vC) (hTk : ∀ j9 : Int, 0 ≤ j9 → j9 < 64 → vTk j9 = ocZ vN vCell j9) (hN : 0 ≤ vN ∧ vN ≤ 12) (hC : 0 ≤ vC ∧ vC ≤ 4) (hNow : 0 ≤ vNow ∧ vNow ≤ 9999) (hHaze : 0 ≤ vHaze ∧ vHaze ≤ 9) (hCell : ∀ j9 : Int, 0 ≤ vCell j9 ∧ vCell j9 ≤ 63) (hDirt : ∀ j9 : Int, 0 ≤ vDirt j9 ∧ vDirt j9 ≤ 9) (hTop : ∀ j9 : Int, -(16 + vNow) ≤ vTop j9 ∧ vTop j9 ≤ 16 + vNow) (hLm : ∀ j9 : Int, -(16 + vNow) ≤ vLm j9 ∧ vLm j9 ≤ 16 + vNow) (hRows : ∀ j9 : Int, 0 ≤ vRows j9 ∧ vRows j9 ≤ 8) (hCols : ∀ j9 : Int, 0 ≤ vCols j9 ∧ vCols j9 ≤ 8) (hDown : ∀ j9 : Int, -1 ≤ vDown j9 ∧ vDown j9 ≤ 1) (hRight : ∀ j9 : Int, -1 ≤ vRight j9 ∧ vRight j9 ≤ 1) (hAim : ∀ j9 : Int, -1 ≤ vAim j9 ∧ vAim j9 ≤ 5) (hErr : ∀ j9 : Int, -3 ≤ vErr j9 ∧ vErr j9 ≤ 3) (hCor : ∀ j9 : Int, -3 ≤ vCor j9 ∧ vCor j9 ≤ 3) (hBrk : ∀ j9 : Int, 0 ≤ vBrk j9 ∧ vBrk j9 ≤ 1) (hBound : ∀ j9 : Int, 0 ≤ vBound j9 ∧ vBound j9 ≤ 9999) (hSalt : 0 ≤ vCold ∧ 0 ≤ vHot ∧ vCold + vHot ≤ 1000) (hPipe : 0 ≤ vPipe ∧ vPipe ≤ 2) (hDeg : 0 ≤ vDeg ∧ vDeg ≤ 40 ∧ (vPipe = 1 → 20 ≤ vDeg)) (hThaw : vPipe = 2 → 0 ≤ vThaw ∧ vThaw ≤ 2) (hTrc : 0 ≤ vTrc ∧ vTrc ≤ 1) (hTurb : 0 ≤ vTurb ∧ vTurb ≤ 2) (hLeft : 0 ≤ vLeft ∧ vLeft ≤ 2 ∧ (vTurb = 1 → 1 ≤ vLeft)) (hLoad : 0 ≤ vLoad ∧ vLoad ≤ 20) (hPrice : ∀ j9 : Int, 0 ≤ vPrice j9 ∧ vPrice j9 ≤ 99) (hFirm : ∀ j9 : Int, 0 ≤ vFirm j9 ∧ vFirm j9 ≤ 200) (hStrain : ∀ j9 : Int, 0 ≤ vStrain j9 ∧ vStrain j9 ≤ vNow) (hTrips : 0 ≤ vTrips ∧ vTrips ≤ vNow) (hn : vNow ≤ 9998) (hwt : vPipe = 2 → vThaw = w) : Met l yX7_takeTick wsX7_takeTick ({ frames := 7, cells := 0, slots := 0, locals := 155 }) (va_Pc [.ref (ah 0)] (HPreG zE G (tyL y) (hW ah z y vN vC vNow vHaze vCold vHot vPipe vDeg vThaw vTrc vTurb vLeft vLoad vWater vTrips vMi1 vMi2 vSz vBs vCell vDirt vAim vErr vCor vBrk vTop vLm vRows vCols vDown vRight vBound vStrain vPrice vFirm vSums vTk vFl1 vFl2 vTe vAw vRo vBe) sz)) (Q_X7_takeTick G ah z y vN vC vNow vHaze vCold vHot vPipe vDeg vThaw vTrc vTurb vLeft vLoad vWater vTrips vMi1 vMi2 vSz vBs vCell vDirt vAim vErr vCor vBrk vTop vLm vRows vCols vDown vRight vBound vStrain vPrice vFirm vSums vTk vFl1 vFl2 vTe vAw vRo vBe w (va_A (hW ah z y vN vC vNow vHaze vCold vHot vPipe vDeg vThaw vTrc vTurb vLeft vLoad vWater vTrips vMi1 vMi2 vSz vBs vCell vDirt vAim vErr vCor vBrk vTop vLm vRows vCols vDown vRight vBound vStrain vPrice vFirm vSums vTk vFl1 vFl2 vTe vAw vRo vBe) sz)) 0 0 (va_A (hW ah z y vN vC vNow vHaze vCold vHot vPipe vDeg vThaw vTrc vTurb vLeft vLoad vWater vTrips vMi1 vMi2 vSz vBs vCell vDirt vAim vErr vCor vBrk vTop vLm vRows vCols vDown vRight vBound vStrain vPrice vFirm vSums vTk vFl1 vFl2 vTe vAw vRo vBe) sz) := by
  refine hz_ofWG (Qf := Q_X7_takeTick G ah z y vN vC vNow vHaze vCold vHot vPipe vDeg vThaw vTrc vTurb vLeft vLoad vWater vTrips vMi1 vMi2 vSz vBs vCell vDirt vAim vErr vCor vBrk vTop vLm vRows vCols vDown vRight vBound vStrain vPrice vFirm vSums vTk vFl1 vFl2 vTe vAw vRo vBe w) (cc := cX7_takeTick) (maxL := 5) (ret := none) (by decide) rfl (Nat.le_of_ble_eq_true rfl) ?_
  intro p e s m below meth c A ls hx hb hr hts hown hin hlocks hml hP hK hA hD hS hGP hl
  have hown : s.vm.findClass RX7 = some m.cls := hown
  have hl : lv_has ls 5 [(0, .ref (ah 0))] := hl
  have hinwsJx4a65c0 : ∀ w ∈ wsJx4a65c0, w ∈ wsX7_takeTick := fun _ h => List.mem_cons_of_mem _ (List.mem_append_left _ (List.mem_append_left _ (List.mem_append_left _ (List.mem_append_right _ (h)))))
  have hinwsX10 : ∀ w ∈ wsX10, w ∈ wsX7_takeTick := fun _ h => List.mem_cons_of_mem _ (List.mem_append_left _ (List.mem_append_left _ (List.mem_append_right _ (h))))
  have hinwsX20 : ∀ w ∈ wsX20, w ∈ wsX7_takeTick := fun _ h => List.mem_cons_of_mem _ (List.mem_append_left _ (List.mem_append_left _ (List.mem_append_left _ (List.mem_append_left _ (List.mem_append_left _ (List.mem_append_left _ (List.mem_append_right _ (h))))))))
  have hinwsX30 : ∀ w ∈ wsX30, w ∈ wsX7_takeTick := fun _ h => List.mem_cons_of_mem _ (List.mem_append_left _ (List.mem_append_left _ (List.mem_append_left _ (List.mem_append_left _ (List.mem_append_right _ (h))))))
  have hinwsX40 : ∀ w ∈ wsX40, w ∈ wsX7_takeTick := fun _ h => List.mem_cons_of_mem _ (List.mem_append_left _ (List.mem_append_left _ (List.mem_append_left _ (List.mem_append_left _ (List.mem_append_left _ (List.mem_append_right _ (h)))))))
  have hinwsX50 : ∀ w ∈ wsX50, w ∈ wsX7_takeTick := fun _ h => List.mem_cons_of_mem _ (List.mem_append_left _ (List.mem_append_right _ (h)))
  have hinwsX60 : ∀ w ∈ wsX60, w ∈ wsX7_takeTick := fun _ h => List.mem_cons_of_mem _ (List.mem_append_right _ (h))
  have hinwsX70 : ∀ w ∈ wsX70, w ∈ wsX7_takeTick := fun _ h => List.mem_cons_of_mem _ (List.mem_append_left _ (List.mem_append_left _ (List.mem_append_left _ (List.mem_append_left _ (List.mem_append_left _ (List.mem_append_left _ (List.mem_append_left _ (List.mem_append_right _ (h)))))))))
  have qh := hdZ_rng (v := vDeg + 5) (a := 0) (b := 40) (by omega)
  refine lv_aload_n hx hb dX7_takeTick_0 rfl (lv_at hl 0 rfl) ?_
  refine va_get (D := G) (ci := 8) (v := .ref (ah 1)) (C := RX7) (T := TX7) (N := 14) hx hb hts hinwsX70 hown hK hP 0 rfl rfl 0 (by decide) (hts (.fieldLink RX7 10 "Heliokeep" "field" "LHeliokeep$Field;") (List.mem_of_getElem? (i := 1) rfl)) (fun _ h9 => h9) rfl dX7_takeTick_1 ?_
  refine lv_aload_n hx hb dX7_takeTick_4 rfl (lv_at hl 0 rfl) ?_
  refine va_get (D := G) (ci := 8) (v := .ref (ah 2)) (C := RX7) (T := TX7) (N := 14) hx hb hts hinwsX70 hown hK hP 0 rfl rfl 1 (by decide) (hts (.fieldLink RX7 19 "Heliokeep" "light" "LHeliokeep$Light;") (List.mem_of_getElem? (i := 2) rfl)) (fun _ h9 => h9) rfl dX7_takeTick_5 ?_
  refine hz_iconst hx hb dX7_takeTick_8 ?_
  refine hz_callWvG (As := [.ref (ah 2), zi 0]) (rest := []) ⟨hx, hb, hml, hown, hts⟩ (c_shine1 l G ah z zE y _ vN vC vNow vHaze vCold vHot vPipe vDeg vThaw vTrc vTurb vLeft vLoad vWater vTrips vMi1 vMi2 vSz vBs vCell vDirt vAim vErr vCor vBrk vTop vLm vRows vCols vDown vRight vBound vStrain vPrice vFirm vSums vTk vFl1 vFl2 vTe vAw vRo vBe 0 hZ hTk hN hC hNow hHaze hCell hDirt hTop hLm hRows hCols hDown hRight hAim hErr hCor (by omega)) (cwV 2 hts gX7_takeTick_X2_shineOn rfl rfl rfl (by decide +kernel) ⟨Nat.le_of_ble_eq_true rfl, Nat.le_of_ble_eq_true rfl⟩) hP hK hD hS hA hGP 1 3 rfl rfl rfl rfl hl.1 rfl (Nat.le_of_ble_eq_true rfl) dX7_takeTick_9 ⟨Nat.zero_le _, Nat.zero_le _⟩ (fun _ => rfl) (fun u H locs hu hP hD hS => ?_)
  obtain ⟨f_1, m_2⟩ := u
  have p3 : ∀ q : Int, 0 ≤ q → q ≤ 5 → f_1 q = baZ 0 vN vAim vErr vCor (ryZ vN vC vNow vHaze vCell vDirt vTop vLm vRows vCols vDown vRight) q := hu.1
  have p4 : m_2 = byZ 0 vN vAim vErr vCor (ryZ vN vC vNow vHaze vCell vDirt vTop vLm vRows vCols vDown vRight) := hu.2
  have hP : va_P G vwCl (hW ah z y vN vC vNow vHaze vCold vHot vPipe vDeg vThaw vTrc vTurb vLeft vLoad vWater vTrips m_2 vMi2 vSz vBs vCell vDirt vAim vErr vCor vBrk vTop vLm vRows vCols vDown vRight vBound vStrain vPrice vFirm vSums vTk f_1 vFl2 vTe vAw vRo vBe) H := hP
  have hD : va_D A (hW ah z y vN vC vNow vHaze vCold vHot vPipe vDeg vThaw vTrc vTurb vLeft vLoad vWater vTrips m_2 vMi2 vSz vBs vCell vDirt vAim vErr vCor vBrk vTop vLm vRows vCols vDown vRight vBound vStrain vPrice vFirm vSums vTk f_1 vFl2 vTe vAw vRo vBe) := hD
  have efa : ∀ q : Int, 0 ≤ q → q ≤ 5 → f_1 q = (flZ vN vAim vErr vCor (ryZ vN vC vNow vHaze vCell vDirt vTop vLm vRows vCols vDown vRight) (-1) 0) q := fun q a b => (p3 q a b).trans ba_0
  have eal : alZ f_1 = alZ (flZ vN vAim vErr vCor (ryZ vN vC vNow vHaze vCell vDirt vTop vLm vRows vCols vDown vRight) (-1) 0) := alZ_cong efa
  have etr : trN f_1 vBound 6 = trN (flZ vN vAim vErr vCor (ryZ vN vC vNow vHaze vCell vDirt vTop vLm vRows vCols vDown vRight) (-1) 0) vBound 6 := trN_cong efa
  have esn : snZ vStrain f_1 vBound 6 = snZ vStrain (flZ vN vAim vErr vCor (ryZ vN vC vNow vHaze vCell vDirt vTop vLm vRows vCols vDown vRight) (-1) 0) vBound 6 := snZ_cong efa
  have ems : m_2 = (msZ vN vAim vErr vCor (ryZ vN vC vNow vHaze vCell vDirt vTop vLm vRows vCols vDown vRight) (-1) 0) := p4.trans by_0
  have hrr := ry_rng (n := vN) (cl := vC) (now := vNow) (dirt := vDirt) (top := vTop) (lm := vLm) (rows := vRows) (cols := vCols) (down := vDown) (right := vRight) hHaze hCell
  have hfr : ∀ q : Int, 0 ≤ q → q ≤ 5 → 0 ≤ f_1 q ∧ f_1 q ≤ 11400 := fun q a b => by rw [efa q a b]; exact flZ_rng hN hrr
  have hmr : 0 ≤ m_2 ∧ m_2 ≤ 11400 := by rw [ems]; exact msZ_rng hN hrr
  refine lv_aload_n hx hb dX7_takeTick_12 rfl (lv_at hl 0 rfl) ?_
  refine hz_callWiG (As := []) (rest := []) ⟨hx, hb, hml, hown, hts⟩ (c_X7_receiveHeat l G ah z zE y _ vN vC vNow vHaze vCold vHot vPipe vDeg vThaw vTrc vTurb vLeft vLoad vWater vTrips m_2 vMi2 vSz vBs vCell vDirt vAim vErr vCor vBrk vTop vLm vRows vCols vDown vRight vBound vStrain vPrice vFirm vSums vTk f_1 vFl2 vTe vAw vRo vBe  hZ hN hAim hBrk hBound hfr hmr) (cwV 0 hts gX7_takeTick_X7_receiveHeat rfl rfl rfl (by decide +kernel) ⟨Nat.le_of_ble_eq_true rfl, Nat.le_of_ble_eq_true rfl⟩) hP hK hD hS hA hGP 0 8 rfl rfl rfl rfl hl.1 rfl (Nat.le_of_ble_eq_true rfl) dX7_takeTick_13 ⟨Nat.zero_le _, Nat.zero_le _⟩ (fun _ => hW_fst) (fun u H locs hu hP hD hS => ?_)
  obtain ⟨r_5, n_6, n_7, n_8, n_9⟩ := u
  have p10 : r_5 = (if trN f_1 vBound 6 = 1 then 0 else alZ f_1) := hu.1
  have p11 : 0 ≤ r_5 ∧ r_5 ≤ 68400 := hu.2.1
  have p12 : n_6 = (if trN f_1 vBound 6 = 1 then adZ (adZ (adZ vSums 0 (alZ f_1 + m_2)) 1 m_2) 2 (alZ f_1) else adZ (adZ (adZ vSums 0 (alZ f_1 + m_2)) 1 m_2) 3 (alZ f_1)) := hu.2.2.1
  have p13 : n_7 = (if trN f_1 vBound 6 = 1 then vTrips + 1 else vTrips) := hu.2.2.2.1
  have p14 : n_8 = (if trN f_1 vBound 6 = 1 then snZ vStrain f_1 vBound 6 else vStrain) := hu.2.2.2.2.1
  have p15 : n_9 = (if trN f_1 vBound 6 = 1 then stZ vAim vBrk vN else vAim) := hu.2.2.2.2.2.1
  have p16 : ∀ k : Int, -1 ≤ n_9 k ∧ n_9 k ≤ 5 := hu.2.2.2.2.2.2
  have hP : va_P G vwCl (hW ah z y vN vC vNow vHaze vCold vHot vPipe vDeg vThaw vTrc vTurb vLeft vLoad vWater n_7 m_2 vMi2 vSz vBs vCell vDirt n_9 vErr vCor vBrk vTop vLm vRows vCols vDown vRight vBound n_8 vPrice vFirm n_6 vTk f_1 vFl2 vTe vAw vRo vBe) H := hP
  have hD : va_D A (hW ah z y vN vC vNow vHaze vCold vHot vPipe vDeg vThaw vTrc vTurb vLeft vLoad vWater n_7 m_2 vMi2 vSz vBs vCell vDirt n_9 vErr vCor vBrk vTop vLm vRows vCols vDown vRight vBound n_8 vPrice vFirm n_6 vTk f_1 vFl2 vTe vAw vRo vBe) := hD
  refine lv_istore_n (lv' := [(1, zi r_5), (0, .ref (ah 0))]) hx hb dX7_takeTick_16 rfl hl (by decide) rfl (fun ls hl => ?_)
  refine lv_aload_n hx hb dX7_takeTick_17 rfl (lv_at hl 1 rfl) ?_
  refine lv_iload_n hx hb dX7_takeTick_18 rfl (lv_at hl 0 rfl) ?_
  refine hz_callWiG (As := [zi r_5]) (rest := []) ⟨hx, hb, hml, hown, hts⟩ (c_X7_moveSaltToHot l G ah z zE y _ vN vC vNow vHaze vCold vHot vPipe vDeg vThaw vTrc vTurb vLeft vLoad vWater n_7 m_2 vMi2 vSz vBs vCell vDirt n_9 vErr vCor vBrk vTop vLm vRows vCols vDown vRight vBound n_8 vPrice vFirm n_6 vTk f_1 vFl2 vTe vAw vRo vBe r_5 hSalt hPipe (by omega)) (cwV 1 hts gX7_takeTick_X7_moveSaltToHot rfl rfl rfl (by decide +kernel) ⟨Nat.le_of_ble_eq_true rfl, Nat.le_of_ble_eq_true rfl⟩) hP hK hD hS hA hGP 0 8 rfl rfl rfl rfl hl.1 rfl (Nat.le_of_ble_eq_true rfl) dX7_takeTick_19 ⟨Nat.zero_le _, Nat.zero_le _⟩ (fun _ => rfl) (fun u H locs hu hP hD hS => ?_)
  obtain ⟨r_17, n_18, n_19, n_20⟩ := u
  have p21 : r_17 = cmZ vPipe r_5 vCold := hu.1
  have p22 : n_18 = vCold - r_17 := hu.2.1
  have p23 : n_19 = vHot + r_17 := hu.2.2.1
  have p24 : n_20 = adZ (adZ n_6 4 (r_5 - 100 * r_17)) 5 r_17 := hu.2.2.2.1
  have p25 : 0 ≤ n_18 ∧ 0 ≤ n_19 ∧ n_18 + n_19 ≤ 1000 := hu.2.2.2.2.1
  have p26 : 0 ≤ r_17 ∧ r_17 ≤ 1000 := hu.2.2.2.2.2
  have hP : va_P G vwCl (hW ah z y vN vC vNow vHaze n_18 n_19 vPipe vDeg vThaw vTrc vTurb vLeft vLoad vWater n_7 m_2 vMi2 vSz vBs vCell vDirt n_9 vErr vCor vBrk vTop vLm vRows vCols vDown vRight vBound n_8 vPrice vFirm n_20 vTk f_1 vFl2 vTe vAw vRo vBe) H := hP
  have hD : va_D A (hW ah z y vN vC vNow vHaze n_18 n_19 vPipe vDeg vThaw vTrc vTurb vLeft vLoad vWater n_7 m_2 vMi2 vSz vBs vCell vDirt n_9 vErr vCor vBrk vTop vLm vRows vCols vDown vRight vBound n_8 vPrice vFirm n_20 vTk f_1 vFl2 vTe vAw vRo vBe) := hD
  refine lv_istore_n (lv' := [(2, zi r_17), (1, zi r_5), (0, .ref (ah 0))]) hx hb dX7_takeTick_22 rfl hl (by decide) rfl (fun ls hl => ?_)
  refine lv_aload_n hx hb dX7_takeTick_23 rfl (lv_at hl 2 rfl) ?_
  refine va_get (D := G) (ci := 8) (v := .ref (ah 5)) (C := RX7) (T := TX7) (N := 14) hx hb hts hinwsX70 hown hK hP 0 rfl rfl 8 (by decide) (hts (.fieldLink RX7 44 "Heliokeep" "pipe" "LHeliokeep$Pipe;") (List.mem_of_getElem? (i := 3) rfl)) (fun _ h9 => h9) rfl dX7_takeTick_24 ?_
  refine lv_iload_n hx hb dX7_takeTick_27 rfl (lv_at hl 0 rfl) ?_
  refine hz_if_le (tgt := 35) hx hb dX7_takeTick_28 (by decide) (by omega) (fun c27 => ?_) (fun c27 => ?_)
  · refine hz_iconst hx hb dX7_takeTick_35 ?_
    refine hz_callVv (ws := (hW ah z y vN vC vNow vHaze n_18 n_19 vPipe vDeg vThaw vTrc vTurb vLeft vLoad vWater n_7 m_2 vMi2 vSz vBs vCell vDirt n_9 vErr vCor vBrk vTop vLm vRows vCols vDown vRight vBound n_8 vPrice vFirm n_20 vTk f_1 vFl2 vTe vAw vRo vBe)) (wc := (ppW (ah 5) y vPipe vDeg vTrc vThaw)) (As := [zi 0]) (rest := []) ⟨hx, hb, hml, hown, hts⟩ (c_X5_takeTick l G (ah 5) y _ vPipe vDeg vTrc vThaw 0 (by omega) (by omega) hThaw (by omega)) (cwV 1 hts gX7_takeTick_X5_takeTick rfl rfl rfl (by decide +kernel) ⟨Nat.le_of_ble_eq_true rfl, Nat.le_of_ble_eq_true rfl⟩) hP hK hD hS hA [5] [0, 1, 2, 3] rfl rfl rfl 5 6 rfl rfl rfl rfl hl.1 rfl (Nat.le_of_ble_eq_true rfl) dX7_takeTick_36 ⟨Nat.zero_le _, Nat.zero_le _⟩ (fun _ => rfl) (fun u H locs hu hP hD hS => ?_)
    obtain ⟨n_28, n_29, n_30⟩ := u
    have p31 : n_28 = npZ vPipe vDeg vThaw vTrc 0 := hu.1
    have p32 : n_29 = ndZ vPipe vDeg vThaw vTrc 0 := hu.2.1
    have p33 : n_28 = 2 → n_30 = ntZ vPipe vThaw vTrc := hu.2.2
    have hP : va_P G vwCl (hW ah z y vN vC vNow vHaze n_18 n_19 n_28 n_29 n_30 vTrc vTurb vLeft vLoad vWater n_7 m_2 vMi2 vSz vBs vCell vDirt n_9 vErr vCor vBrk vTop vLm vRows vCols vDown vRight vBound n_8 vPrice vFirm n_20 vTk f_1 vFl2 vTe vAw vRo vBe) H := hP
    have hD : va_D A (hW ah z y vN vC vNow vHaze n_18 n_19 n_28 n_29 n_30 vTrc vTurb vLeft vLoad vWater n_7 m_2 vMi2 vSz vBs vCell vDirt n_9 vErr vCor vBrk vTop vLm vRows vCols vDown vRight vBound n_8 vPrice vFirm n_20 vTk f_1 vFl2 vTe vAw vRo vBe) := hD
    have eP : n_28 = npZ vPipe vDeg w vTrc r_17 := p31.trans (np_e (by omega) hwt)
    have eG : n_29 = ndZ vPipe vDeg w vTrc r_17 := p32.trans (nd_e (by omega) hwt)
    refine lv_aload_n hx hb dX7_takeTick_39 rfl (lv_at hl 2 rfl) ?_
    refine hz_callWiG (As := []) (rest := []) ⟨hx, hb, hml, hown, hts⟩ (c_X7_makeEnergy l G ah z zE y _ vN vC vNow vHaze n_18 n_19 n_28 n_29 n_30 vTrc vTurb vLeft vLoad vWater n_7 m_2 vMi2 vSz vBs vCell vDirt n_9 vErr vCor vBrk vTop vLm vRows vCols vDown vRight vBound n_8 vPrice vFirm n_20 vTk f_1 vFl2 vTe vAw vRo vBe  hNow p25 hTurb hLeft hLoad) (cwV 0 hts gX7_takeTick_X7_makeEnergy rfl rfl rfl (by decide +kernel) ⟨Nat.le_of_ble_eq_true rfl, Nat.le_of_ble_eq_true rfl⟩) hP hK hD hS hA hGP 0 8 rfl rfl rfl rfl hl.1 rfl (Nat.le_of_ble_eq_true rfl) dX7_takeTick_40 ⟨Nat.zero_le _, Nat.zero_le _⟩ (fun _ => rfl) (fun u H locs hu hP hD hS => ?_)
    obtain ⟨r_34, n_35, n_36, n_37, n_38, n_39⟩ := u
    have p40 : r_34 = tuZ vTurb vLoad n_19 * (10 - strZ vNow / 5) := hu.1
    have p41 : 0 ≤ r_34 ∧ r_34 ≤ 200 := hu.2.1
    have p42 : n_35 = n_18 + tuZ vTurb vLoad n_19 := hu.2.2.1
    have p43 : n_36 = n_19 - tuZ vTurb vLoad n_19 := hu.2.2.2.1
    have p44 : n_37 = nbZ vTurb vLeft := hu.2.2.2.2.1
    have p45 : n_38 = nlZ vTurb vLeft := hu.2.2.2.2.2.1
    have p46 : n_39 = adZ n_20 6 r_34 := hu.2.2.2.2.2.2.1
    have p47 : 0 ≤ n_35 ∧ 0 ≤ n_36 ∧ n_35 + n_36 ≤ 1000 := hu.2.2.2.2.2.2.2.1
    have p48 : 0 ≤ n_37 ∧ n_37 ≤ 2 := hu.2.2.2.2.2.2.2.2.1
    have p49 : 0 ≤ n_38 ∧ n_38 ≤ 2 ∧ (n_37 = 1 → 1 ≤ n_38) := hu.2.2.2.2.2.2.2.2.2
    have hP : va_P G vwCl (hW ah z y vN vC vNow vHaze n_35 n_36 n_28 n_29 n_30 vTrc n_37 n_38 vLoad vWater n_7 m_2 vMi2 vSz vBs vCell vDirt n_9 vErr vCor vBrk vTop vLm vRows vCols vDown vRight vBound n_8 vPrice vFirm n_39 vTk f_1 vFl2 vTe vAw vRo vBe) H := hP
    have hD : va_D A (hW ah z y vN vC vNow vHaze n_35 n_36 n_28 n_29 n_30 vTrc n_37 n_38 vLoad vWater n_7 m_2 vMi2 vSz vBs vCell vDirt n_9 vErr vCor vBrk vTop vLm vRows vCols vDown vRight vBound n_8 vPrice vFirm n_39 vTk f_1 vFl2 vTe vAw vRo vBe) := hD
    refine lv_istore_n (lv' := [(3, zi r_34), (2, zi r_17), (1, zi r_5), (0, .ref (ah 0))]) hx hb dX7_takeTick_43 rfl hl (by decide) rfl (fun ls hl => ?_)
    refine lv_iload_n hx hb dX7_takeTick_44 rfl (lv_at hl 0 rfl) ?_
    refine lv_aload_n hx hb dX7_takeTick_45 rfl (lv_at hl 3 rfl) ?_
    refine lv_iload_n hx hb dX7_takeTick_46 rfl (lv_at hl 0 rfl) ?_
    refine hz_callWiG (As := [zi r_34]) (rest := [zi r_34]) ⟨hx, hb, hml, hown, hts⟩ (c_X7_payForTrace l G ah z zE y _ vN vC vNow vHaze n_35 n_36 n_28 n_29 n_30 vTrc n_37 n_38 vLoad vWater n_7 m_2 vMi2 vSz vBs vCell vDirt n_9 vErr vCor vBrk vTop vLm vRows vCols vDown vRight vBound n_8 vPrice vFirm n_39 vTk f_1 vFl2 vTe vAw vRo vBe r_34 hTrc (by omega)) (cwV 1 hts gX7_takeTick_X7_payForTrace rfl rfl rfl (by decide +kernel) ⟨Nat.le_of_ble_eq_true rfl, Nat.le_of_ble_eq_true rfl⟩) hP hK hD hS hA hGP 0 8 rfl rfl rfl rfl hl.1 rfl (Nat.le_of_ble_eq_true rfl) dX7_takeTick_47 ⟨Nat.zero_le _, Nat.zero_le _⟩ (fun _ => rfl) (fun u H locs hu hP hD hS => ?_)
    obtain ⟨r_50, n_51⟩ := u
    have p52 : r_50 = toZ vTrc - boZ vTrc r_34 := hu.1
    have p53 : n_51 = adZ (adZ n_39 7 (toZ vTrc)) 8 (boZ vTrc r_34) := hu.2.1
    have p54 : 0 ≤ r_50 ∧ r_50 ≤ 2 ∧ r_50 ≤ r_34 := hu.2.2
    have hP : va_P G vwCl (hW ah z y vN vC vNow vHaze n_35 n_36 n_28 n_29 n_30 vTrc n_37 n_38 vLoad vWater n_7 m_2 vMi2 vSz vBs vCell vDirt n_9 vErr vCor vBrk vTop vLm vRows vCols vDown vRight vBound n_8 vPrice vFirm n_51 vTk f_1 vFl2 vTe vAw vRo vBe) H := hP
    have hD : va_D A (hW ah z y vN vC vNow vHaze n_35 n_36 n_28 n_29 n_30 vTrc n_37 n_38 vLoad vWater n_7 m_2 vMi2 vSz vBs vCell vDirt n_9 vErr vCor vBrk vTop vLm vRows vCols vDown vRight vBound n_8 vPrice vFirm n_51 vTk f_1 vFl2 vTe vAw vRo vBe) := hD
    refine hz_isub hx hb dX7_takeTick_50 ?_
    refine lv_istore (lv' := [(4, zi (r_34 - r_50)), (3, zi r_34), (2, zi r_17), (1, zi r_5), (0, .ref (ah 0))]) hx hb dX7_takeTick_51 hl (by decide) rfl (fun ls hl => ?_)
    refine lv_aload_n hx hb dX7_takeTick_53 rfl (lv_at hl 4 rfl) ?_
    refine lv_iload hx hb dX7_takeTick_54 (lv_at hl 0 rfl) ?_
    refine hz_callWvG (As := [zi (r_34 - r_50)]) (rest := []) ⟨hx, hb, hml, hown, hts⟩ (c_X7_shareEnergy l G ah z zE y _ vN vC vNow vHaze n_35 n_36 n_28 n_29 n_30 vTrc n_37 n_38 vLoad vWater n_7 m_2 vMi2 vSz vBs vCell vDirt n_9 vErr vCor vBrk vTop vLm vRows vCols vDown vRight vBound n_8 vPrice vFirm n_51 vTk f_1 vFl2 vTe vAw vRo vBe (r_34 - r_50) hNow hPrice hFirm (by omega)) (cwV 1 hts gX7_takeTick_X7_shareEnergy rfl rfl rfl (by decide +kernel) ⟨Nat.le_of_ble_eq_true rfl, Nat.le_of_ble_eq_true rfl⟩) hP hK hD hS hA hGP 0 8 rfl rfl rfl rfl hl.1 rfl (Nat.le_of_ble_eq_true rfl) dX7_takeTick_56 ⟨Nat.zero_le _, Nat.zero_le _⟩ (fun _ => rfl) (fun n_55 H locs hu hP hD hS => ?_)
    have p56 : n_55 = adZ (adZ (adZ (adZ n_51 9 (dzZ (r_34 - r_50) (vFirm (vNow % 24)))) 10 (vFirm (vNow % 24) - dzZ (r_34 - r_50) (vFirm (vNow % 24)))) 11 ((r_34 - r_50) - dzZ (r_34 - r_50) (vFirm (vNow % 24)))) 12 (((r_34 - r_50) - dzZ (r_34 - r_50) (vFirm (vNow % 24))) * vPrice (vNow % 24)) := hu
    have hP : va_P G vwCl (hW ah z y vN vC vNow vHaze n_35 n_36 n_28 n_29 n_30 vTrc n_37 n_38 vLoad vWater n_7 m_2 vMi2 vSz vBs vCell vDirt n_9 vErr vCor vBrk vTop vLm vRows vCols vDown vRight vBound n_8 vPrice vFirm n_55 vTk f_1 vFl2 vTe vAw vRo vBe) H := hP
    have hD : va_D A (hW ah z y vN vC vNow vHaze n_35 n_36 n_28 n_29 n_30 vTrc n_37 n_38 vLoad vWater n_7 m_2 vMi2 vSz vBs vCell vDirt n_9 vErr vCor vBrk vTop vLm vRows vCols vDown vRight vBound n_8 vPrice vFirm n_55 vTk f_1 vFl2 vTe vAw vRo vBe) := hD
    refine lv_aload_n hx hb dX7_takeTick_59 rfl (lv_at hl 4 rfl) ?_
    refine va_get (D := G) (ci := 8) (v := .ref (ah 1)) (C := RX7) (T := TX7) (N := 14) hx hb hts hinwsX70 hown hK hP 0 rfl rfl 0 (by decide) (hts (.fieldLink RX7 10 "Heliokeep" "field" "LHeliokeep$Field;") (List.mem_of_getElem? (i := 1) rfl)) (fun _ h9 => h9) rfl dX7_takeTick_60 ?_
    refine hz_callWvG (As := []) (rest := []) ⟨hx, hb, hml, hown, hts⟩ (c_X2_endTick l G ah z zE y _ vN vC vNow vHaze n_35 n_36 n_28 n_29 n_30 vTrc n_37 n_38 vLoad vWater n_7 m_2 vMi2 vSz vBs vCell vDirt n_9 vErr vCor vBrk vTop vLm vRows vCols vDown vRight vBound n_8 vPrice vFirm n_55 vTk f_1 vFl2 vTe vAw vRo vBe  hZ hN hC hNow hDirt) (cwV 0 hts gX7_takeTick_X2_endTick rfl rfl rfl (by decide +kernel) ⟨Nat.le_of_ble_eq_true rfl, Nat.le_of_ble_eq_true rfl⟩) hP hK hD hS hA hGP 1 3 rfl rfl rfl rfl hl.1 rfl (Nat.le_of_ble_eq_true rfl) dX7_takeTick_63 ⟨Nat.zero_le _, Nat.zero_le _⟩ (fun _ => hW_fst) (fun u H locs hu hP hD hS => ?_)
    obtain ⟨n_57, n_58, n_59⟩ := u
    have p60 : n_57 = drZ vTop vDown vC := hu.1
    have p61 : n_58 = drZ vLm vRight vC := hu.2.1
    have p62 : n_59 = ddZ vNow vDirt vN := hu.2.2
    have hP : va_P G vwCl (hW ah z y vN vC (vNow + 1) vHaze n_35 n_36 n_28 n_29 n_30 vTrc n_37 n_38 vLoad vWater n_7 m_2 vMi2 vSz vBs vCell n_59 n_9 vErr vCor vBrk n_57 n_58 vRows vCols vDown vRight vBound n_8 vPrice vFirm n_55 vTk f_1 vFl2 vTe vAw vRo vBe) H := hP
    have hD : va_D A (hW ah z y vN vC (vNow + 1) vHaze n_35 n_36 n_28 n_29 n_30 vTrc n_37 n_38 vLoad vWater n_7 m_2 vMi2 vSz vBs vCell n_59 n_9 vErr vCor vBrk n_57 n_58 vRows vCols vDown vRight vBound n_8 vPrice vFirm n_55 vTk f_1 vFl2 vTe vAw vRo vBe) := hD
    exact W.vret hx hb hr (fun t ht hW => ⟨⟨(f_1, m_2, n_9, n_59, n_57, n_58, n_8, n_55, vNow + 1, n_35, n_36, n_28, n_29, n_30, n_37, n_38, n_7, (ntZ vPipe w vTrc)), rfl, ⟨(show (n_9, n_59, n_57, n_58, n_8, n_55, (vNow + 1), n_35, n_36, n_28, n_29, (ntZ vPipe w vTrc), n_37, n_38, n_7) = tkF (vN, vC, vHaze, vTrc, vLoad, vCell, vErr, vCor, vBrk, vRows, vCols, vDown, vRight, vBound, vPrice, vFirm) (vAim, vDirt, vTop, vLm, vStrain, vSums, vNow, vCold, vHot, vPipe, vDeg, w, vTurb, vLeft, vTrips) from by
          have er : (r_34 - r_50) = r_34 - toZ vTrc + boZ vTrc r_34 := by omega
          rw [p62, p60, p61, p56, er, p53, p46, p40, p42, p43, p44, p45, eP, eG, p24, p22, p23, p21, p12, p13, p14, p15, p10, etr, eal, ems, esn]
          rfl), (show n_28 = 2 → n_30 = (ntZ vPipe w vTrc) from fun h => by have q1 := p33 h; have q2 := p31; unfold npZ dgZ dwZ at q2; unfold ntZ at q1 ⊢; omega), (show (vNow + 1) = vNow + 1 from by omega), (show ∀ j9 : Int, -1 ≤ n_9 j9 ∧ n_9 j9 ≤ 5 from p16), (show ∀ j9 : Int, 0 ≤ n_59 j9 ∧ n_59 j9 ≤ 9 from by rw [p62]; exact ddZ_rng hDirt), (show ∀ j9 : Int, -(16 + (vNow + 1)) ≤ n_57 j9 ∧ n_57 j9 ≤ 16 + (vNow + 1) from fun k => by
          have q1 := hTop k
          have q2 := hDown k
          rw [p60]
          unfold drZ
          split <;> omega), (show ∀ j9 : Int, -(16 + (vNow + 1)) ≤ n_58 j9 ∧ n_58 j9 ≤ 16 + (vNow + 1) from fun k => by
          have q1 := hLm k
          have q2 := hRight k
          rw [p61]
          unfold drZ
          split <;> omega), (show ∀ j9 : Int, 0 ≤ n_8 j9 ∧ n_8 j9 ≤ (vNow + 1) from fun k => by
          have q1 := hStrain k
          rw [p14]
          split
          · unfold snZ; split <;> omega
          · omega), (show 0 ≤ n_7 ∧ n_7 ≤ (vNow + 1) from by
          rw [p13]
          split <;> omega), (show 0 ≤ n_35 ∧ 0 ≤ n_36 ∧ n_35 + n_36 ≤ 1000 from p47), (show 0 ≤ n_28 ∧ n_28 ≤ 2 from by have q2 := p31; unfold npZ dgZ dwZ at q2; omega), (show 0 ≤ n_29 ∧ n_29 ≤ 40 ∧ (n_28 = 1 → 20 ≤ n_29) from by have q2 := p31; have q3 := p32; unfold npZ dgZ dwZ at q2; unfold ndZ dgZ dwZ at q3; omega), (show n_28 = 2 → 0 ≤ n_30 ∧ n_30 ≤ 2 from fun h => by have q1 := p33 h; have q2 := p31; unfold npZ dgZ dwZ at q2; unfold ntZ at q1; omega), (show 0 ≤ n_37 ∧ n_37 ≤ 2 from p48), (show 0 ≤ n_38 ∧ n_38 ≤ 2 ∧ (n_37 = 1 → 1 ≤ n_38) from p49)⟩, hz_at hP ht⟩, hS.F ht⟩) hS.2.2 dX7_takeTick_66
  · refine hz_iconst hx hb dX7_takeTick_31 ?_
    refine lv_goto (tgt := 36) hx hb dX7_takeTick_32 (by decide) ?_
    refine hz_callVv (ws := (hW ah z y vN vC vNow vHaze n_18 n_19 vPipe vDeg vThaw vTrc vTurb vLeft vLoad vWater n_7 m_2 vMi2 vSz vBs vCell vDirt n_9 vErr vCor vBrk vTop vLm vRows vCols vDown vRight vBound n_8 vPrice vFirm n_20 vTk f_1 vFl2 vTe vAw vRo vBe)) (wc := (ppW (ah 5) y vPipe vDeg vTrc vThaw)) (As := [zi 1]) (rest := []) ⟨hx, hb, hml, hown, hts⟩ (c_X5_takeTick l G (ah 5) y _ vPipe vDeg vTrc vThaw 1 (by omega) (by omega) hThaw (by omega)) (cwV 1 hts gX7_takeTick_X5_takeTick rfl rfl rfl (by decide +kernel) ⟨Nat.le_of_ble_eq_true rfl, Nat.le_of_ble_eq_true rfl⟩) hP hK hD hS hA [5] [0, 1, 2, 3] rfl rfl rfl 5 6 rfl rfl rfl rfl hl.1 rfl (Nat.le_of_ble_eq_true rfl) dX7_takeTick_36 ⟨Nat.zero_le _, Nat.zero_le _⟩ (fun _ => rfl) (fun u H locs hu hP hD hS => ?_)
    obtain ⟨n_63, n_64, n_65⟩ := u
    have p66 : n_63 = npZ vPipe vDeg vThaw vTrc 1 := hu.1
    have p67 : n_64 = ndZ vPipe vDeg vThaw vTrc 1 := hu.2.1
    have p68 : n_63 = 2 → n_65 = ntZ vPipe vThaw vTrc := hu.2.2
    have hP : va_P G vwCl (hW ah z y vN vC vNow vHaze n_18 n_19 n_63 n_64 n_65 vTrc vTurb vLeft vLoad vWater n_7 m_2 vMi2 vSz vBs vCell vDirt n_9 vErr vCor vBrk vTop vLm vRows vCols vDown vRight vBound n_8 vPrice vFirm n_20 vTk f_1 vFl2 vTe vAw vRo vBe) H := hP
    have hD : va_D A (hW ah z y vN vC vNow vHaze n_18 n_19 n_63 n_64 n_65 vTrc vTurb vLeft vLoad vWater n_7 m_2 vMi2 vSz vBs vCell vDirt n_9 vErr vCor vBrk vTop vLm vRows vCols vDown vRight vBound n_8 vPrice vFirm n_20 vTk f_1 vFl2 vTe vAw vRo vBe) := hD
    have eP : n_63 = npZ vPipe vDeg w vTrc r_17 := p66.trans (np_e (by omega) hwt)
    have eG : n_64 = ndZ vPipe vDeg w vTrc r_17 := p67.trans (nd_e (by omega) hwt)
    refine lv_aload_n hx hb dX7_takeTick_39 rfl (lv_at hl 2 rfl) ?_
    refine hz_callWiG (As := []) (rest := []) ⟨hx, hb, hml, hown, hts⟩ (c_X7_makeEnergy l G ah z zE y _ vN vC vNow vHaze n_18 n_19 n_63 n_64 n_65 vTrc vTurb vLeft vLoad vWater n_7 m_2 vMi2 vSz vBs vCell vDirt n_9 vErr vCor vBrk vTop vLm vRows vCols vDown vRight vBound n_8 vPrice vFirm n_20 vTk f_1 vFl2 vTe vAw vRo vBe  hNow p25 hTurb hLeft hLoad) (cwV 0 hts gX7_takeTick_X7_makeEnergy rfl rfl rfl (by decide +kernel) ⟨Nat.le_of_ble_eq_true rfl, Nat.le_of_ble_eq_true rfl⟩) hP hK hD hS hA hGP 0 8 rfl rfl rfl rfl hl.1 rfl (Nat.le_of_ble_eq_true rfl) dX7_takeTick_40 ⟨Nat.zero_le _, Nat.zero_le _⟩ (fun _ => rfl) (fun u H locs hu hP hD hS => ?_)
    obtain ⟨r_69, n_70, n_71, n_72, n_73, n_74⟩ := u
    have p75 : r_69 = tuZ vTurb vLoad n_19 * (10 - strZ vNow / 5) := hu.1
    have p76 : 0 ≤ r_69 ∧ r_69 ≤ 200 := hu.2.1
    have p77 : n_70 = n_18 + tuZ vTurb vLoad n_19 := hu.2.2.1
    have p78 : n_71 = n_19 - tuZ vTurb vLoad n_19 := hu.2.2.2.1
    have p79 : n_72 = nbZ vTurb vLeft := hu.2.2.2.2.1
    have p80 : n_73 = nlZ vTurb vLeft := hu.2.2.2.2.2.1
    have p81 : n_74 = adZ n_20 6 r_69 := hu.2.2.2.2.2.2.1
    have p82 : 0 ≤ n_70 ∧ 0 ≤ n_71 ∧ n_70 + n_71 ≤ 1000 := hu.2.2.2.2.2.2.2.1
    have p83 : 0 ≤ n_72 ∧ n_72 ≤ 2 := hu.2.2.2.2.2.2.2.2.1
    have p84 : 0 ≤ n_73 ∧ n_73 ≤ 2 ∧ (n_72 = 1 → 1 ≤ n_73) := hu.2.2.2.2.2.2.2.2.2
    have hP : va_P G vwCl (hW ah z y vN vC vNow vHaze n_70 n_71 n_63 n_64 n_65 vTrc n_72 n_73 vLoad vWater n_7 m_2 vMi2 vSz vBs vCell vDirt n_9 vErr vCor vBrk vTop vLm vRows vCols vDown vRight vBound n_8 vPrice vFirm n_74 vTk f_1 vFl2 vTe vAw vRo vBe) H := hP
    have hD : va_D A (hW ah z y vN vC vNow vHaze n_70 n_71 n_63 n_64 n_65 vTrc n_72 n_73 vLoad vWater n_7 m_2 vMi2 vSz vBs vCell vDirt n_9 vErr vCor vBrk vTop vLm vRows vCols vDown vRight vBound n_8 vPrice vFirm n_74 vTk f_1 vFl2 vTe vAw vRo vBe) := hD
    refine lv_istore_n (lv' := [(3, zi r_69), (2, zi r_17), (1, zi r_5), (0, .ref (ah 0))]) hx hb dX7_takeTick_43 rfl hl (by decide) rfl (fun ls hl => ?_)
    refine lv_iload_n hx hb dX7_takeTick_44 rfl (lv_at hl 0 rfl) ?_
    refine lv_aload_n hx hb dX7_takeTick_45 rfl (lv_at hl 3 rfl) ?_
    refine lv_iload_n hx hb dX7_takeTick_46 rfl (lv_at hl 0 rfl) ?_
    refine hz_callWiG (As := [zi r_69]) (rest := [zi r_69]) ⟨hx, hb, hml, hown, hts⟩ (c_X7_payForTrace l G ah z zE y _ vN vC vNow vHaze n_70 n_71 n_63 n_64 n_65 vTrc n_72 n_73 vLoad vWater n_7 m_2 vMi2 vSz vBs vCell vDirt n_9 vErr vCor vBrk vTop vLm vRows vCols vDown vRight vBound n_8 vPrice vFirm n_74 vTk f_1 vFl2 vTe vAw vRo vBe r_69 hTrc (by omega)) (cwV 1 hts gX7_takeTick_X7_payForTrace rfl rfl rfl (by decide +kernel) ⟨Nat.le_of_ble_eq_true rfl, Nat.le_of_ble_eq_true rfl⟩) hP hK hD hS hA hGP 0 8 rfl rfl rfl rfl hl.1 rfl (Nat.le_of_ble_eq_true rfl) dX7_takeTick_47 ⟨Nat.zero_le _, Nat.zero_le _⟩ (fun _ => rfl) (fun u H locs hu hP hD hS => ?_)
    obtain ⟨r_85, n_86⟩ := u
    have p87 : r_85 = toZ vTrc - boZ vTrc r_69 := hu.1
    have p88 : n_86 = adZ (adZ n_74 7 (toZ vTrc)) 8 (boZ vTrc r_69) := hu.2.1
    have p89 : 0 ≤ r_85 ∧ r_85 ≤ 2 ∧ r_85 ≤ r_69 := hu.2.2
    have hP : va_P G vwCl (hW ah z y vN vC vNow vHaze n_70 n_71 n_63 n_64 n_65 vTrc n_72 n_73 vLoad vWater n_7 m_2 vMi2 vSz vBs vCell vDirt n_9 vErr vCor vBrk vTop vLm vRows vCols vDown vRight vBound n_8 vPrice vFirm n_86 vTk f_1 vFl2 vTe vAw vRo vBe) H := hP
    have hD : va_D A (hW ah z y vN vC vNow vHaze n_70 n_71 n_63 n_64 n_65 vTrc n_72 n_73 vLoad vWater n_7 m_2 vMi2 vSz vBs vCell vDirt n_9 vErr vCor vBrk vTop vLm vRows vCols vDown vRight vBound n_8 vPrice vFirm n_86 vTk f_1 vFl2 vTe vAw vRo vBe) := hD
    refine hz_isub hx hb dX7_takeTick_50 ?_
    refine lv_istore (lv' := [(4, zi (r_69 - r_85)), (3, zi r_69), (2, zi r_17), (1, zi r_5), (0, .ref (ah 0))]) hx hb dX7_takeTick_51 hl (by decide) rfl (fun ls hl => ?_)
    refine lv_aload_n hx hb dX7_takeTick_53 rfl (lv_at hl 4 rfl) ?_
    refine lv_iload hx hb dX7_takeTick_54 (lv_at hl 0 rfl) ?_
    refine hz_callWvG (As := [zi (r_69 - r_85)]) (rest := []) ⟨hx, hb, hml, hown, hts⟩ (c_X7_shareEnergy l G ah z zE y _ vN vC vNow vHaze n_70 n_71 n_63 n_64 n_65 vTrc n_72 n_73 vLoad vWater n_7 m_2 vMi2 vSz vBs vCell vDirt n_9 vErr vCor vBrk vTop vLm vRows vCols vDown vRight vBound n_8 vPrice vFirm n_86 vTk f_1 vFl2 vTe vAw vRo vBe (r_69 - r_85) hNow hPrice hFirm (by omega)) (cwV 1 hts gX7_takeTick_X7_shareEnergy rfl rfl rfl (by decide +kernel) ⟨Nat.le_of_ble_eq_true rfl, Nat.le_of_ble_eq_true rfl⟩) hP hK hD hS hA hGP 0 8 rfl rfl rfl rfl hl.1 rfl (Nat.le_of_ble_eq_true rfl) dX7_takeTick_56 ⟨Nat.zero_le _, Nat.zero_le _⟩ (fun _ => rfl) (fun n_90 H locs hu hP hD hS => ?_)
    have p91 : n_90 = adZ (adZ (adZ (adZ n_86 9 (dzZ (r_69 - r_85) (vFirm (vNow % 24)))) 10 (vFirm (vNow % 24) - dzZ (r_69 - r_85) (vFirm (vNow % 24)))) 11 ((r_69 - r_85) - dzZ (r_69 - r_85) (vFirm (vNow % 24)))) 12 (((r_69 - r_85) - dzZ (r_69 - r_85) (vFirm (vNow % 24))) * vPrice (vNow % 24)) := hu
    have hP : va_P G vwCl (hW ah z y vN vC vNow vHaze n_70 n_71 n_63 n_64 n_65 vTrc n_72 n_73 vLoad vWater n_7 m_2 vMi2 vSz vBs vCell vDirt n_9 vErr vCor vBrk vTop vLm vRows vCols vDown vRight vBound n_8 vPrice vFirm n_90 vTk f_1 vFl2 vTe vAw vRo vBe) H := hP
    have hD : va_D A (hW ah z y vN vC vNow vHaze n_70 n_71 n_63 n_64 n_65 vTrc n_72 n_73 vLoad vWater n_7 m_2 vMi2 vSz vBs vCell vDirt n_9 vErr vCor vBrk vTop vLm vRows vCols vDown vRight vBound n_8 vPrice vFirm n_90 vTk f_1 vFl2 vTe vAw vRo vBe) := hD
    refine lv_aload_n hx hb dX7_takeTick_59 rfl (lv_at hl 4 rfl) ?_
    refine va_get (D := G) (ci := 8) (v := .ref (ah 1)) (C := RX7) (T := TX7) (N := 14) hx hb hts hinwsX70 hown hK hP 0 rfl rfl 0 (by decide) (hts (.fieldLink RX7 10 "Heliokeep" "field" "LHeliokeep$Field;") (List.mem_of_getElem? (i := 1) rfl)) (fun _ h9 => h9) rfl dX7_takeTick_60 ?_
    refine hz_callWvG (As := []) (rest := []) ⟨hx, hb, hml, hown, hts⟩ (c_X2_endTick l G ah z zE y _ vN vC vNow vHaze n_70 n_71 n_63 n_64 n_65 vTrc n_72 n_73 vLoad vWater n_7 m_2 vMi2 vSz vBs vCell vDirt n_9 vErr vCor vBrk vTop vLm vRows vCols vDown vRight vBound n_8 vPrice vFirm n_90 vTk f_1 vFl2 vTe vAw vRo vBe  hZ hN hC hNow hDirt) (cwV 0 hts gX7_takeTick_X2_endTick rfl rfl rfl (by decide +kernel) ⟨Nat.le_of_ble_eq_true rfl, Nat.le_of_ble_eq_true rfl⟩) hP hK hD hS hA hGP 1 3 rfl rfl rfl rfl hl.1 rfl (Nat.le_of_ble_eq_true rfl) dX7_takeTick_63 ⟨Nat.zero_le _, Nat.zero_le _⟩ (fun _ => hW_fst) (fun u H locs hu hP hD hS => ?_)
    obtain ⟨n_92, n_93, n_94⟩ := u
    have p95 : n_92 = drZ vTop vDown vC := hu.1
    have p96 : n_93 = drZ vLm vRight vC := hu.2.1
    have p97 : n_94 = ddZ vNow vDirt vN := hu.2.2
    have hP : va_P G vwCl (hW ah z y vN vC (vNow + 1) vHaze n_70 n_71 n_63 n_64 n_65 vTrc n_72 n_73 vLoad vWater n_7 m_2 vMi2 vSz vBs vCell n_94 n_9 vErr vCor vBrk n_92 n_93 vRows vCols vDown vRight vBound n_8 vPrice vFirm n_90 vTk f_1 vFl2 vTe vAw vRo vBe) H := hP
    have hD : va_D A (hW ah z y vN vC (vNow + 1) vHaze n_70 n_71 n_63 n_64 n_65 vTrc n_72 n_73 vLoad vWater n_7 m_2 vMi2 vSz vBs vCell n_94 n_9 vErr vCor vBrk n_92 n_93 vRows vCols vDown vRight vBound n_8 vPrice vFirm n_90 vTk f_1 vFl2 vTe vAw vRo vBe) := hD
    exact W.vret hx hb hr (fun t ht hW => ⟨⟨(f_1, m_2, n_9, n_94, n_92, n_93, n_8, n_90, vNow + 1, n_70, n_71, n_63, n_64, n_65, n_72, n_73, n_7, (ntZ vPipe w vTrc)), rfl, ⟨(show (n_9, n_94, n_92, n_93, n_8, n_90, (vNow + 1), n_70, n_71, n_63, n_64, (ntZ vPipe w vTrc), n_72, n_73, n_7) = tkF (vN, vC, vHaze, vTrc, vLoad, vCell, vErr, vCor, vBrk, vRows, vCols, vDown, vRight, vBound, vPrice, vFirm) (vAim, vDirt, vTop, vLm, vStrain, vSums, vNow, vCold, vHot, vPipe, vDeg, w, vTurb, vLeft, vTrips) from by
          have er : (r_69 - r_85) = r_69 - toZ vTrc + boZ vTrc r_69 := by omega
          rw [p97, p95, p96, p91, er, p88, p81, p75, p77, p78, p79, p80, eP, eG, p24, p22, p23, p21, p12, p13, p14, p15, p10, etr, eal, ems, esn]
          rfl), (show n_63 = 2 → n_65 = (ntZ vPipe w vTrc) from fun h => by have q1 := p68 h; have q2 := p66; unfold npZ dgZ dwZ at q2; unfold ntZ at q1 ⊢; omega), (show (vNow + 1) = vNow + 1 from by omega), (show ∀ j9 : Int, -1 ≤ n_9 j9 ∧ n_9 j9 ≤ 5 from p16), (show ∀ j9 : Int, 0 ≤ n_94 j9 ∧ n_94 j9 ≤ 9 from by rw [p97]; exact ddZ_rng hDirt), (show ∀ j9 : Int, -(16 + (vNow + 1)) ≤ n_92 j9 ∧ n_92 j9 ≤ 16 + (vNow + 1) from fun k => by
          have q1 := hTop k
          have q2 := hDown k
          rw [p95]
          unfold drZ
          split <;> omega), (show ∀ j9 : Int, -(16 + (vNow + 1)) ≤ n_93 j9 ∧ n_93 j9 ≤ 16 + (vNow + 1) from fun k => by
          have q1 := hLm k
          have q2 := hRight k
          rw [p96]
          unfold drZ
          split <;> omega), (show ∀ j9 : Int, 0 ≤ n_8 j9 ∧ n_8 j9 ≤ (vNow + 1) from fun k => by
          have q1 := hStrain k
          rw [p14]
          split
          · unfold snZ; split <;> omega
          · omega), (show 0 ≤ n_7 ∧ n_7 ≤ (vNow + 1) from by
          rw [p13]
          split <;> omega), (show 0 ≤ n_70 ∧ 0 ≤ n_71 ∧ n_70 + n_71 ≤ 1000 from p82), (show 0 ≤ n_63 ∧ n_63 ≤ 2 from by have q2 := p66; unfold npZ dgZ dwZ at q2; omega), (show 0 ≤ n_64 ∧ n_64 ≤ 40 ∧ (n_63 = 1 → 20 ≤ n_64) from by have q2 := p66; have q3 := p67; unfold npZ dgZ dwZ at q2; unfold ndZ dgZ dwZ at q3; omega), (show n_63 = 2 → 0 ≤ n_65 ∧ n_65 ≤ 2 from fun h => by have q1 := p68 h; have q2 := p66; unfold npZ dgZ dwZ at q2; unfold ntZ at q1; omega), (show 0 ≤ n_72 ∧ n_72 ≤ 2 from p83), (show 0 ≤ n_73 ∧ n_73 ≤ 2 ∧ (n_72 = 1 → 1 ≤ n_73) from p84)⟩, hz_at hP ht⟩, hS.F ht⟩) hS.2.2 dX7_takeTick_66
