noncomputable def brR (S : ST) (sid which : Int) : Int := if (if ¬ (okZ sid (S.2.1 0) (S.2.2 5) = 1 ∧ -1 ≤ which ∧ which < cntZ sid (S.2.1 0)) then (1 : Int) else if (bstZ sid (S.2.1 0) (S.2.2 2) (S.2.2 3) (S.2.2 4) (ryZ (S.2.1 0) (S.2.1 1) (S.2.1 2) (S.2.1 3) (S.2.2 0) (S.2.2 1) (S.2.2 6) (S.2.2 7) (S.2.2 8) (S.2.2 9) (S.2.2 10) (S.2.2 11)) (S.2.2 12)).1 = -1 then 2 else 0) = 0 then (if which = -1 then (bstZ sid (S.2.1 0) (S.2.2 2) (S.2.2 3) (S.2.2 4) (ryZ (S.2.1 0) (S.2.1 1) (S.2.1 2) (S.2.1 3) (S.2.2 0) (S.2.2 1) (S.2.2 6) (S.2.2 7) (S.2.2 8) (S.2.2 9) (S.2.2 10) (S.2.2 11)) (S.2.2 12)).2 else rwZ (cntZ sid (S.2.1 0)) (bstZ sid (S.2.1 0) (S.2.2 2) (S.2.2 3) (S.2.2 4) (ryZ (S.2.1 0) (S.2.1 1) (S.2.1 2) (S.2.1 3) (S.2.2 0) (S.2.2 1) (S.2.2 6) (S.2.2 7) (S.2.2 8) (S.2.2 9) (S.2.2 10) (S.2.2 11)) (S.2.2 12)).1 which) else if (if ¬ (okZ sid (S.2.1 0) (S.2.2 5) = 1 ∧ -1 ≤ which ∧ which < cntZ sid (S.2.1 0)) then (1 : Int) else if (bstZ sid (S.2.1 0) (S.2.2 2) (S.2.2 3) (S.2.2 4) (ryZ (S.2.1 0) (S.2.1 1) (S.2.1 2) (S.2.1 3) (S.2.2 0) (S.2.2 1) (S.2.2 6) (S.2.2 7) (S.2.2 8) (S.2.2 9) (S.2.2 10) (S.2.2 11)) (S.2.2 12)).1 = -1 then 2 else 0) = 1 then -300 else -200
theorem brR_1 {S : ST} {sid which : Int} (h : ¬ okZ sid (S.2.1 0) (S.2.2 5) = 1) : brR S sid which = -300 := by
  have e : (if ¬ (okZ sid (S.2.1 0) (S.2.2 5) = 1 ∧ -1 ≤ which ∧ which < cntZ sid (S.2.1 0)) then (1 : Int) else if (bstZ sid (S.2.1 0) (S.2.2 2) (S.2.2 3) (S.2.2 4) (ryZ (S.2.1 0) (S.2.1 1) (S.2.1 2) (S.2.1 3) (S.2.2 0) (S.2.2 1) (S.2.2 6) (S.2.2 7) (S.2.2 8) (S.2.2 9) (S.2.2 10) (S.2.2 11)) (S.2.2 12)).1 = -1 then 2 else 0) = 1 := if_pos (fun q => h q.1)
  unfold brR
  rw [e]
  rfl
theorem brR_2 {S : ST} {sid which : Int} (h : okZ sid (S.2.1 0) (S.2.2 5) = 1) (hw : -1 ≤ which ∧ which < cntZ sid (S.2.1 0)) (hb : (bsS S sid).1 = -1) : brR S sid which = -200 := by
  have e : (if ¬ (okZ sid (S.2.1 0) (S.2.2 5) = 1 ∧ -1 ≤ which ∧ which < cntZ sid (S.2.1 0)) then (1 : Int) else if (bstZ sid (S.2.1 0) (S.2.2 2) (S.2.2 3) (S.2.2 4) (ryZ (S.2.1 0) (S.2.1 1) (S.2.1 2) (S.2.1 3) (S.2.2 0) (S.2.2 1) (S.2.2 6) (S.2.2 7) (S.2.2 8) (S.2.2 9) (S.2.2 10) (S.2.2 11)) (S.2.2 12)).1 = -1 then 2 else 0) = 2 := by
    rw [if_neg (fun q => q ⟨h, hw⟩)]
    exact if_pos hb
  unfold brR
  rw [e]
  rfl
theorem brR_3 {S : ST} {sid which : Int} (h : okZ sid (S.2.1 0) (S.2.2 5) = 1) (hw : -1 ≤ which ∧ which < cntZ sid (S.2.1 0)) (hb : ¬ (bsS S sid).1 = -1) : brR S sid which = (if which = -1 then (bsS S sid).2 else rwZ (cntZ sid (S.2.1 0)) (bsS S sid).1 which) := by
  have e : (if ¬ (okZ sid (S.2.1 0) (S.2.2 5) = 1 ∧ -1 ≤ which ∧ which < cntZ sid (S.2.1 0)) then (1 : Int) else if (bstZ sid (S.2.1 0) (S.2.2 2) (S.2.2 3) (S.2.2 4) (ryZ (S.2.1 0) (S.2.1 1) (S.2.1 2) (S.2.1 3) (S.2.2 0) (S.2.2 1) (S.2.2 6) (S.2.2 7) (S.2.2 8) (S.2.2 9) (S.2.2 10) (S.2.2 11)) (S.2.2 12)).1 = -1 then 2 else 0) = 0 := by
    rw [if_neg (fun q => q ⟨h, hw⟩)]
    exact if_neg hb
  unfold brR
  rw [e]
  rfl

set_option maxHeartbeats 32000000 in
set_option maxRecDepth 100000 in
theorem c_isBest (l : Launch) (hlt : l.stackTraces = false) (G : va_G) (ah : Nat → Nat) (mi zE : Nat) (y : Nat → ClassId) (o0 : Nat) (sz : Nat) (S : ST) (d : Int → Int) (kN : Nat) (bb : Int) (hI : FC zE S) (hd : FD S d) (hkn : (kN : Int) < S.2.1 0) (hb9 : 0 ≤ bb ∧ bb < 2147483648) : Met l yL_isBest wsL_isBest ({ frames := 14, cells := 120, slots := 720, locals := 586 }) (va_Pc [.ref (ah 0), .ref o0, zi (kN : Int), zi bb] (HPreL mi zE G (tyL y) (wH ah y S ++ dW o0 y d) sz)) (Q_law G ah zE y o0 S (va_A (wH ah y S ++ dW o0 y d) sz)) 120 720 (va_A (wH ah y S ++ dW o0 y d) sz) := by
  refine hz_ofWM (Qf := Q_law G ah zE y o0 S) (cc := cL_isBest) (maxL := 15) (ret := some .boolean) (by decide) rfl (Nat.le_of_ble_eq_true rfl) ?_
  intro p e s m below meth c A ls hx hb hr hts hown hlocks hml hP hK hA hD hS hGP hX hGN hl
  have hown : s.vm.findClass RL = some m.cls := hown
  have hl : lv_has ls 15 [(0, .ref (ah 0)), (1, .ref o0), (2, zi (kN : Int)), (3, zi bb)] := hl
  have qN := hI.N
  have qD0 := hd.D0
  have qsf := sfS_01 S
  have l0 := flS_rng hI 0
  have l1 := flS_rng hI 1
  have l2 := flS_rng hI 2
  have l3 := flS_rng hI 3
  have l4 := flS_rng hI 4
  have l5 := flS_rng hI 5
  refine lv_iload_n hx hb dL_isBest_0 rfl (lv_at hl 3 rfl) ?_
  refine lv_aload_n hx hb dL_isBest_1 rfl (lv_at hl 1 rfl) ?_
  refine hz_iconst hx hb dL_isBest_2 ?_
  refine hz_dld hx hb hK hP (by omega) dL_isBest_3 ?_
  refine hz_irem hx hb dL_isBest_4 (by omega) ?_
  refine hz_topi (fun oo hoo => ?_)
  have roo : 0 ≤ oo ∧ oo < S.2.1 0 := by rw [hoo, qD0]; exact ⟨Int.emod_nonneg _ (by omega), Int.emod_lt_of_pos _ (by omega)⟩
  obtain ⟨oN, rfl⟩ := Int.eq_ofNat_of_zero_le roo.1
  have hon : (oN : Int) < S.2.1 0 := roo.2
  clear hoo
  have hsv := bb_rng (k := kN) (o := oN) hI hkn hon
  have hcn := bb_cnt (k := kN) (o := oN) hI hkn hon
  have rbk := hI.Brk (kN : Int)
  have rbo := hI.Brk (oN : Int)
  have rak := hI.Aim (kN : Int)
  have rao := hI.Aim (oN : Int)
  refine lv_istore (lv' := [(4, zi (oN : Int)), (0, .ref (ah 0)), (1, .ref o0), (2, zi (kN : Int)), (3, zi bb)]) hx hb dL_isBest_5 hl (by decide) rfl (fun ls hl => ?_)
  refine hz_iconst hx hb dL_isBest_7 ?_
  refine lv_iload_n hx hb dL_isBest_8 rfl (lv_at hl 3 rfl) ?_
  refine hz_ishl1 hx hb dL_isBest_9 (by omega) ?_
  refine hz_tope (z2 := (2 ^ kN)) (by rw [Int.toNat_natCast]) ?_
  refine hz_iconst hx hb dL_isBest_10 ?_
  refine lv_iload hx hb dL_isBest_11 (lv_at hl 0 rfl) ?_
  refine hz_ishl1 hx hb dL_isBest_13 (by omega) ?_
  refine hz_tope (z2 := (2 ^ oN)) (by rw [Int.toNat_natCast]) ?_
  refine lv_ior hx hb dL_isBest_14 ?_
  rw [sv_or kN (by omega) oN (by omega)]
  refine lv_istore (lv' := [(5, zi (svZ kN oN)), (4, zi (oN : Int)), (0, .ref (ah 0)), (1, .ref o0), (2, zi (kN : Int)), (3, zi bb)]) hx hb dL_isBest_15 hl (by decide) rfl (fun ls hl => ?_)
  refine hz_iconst hx hb dL_isBest_17 ?_
  refine lv_istore (lv' := [(6, zi 0), (5, zi (svZ kN oN)), (4, zi (oN : Int)), (0, .ref (ah 0)), (1, .ref o0), (2, zi (kN : Int)), (3, zi bb)]) hx hb dL_isBest_18 hl (by decide) rfl (fun ls hl => ?_)
  refine hz_iconst hx hb dL_isBest_20 ?_
  refine lv_istore (lv' := [(7, zi 0), (6, zi 0), (5, zi (svZ kN oN)), (4, zi (oN : Int)), (0, .ref (ah 0)), (1, .ref o0), (2, zi (kN : Int)), (3, zi bb)]) hx hb dL_isBest_21 hl (by decide) rfl (fun ls hl => ?_)
  refine lv_iload hx hb dL_isBest_23 (lv_at hl 0 rfl) ?_
  refine hz_bipush hx hb dL_isBest_25 (by decide) ?_
  refine hz_icmp_ge (tgt := 47) hx hb dL_isBest_27 (by decide) (by omega) (fun q => by exfalso; omega) (fun _ => ?_)
  refine lv_iload hx hb dL_isBest_30 (lv_at hl 1 rfl) ?_
  refine lv_aload_n hx hb dL_isBest_32 rfl (lv_at hl 4 rfl) ?_
  refine lv_iload hx hb dL_isBest_33 (lv_at hl 0 rfl) ?_
  refine hz_cI (As := [zi 0]) (rest := [zi 0]) ⟨hx, hb, hml, hown, hts⟩ (b_flux l hlt G ah zE y _ S (0 : Int) hI (show 0 ≤ (0 : Int) ∧ (0 : Int) ≤ 5 by omega)) (cwV 1 hts gL_isBest_X7_flux rfl rfl rfl (by decide +kernel) ⟨Nat.le_of_ble_eq_true rfl, Nat.le_of_ble_eq_true rfl⟩) hP hK hD hS hA hGP 0 8 rfl rfl rfl rfl hl.1 rfl (Nat.le_of_ble_eq_true rfl) dL_isBest_35 ⟨Nat.le_of_ble_eq_true rfl, Nat.le_of_ble_eq_true rfl⟩ (fun _ => wH_fst rfl rfl rfl) (fun u1 H locs hu hP hD hS => ?_)
  have hP : va_P G vwCl (wH ah y (sF S u1.1 u1.2) ++ dW o0 y d) H := hP
  have hD : va_D A (wH ah y (sF S u1.1 u1.2) ++ dW o0 y d) := hD
  refine hz_tope (z2 := (flS S 0)) (by rfl) ?_
  refine hz_iadd hx hb dL_isBest_38 ?_
  refine lv_istore (lv' := [(6, zi (0 + (flS S 0))), (7, zi 0), (5, zi (svZ kN oN)), (4, zi (oN : Int)), (0, .ref (ah 0)), (1, .ref o0), (2, zi (kN : Int)), (3, zi bb)]) hx hb dL_isBest_39 hl (by decide) rfl (fun ls hl => ?_)
  refine hz_iinc (v := 1) (lv' := [(7, zi 1), (6, zi (0 + (flS S 0))), (5, zi (svZ kN oN)), (4, zi (oN : Int)), (0, .ref (ah 0)), (1, .ref o0), (2, zi (kN : Int)), (3, zi bb)]) hx hb dL_isBest_41 hl (k := 1) rfl (by omega) (by decide) rfl (fun ls hl => ?_)
  refine lv_goto (tgt := 23) hx hb dL_isBest_44 (by decide) ?_
  refine lv_iload hx hb dL_isBest_23 (lv_at hl 0 rfl) ?_
  refine hz_bipush hx hb dL_isBest_25 (by decide) ?_
  refine hz_icmp_ge (tgt := 47) hx hb dL_isBest_27 (by decide) (by omega) (fun q => by exfalso; omega) (fun _ => ?_)
  refine lv_iload hx hb dL_isBest_30 (lv_at hl 1 rfl) ?_
  refine lv_aload_n hx hb dL_isBest_32 rfl (lv_at hl 4 rfl) ?_
  refine lv_iload hx hb dL_isBest_33 (lv_at hl 0 rfl) ?_
  refine hz_cI (As := [zi 1]) (rest := [zi (0 + (flS S 0))]) ⟨hx, hb, hml, hown, hts⟩ (b_flux l hlt G ah zE y _ (sF S u1.1 u1.2) (1 : Int) (fc_F u1.1 u1.2 hI) (show 0 ≤ (1 : Int) ∧ (1 : Int) ≤ 5 by omega)) (cwV 1 hts gL_isBest_X7_flux rfl rfl rfl (by decide +kernel) ⟨Nat.le_of_ble_eq_true rfl, Nat.le_of_ble_eq_true rfl⟩) hP hK hD hS hA hGP 0 8 rfl rfl rfl rfl hl.1 rfl (Nat.le_of_ble_eq_true rfl) dL_isBest_35 ⟨Nat.le_of_ble_eq_true rfl, Nat.le_of_ble_eq_true rfl⟩ (fun _ => wH_fst rfl rfl rfl) (fun u2 H locs hu hP hD hS => ?_)
  have hP : va_P G vwCl (wH ah y (sF S u2.1 u2.2) ++ dW o0 y d) H := hP
  have hD : va_D A (wH ah y (sF S u2.1 u2.2) ++ dW o0 y d) := hD
  refine hz_tope (z2 := (flS S 1)) (by rfl) ?_
  refine hz_iadd hx hb dL_isBest_38 ?_
  refine lv_istore (lv' := [(6, zi ((0 + (flS S 0)) + (flS S 1))), (7, zi 1), (5, zi (svZ kN oN)), (4, zi (oN : Int)), (0, .ref (ah 0)), (1, .ref o0), (2, zi (kN : Int)), (3, zi bb)]) hx hb dL_isBest_39 hl (by decide) rfl (fun ls hl => ?_)
  refine hz_iinc (v := 2) (lv' := [(7, zi 2), (6, zi ((0 + (flS S 0)) + (flS S 1))), (5, zi (svZ kN oN)), (4, zi (oN : Int)), (0, .ref (ah 0)), (1, .ref o0), (2, zi (kN : Int)), (3, zi bb)]) hx hb dL_isBest_41 hl (k := 1) rfl (by omega) (by decide) rfl (fun ls hl => ?_)
  refine lv_goto (tgt := 23) hx hb dL_isBest_44 (by decide) ?_
  refine lv_iload hx hb dL_isBest_23 (lv_at hl 0 rfl) ?_
  refine hz_bipush hx hb dL_isBest_25 (by decide) ?_
  refine hz_icmp_ge (tgt := 47) hx hb dL_isBest_27 (by decide) (by omega) (fun q => by exfalso; omega) (fun _ => ?_)
  refine lv_iload hx hb dL_isBest_30 (lv_at hl 1 rfl) ?_
  refine lv_aload_n hx hb dL_isBest_32 rfl (lv_at hl 4 rfl) ?_
  refine lv_iload hx hb dL_isBest_33 (lv_at hl 0 rfl) ?_
  refine hz_cI (As := [zi 2]) (rest := [zi ((0 + (flS S 0)) + (flS S 1))]) ⟨hx, hb, hml, hown, hts⟩ (b_flux l hlt G ah zE y _ (sF S u2.1 u2.2) (2 : Int) (fc_F u2.1 u2.2 hI) (show 0 ≤ (2 : Int) ∧ (2 : Int) ≤ 5 by omega)) (cwV 1 hts gL_isBest_X7_flux rfl rfl rfl (by decide +kernel) ⟨Nat.le_of_ble_eq_true rfl, Nat.le_of_ble_eq_true rfl⟩) hP hK hD hS hA hGP 0 8 rfl rfl rfl rfl hl.1 rfl (Nat.le_of_ble_eq_true rfl) dL_isBest_35 ⟨Nat.le_of_ble_eq_true rfl, Nat.le_of_ble_eq_true rfl⟩ (fun _ => wH_fst rfl rfl rfl) (fun u3 H locs hu hP hD hS => ?_)
  have hP : va_P G vwCl (wH ah y (sF S u3.1 u3.2) ++ dW o0 y d) H := hP
  have hD : va_D A (wH ah y (sF S u3.1 u3.2) ++ dW o0 y d) := hD
  refine hz_tope (z2 := (flS S 2)) (by rfl) ?_
  refine hz_iadd hx hb dL_isBest_38 ?_
  refine lv_istore (lv' := [(6, zi (((0 + (flS S 0)) + (flS S 1)) + (flS S 2))), (7, zi 2), (5, zi (svZ kN oN)), (4, zi (oN : Int)), (0, .ref (ah 0)), (1, .ref o0), (2, zi (kN : Int)), (3, zi bb)]) hx hb dL_isBest_39 hl (by decide) rfl (fun ls hl => ?_)
  refine hz_iinc (v := 3) (lv' := [(7, zi 3), (6, zi (((0 + (flS S 0)) + (flS S 1)) + (flS S 2))), (5, zi (svZ kN oN)), (4, zi (oN : Int)), (0, .ref (ah 0)), (1, .ref o0), (2, zi (kN : Int)), (3, zi bb)]) hx hb dL_isBest_41 hl (k := 1) rfl (by omega) (by decide) rfl (fun ls hl => ?_)
  refine lv_goto (tgt := 23) hx hb dL_isBest_44 (by decide) ?_
  refine lv_iload hx hb dL_isBest_23 (lv_at hl 0 rfl) ?_
  refine hz_bipush hx hb dL_isBest_25 (by decide) ?_
  refine hz_icmp_ge (tgt := 47) hx hb dL_isBest_27 (by decide) (by omega) (fun q => by exfalso; omega) (fun _ => ?_)
  refine lv_iload hx hb dL_isBest_30 (lv_at hl 1 rfl) ?_
  refine lv_aload_n hx hb dL_isBest_32 rfl (lv_at hl 4 rfl) ?_
  refine lv_iload hx hb dL_isBest_33 (lv_at hl 0 rfl) ?_
  refine hz_cI (As := [zi 3]) (rest := [zi (((0 + (flS S 0)) + (flS S 1)) + (flS S 2))]) ⟨hx, hb, hml, hown, hts⟩ (b_flux l hlt G ah zE y _ (sF S u3.1 u3.2) (3 : Int) (fc_F u3.1 u3.2 hI) (show 0 ≤ (3 : Int) ∧ (3 : Int) ≤ 5 by omega)) (cwV 1 hts gL_isBest_X7_flux rfl rfl rfl (by decide +kernel) ⟨Nat.le_of_ble_eq_true rfl, Nat.le_of_ble_eq_true rfl⟩) hP hK hD hS hA hGP 0 8 rfl rfl rfl rfl hl.1 rfl (Nat.le_of_ble_eq_true rfl) dL_isBest_35 ⟨Nat.le_of_ble_eq_true rfl, Nat.le_of_ble_eq_true rfl⟩ (fun _ => wH_fst rfl rfl rfl) (fun u4 H locs hu hP hD hS => ?_)
  have hP : va_P G vwCl (wH ah y (sF S u4.1 u4.2) ++ dW o0 y d) H := hP
  have hD : va_D A (wH ah y (sF S u4.1 u4.2) ++ dW o0 y d) := hD
  refine hz_tope (z2 := (flS S 3)) (by rfl) ?_
  refine hz_iadd hx hb dL_isBest_38 ?_
  refine lv_istore (lv' := [(6, zi ((((0 + (flS S 0)) + (flS S 1)) + (flS S 2)) + (flS S 3))), (7, zi 3), (5, zi (svZ kN oN)), (4, zi (oN : Int)), (0, .ref (ah 0)), (1, .ref o0), (2, zi (kN : Int)), (3, zi bb)]) hx hb dL_isBest_39 hl (by decide) rfl (fun ls hl => ?_)
  refine hz_iinc (v := 4) (lv' := [(7, zi 4), (6, zi ((((0 + (flS S 0)) + (flS S 1)) + (flS S 2)) + (flS S 3))), (5, zi (svZ kN oN)), (4, zi (oN : Int)), (0, .ref (ah 0)), (1, .ref o0), (2, zi (kN : Int)), (3, zi bb)]) hx hb dL_isBest_41 hl (k := 1) rfl (by omega) (by decide) rfl (fun ls hl => ?_)
  refine lv_goto (tgt := 23) hx hb dL_isBest_44 (by decide) ?_
  refine lv_iload hx hb dL_isBest_23 (lv_at hl 0 rfl) ?_
  refine hz_bipush hx hb dL_isBest_25 (by decide) ?_
  refine hz_icmp_ge (tgt := 47) hx hb dL_isBest_27 (by decide) (by omega) (fun q => by exfalso; omega) (fun _ => ?_)
  refine lv_iload hx hb dL_isBest_30 (lv_at hl 1 rfl) ?_
  refine lv_aload_n hx hb dL_isBest_32 rfl (lv_at hl 4 rfl) ?_
  refine lv_iload hx hb dL_isBest_33 (lv_at hl 0 rfl) ?_
  refine hz_cI (As := [zi 4]) (rest := [zi ((((0 + (flS S 0)) + (flS S 1)) + (flS S 2)) + (flS S 3))]) ⟨hx, hb, hml, hown, hts⟩ (b_flux l hlt G ah zE y _ (sF S u4.1 u4.2) (4 : Int) (fc_F u4.1 u4.2 hI) (show 0 ≤ (4 : Int) ∧ (4 : Int) ≤ 5 by omega)) (cwV 1 hts gL_isBest_X7_flux rfl rfl rfl (by decide +kernel) ⟨Nat.le_of_ble_eq_true rfl, Nat.le_of_ble_eq_true rfl⟩) hP hK hD hS hA hGP 0 8 rfl rfl rfl rfl hl.1 rfl (Nat.le_of_ble_eq_true rfl) dL_isBest_35 ⟨Nat.le_of_ble_eq_true rfl, Nat.le_of_ble_eq_true rfl⟩ (fun _ => wH_fst rfl rfl rfl) (fun u5 H locs hu hP hD hS => ?_)
  have hP : va_P G vwCl (wH ah y (sF S u5.1 u5.2) ++ dW o0 y d) H := hP
  have hD : va_D A (wH ah y (sF S u5.1 u5.2) ++ dW o0 y d) := hD
  refine hz_tope (z2 := (flS S 4)) (by rfl) ?_
  refine hz_iadd hx hb dL_isBest_38 ?_
  refine lv_istore (lv' := [(6, zi (((((0 + (flS S 0)) + (flS S 1)) + (flS S 2)) + (flS S 3)) + (flS S 4))), (7, zi 4), (5, zi (svZ kN oN)), (4, zi (oN : Int)), (0, .ref (ah 0)), (1, .ref o0), (2, zi (kN : Int)), (3, zi bb)]) hx hb dL_isBest_39 hl (by decide) rfl (fun ls hl => ?_)
  refine hz_iinc (v := 5) (lv' := [(7, zi 5), (6, zi (((((0 + (flS S 0)) + (flS S 1)) + (flS S 2)) + (flS S 3)) + (flS S 4))), (5, zi (svZ kN oN)), (4, zi (oN : Int)), (0, .ref (ah 0)), (1, .ref o0), (2, zi (kN : Int)), (3, zi bb)]) hx hb dL_isBest_41 hl (k := 1) rfl (by omega) (by decide) rfl (fun ls hl => ?_)
  refine lv_goto (tgt := 23) hx hb dL_isBest_44 (by decide) ?_
  refine lv_iload hx hb dL_isBest_23 (lv_at hl 0 rfl) ?_
  refine hz_bipush hx hb dL_isBest_25 (by decide) ?_
  refine hz_icmp_ge (tgt := 47) hx hb dL_isBest_27 (by decide) (by omega) (fun q => by exfalso; omega) (fun _ => ?_)
  refine lv_iload hx hb dL_isBest_30 (lv_at hl 1 rfl) ?_
  refine lv_aload_n hx hb dL_isBest_32 rfl (lv_at hl 4 rfl) ?_
  refine lv_iload hx hb dL_isBest_33 (lv_at hl 0 rfl) ?_
  refine hz_cI (As := [zi 5]) (rest := [zi (((((0 + (flS S 0)) + (flS S 1)) + (flS S 2)) + (flS S 3)) + (flS S 4))]) ⟨hx, hb, hml, hown, hts⟩ (b_flux l hlt G ah zE y _ (sF S u5.1 u5.2) (5 : Int) (fc_F u5.1 u5.2 hI) (show 0 ≤ (5 : Int) ∧ (5 : Int) ≤ 5 by omega)) (cwV 1 hts gL_isBest_X7_flux rfl rfl rfl (by decide +kernel) ⟨Nat.le_of_ble_eq_true rfl, Nat.le_of_ble_eq_true rfl⟩) hP hK hD hS hA hGP 0 8 rfl rfl rfl rfl hl.1 rfl (Nat.le_of_ble_eq_true rfl) dL_isBest_35 ⟨Nat.le_of_ble_eq_true rfl, Nat.le_of_ble_eq_true rfl⟩ (fun _ => wH_fst rfl rfl rfl) (fun u6 H locs hu hP hD hS => ?_)
  have hP : va_P G vwCl (wH ah y (sF S u6.1 u6.2) ++ dW o0 y d) H := hP
  have hD : va_D A (wH ah y (sF S u6.1 u6.2) ++ dW o0 y d) := hD
  refine hz_tope (z2 := (flS S 5)) (by rfl) ?_
  refine hz_iadd hx hb dL_isBest_38 ?_
  refine lv_istore (lv' := [(6, zi ((((((0 + (flS S 0)) + (flS S 1)) + (flS S 2)) + (flS S 3)) + (flS S 4)) + (flS S 5))), (7, zi 5), (5, zi (svZ kN oN)), (4, zi (oN : Int)), (0, .ref (ah 0)), (1, .ref o0), (2, zi (kN : Int)), (3, zi bb)]) hx hb dL_isBest_39 hl (by decide) rfl (fun ls hl => ?_)
  refine hz_iinc (v := 6) (lv' := [(7, zi 6), (6, zi ((((((0 + (flS S 0)) + (flS S 1)) + (flS S 2)) + (flS S 3)) + (flS S 4)) + (flS S 5))), (5, zi (svZ kN oN)), (4, zi (oN : Int)), (0, .ref (ah 0)), (1, .ref o0), (2, zi (kN : Int)), (3, zi bb)]) hx hb dL_isBest_41 hl (k := 1) rfl (by omega) (by decide) rfl (fun ls hl => ?_)
  refine lv_goto (tgt := 23) hx hb dL_isBest_44 (by decide) ?_
  refine lv_iload hx hb dL_isBest_23 (lv_at hl 0 rfl) ?_
  refine hz_bipush hx hb dL_isBest_25 (by decide) ?_
  refine hz_icmp_ge (tgt := 47) hx hb dL_isBest_27 (by decide) (by omega) (fun _ => ?_) (fun q => by exfalso; omega)
  refine lv_aload_n hx hb dL_isBest_47 rfl (lv_at hl 4 rfl) ?_
  refine lv_iload hx hb dL_isBest_48 (lv_at hl 2 rfl) ?_
  refine hz_iconst hx hb dL_isBest_50 ?_
  refine hz_lawL (As := [.ref (ah 0), zi (svZ kN oN), zi (-1)]) (rest := []) ⟨hx, hb, hml, hown, hts⟩ (c_best l hlt G ah mi zE y _ (sF S u6.1 u6.2) (svZ kN oN) ((-1) : Int) (fc_F u6.1 u6.2 hI) hsv (by omega)) (vx_cwSW 3 hts gL_isBest_L_best rfl rfl rfl (by decide +kernel) ⟨Nat.le_of_ble_eq_true rfl, Nat.le_of_ble_eq_true rfl⟩) hP hK hD hS hA hGP hX hGN rfl hl.1 rfl (Nat.le_of_ble_eq_true rfl) dL_isBest_51 ⟨Nat.le_of_ble_eq_true rfl, Nat.le_of_ble_eq_true rfl⟩ (fun r u7 H locs hu hP hD hS => ?_)
  have hu : r = zI (brR S (svZ kN oN) ((-1) : Int)) := hu
  subst hu
  have hP : va_P G vwCl (wH ah y (sF (sB S u7) u6.1 u6.2) ++ dW o0 y d) H := hP
  have hD : va_D A (wH ah y (sF (sB S u7) u6.1 u6.2) ++ dW o0 y d) := hD
  have hcs : (¬ okZ (svZ kN oN) (S.2.1 0) (S.2.2 5) = 1 ∧ brR S (svZ kN oN) (-1) = -300) ∨ (okZ (svZ kN oN) (S.2.1 0) (S.2.2 5) = 1 ∧ (bsS S (svZ kN oN)).1 = -1 ∧ brR S (svZ kN oN) (-1) = -200) ∨ (okZ (svZ kN oN) (S.2.1 0) (S.2.2 5) = 1 ∧ ¬ (bsS S (svZ kN oN)).1 = -1 ∧ brR S (svZ kN oN) (-1) = (bsS S (svZ kN oN)).2) := by
    by_cases h1 : okZ (svZ kN oN) (S.2.1 0) (S.2.2 5) = 1
    · by_cases h2 : (bsS S (svZ kN oN)).1 = -1
      · exact Or.inr (Or.inl ⟨h1, h2, brR_2 h1 (by rw [hcn]; split <;> omega) h2⟩)
      · exact Or.inr (Or.inr ⟨h1, h2, brR_3 h1 (by rw [hcn]; split <;> omega) h2⟩)
    · exact Or.inl ⟨h1, brR_1 h1⟩
  rcases hcs with ⟨hok, hbr⟩ | ⟨hok, hb1, hbr⟩ | ⟨hok, hb1, hbr⟩
  · refine hz_tope (z2 := (-300)) (by exact hbr) ?_
    have hbk : S.2.2 5 (kN : Int) = 1 ∨ S.2.2 5 (oN : Int) = 1 := Classical.byContradiction (fun q => hok ((bb_ok hI hkn hon).mpr ⟨fun z => q (Or.inl z), fun z => q (Or.inr z)⟩))
    refine lv_istore (lv' := [(7, zi (-300)), (6, zi ((((((0 + (flS S 0)) + (flS S 1)) + (flS S 2)) + (flS S 3)) + (flS S 4)) + (flS S 5))), (5, zi (svZ kN oN)), (4, zi (oN : Int)), (0, .ref (ah 0)), (1, .ref o0), (2, zi (kN : Int)), (3, zi bb)]) hx hb dL_isBest_54 hl (by decide) rfl (fun ls hl => ?_)
    refine lv_aload_n hx hb dL_isBest_56 rfl (lv_at hl 4 rfl) ?_
    refine lv_iload_n hx hb dL_isBest_57 rfl (lv_at hl 6 rfl) ?_
    refine hz_iconst hx hb dL_isBest_58 ?_
    refine hz_cI (As := [zi (kN : Int), zi 4]) (rest := []) ⟨hx, hb, hml, hown, hts⟩ (b_mirrorIs l hlt G ah zE y _ (sF (sB S u7) u6.1 u6.2) (kN : Int) (4 : Int) (fc_F u6.1 u6.2 (fc_B u7 hI)) (show 0 ≤ (kN : Int) ∧ (kN : Int) < (S.2.1 0) by omega) (show 0 ≤ (4 : Int) ∧ (4 : Int) ≤ 7 by omega)) (cwV 2 hts gL_isBest_X7_mirrorIs rfl rfl rfl (by decide +kernel) ⟨Nat.le_of_ble_eq_true rfl, Nat.le_of_ble_eq_true rfl⟩) hP hK hD hS hA hGP 0 8 rfl rfl rfl rfl hl.1 rfl (Nat.le_of_ble_eq_true rfl) dL_isBest_59 ⟨Nat.le_of_ble_eq_true rfl, Nat.le_of_ble_eq_true rfl⟩ (fun _ => rfl) (fun u8 H locs hu hP hD hS => ?_)
    have hP : va_P G vwCl (wH ah y (sF (sB S u7) u6.1 u6.2) ++ dW o0 y d) H := hP
    have hD : va_D A (wH ah y (sF (sB S u7) u6.1 u6.2) ++ dW o0 y d) := hD
    refine hz_tope (z2 := ((S.2.2 5) (kN : Int))) (by rfl) ?_
    refine hz_iconst hx hb dL_isBest_62 ?_
    refine hz_icmp_eq (tgt := 77) hx hb dL_isBest_63 (by decide) (by omega) (fun c9 => ?_) (fun c9 => ?_)
    · refine hz_iconst hx hb dL_isBest_77 ?_
      refine lv_goto (tgt := 82) hx hb dL_isBest_78 (by decide) ?_
      refine lv_istore (lv' := [(8, zi 1), (7, zi (-300)), (6, zi ((((((0 + (flS S 0)) + (flS S 1)) + (flS S 2)) + (flS S 3)) + (flS S 4)) + (flS S 5))), (5, zi (svZ kN oN)), (4, zi (oN : Int)), (0, .ref (ah 0)), (1, .ref o0), (2, zi (kN : Int)), (3, zi bb)]) hx hb dL_isBest_82 hl (by decide) rfl (fun ls hl => ?_)
      refine lv_iload hx hb dL_isBest_84 (lv_at hl 1 rfl) ?_
      refine hz_if_ge (tgt := 114) hx hb dL_isBest_86 (by decide) (by omega) (fun q => by exfalso; omega) (fun _ => ?_)
      refine lv_iload hx hb dL_isBest_89 (lv_at hl 1 rfl) ?_
      refine lv_iload hx hb dL_isBest_91 (lv_at hl 0 rfl) ?_
      refine hz_if_eq (tgt := 102) hx hb dL_isBest_93 (by decide) (by omega) (fun q => by exfalso; omega) (fun _ => ?_)
      refine hz_sipush hx hb dL_isBest_96 (by decide) ?_
      refine lv_goto (tgt := 105) hx hb dL_isBest_99 (by decide) ?_
      refine hz_icmp_ne (tgt := 112) hx hb dL_isBest_105 (by decide) (by omega) (fun q => by exfalso; omega) (fun _ => ?_)
      refine hz_iconst hx hb dL_isBest_108 ?_
      refine lv_goto (tgt := 113) hx hb dL_isBest_109 (by decide) ?_
      exact hz_upM (Nat.le_of_ble_eq_true rfl) (Nat.le_of_ble_eq_true rfl) (W.zret (ty := .boolean) (v := zI 1) hx hb hr (zI_nb (by omega)) (fun t ht hW => ⟨⟨zI 1, ((sF (sB S u7) u6.1 u6.2), d), rfl, ⟨rfl, (fc_F u6.1 u6.2 (fc_B u7 hI)), hd, rfl⟩, hz_at2 hP hD ht⟩, hS.F ht⟩) hS.2.2 dL_isBest_113)
    · refine lv_aload_n hx hb dL_isBest_66 rfl (lv_at hl 4 rfl) ?_
      refine lv_iload hx hb dL_isBest_67 (lv_at hl 3 rfl) ?_
      refine hz_iconst hx hb dL_isBest_69 ?_
      refine hz_cI (As := [zi (oN : Int), zi 4]) (rest := []) ⟨hx, hb, hml, hown, hts⟩ (b_mirrorIs l hlt G ah zE y _ (sF (sB S u7) u6.1 u6.2) (oN : Int) (4 : Int) (fc_F u6.1 u6.2 (fc_B u7 hI)) (show 0 ≤ (oN : Int) ∧ (oN : Int) < (S.2.1 0) by omega) (show 0 ≤ (4 : Int) ∧ (4 : Int) ≤ 7 by omega)) (cwV 2 hts gL_isBest_X7_mirrorIs rfl rfl rfl (by decide +kernel) ⟨Nat.le_of_ble_eq_true rfl, Nat.le_of_ble_eq_true rfl⟩) hP hK hD hS hA hGP 0 8 rfl rfl rfl rfl hl.1 rfl (Nat.le_of_ble_eq_true rfl) dL_isBest_70 ⟨Nat.le_of_ble_eq_true rfl, Nat.le_of_ble_eq_true rfl⟩ (fun _ => rfl) (fun u10 H locs hu hP hD hS => ?_)
      have hP : va_P G vwCl (wH ah y (sF (sB S u7) u6.1 u6.2) ++ dW o0 y d) H := hP
      have hD : va_D A (wH ah y (sF (sB S u7) u6.1 u6.2) ++ dW o0 y d) := hD
      refine hz_tope (z2 := ((S.2.2 5) (oN : Int))) (by rfl) ?_
      refine hz_iconst hx hb dL_isBest_73 ?_
      refine hz_icmp_ne (tgt := 81) hx hb dL_isBest_74 (by decide) (by omega) (fun q => by exfalso; omega) (fun _ => ?_)
      refine hz_iconst hx hb dL_isBest_77 ?_
      refine lv_goto (tgt := 82) hx hb dL_isBest_78 (by decide) ?_
      refine lv_istore (lv' := [(8, zi 1), (7, zi (-300)), (6, zi ((((((0 + (flS S 0)) + (flS S 1)) + (flS S 2)) + (flS S 3)) + (flS S 4)) + (flS S 5))), (5, zi (svZ kN oN)), (4, zi (oN : Int)), (0, .ref (ah 0)), (1, .ref o0), (2, zi (kN : Int)), (3, zi bb)]) hx hb dL_isBest_82 hl (by decide) rfl (fun ls hl => ?_)
      refine lv_iload hx hb dL_isBest_84 (lv_at hl 1 rfl) ?_
      refine hz_if_ge (tgt := 114) hx hb dL_isBest_86 (by decide) (by omega) (fun q => by exfalso; omega) (fun _ => ?_)
      refine lv_iload hx hb dL_isBest_89 (lv_at hl 1 rfl) ?_
      refine lv_iload hx hb dL_isBest_91 (lv_at hl 0 rfl) ?_
      refine hz_if_eq (tgt := 102) hx hb dL_isBest_93 (by decide) (by omega) (fun q => by exfalso; omega) (fun _ => ?_)
      refine hz_sipush hx hb dL_isBest_96 (by decide) ?_
      refine lv_goto (tgt := 105) hx hb dL_isBest_99 (by decide) ?_
      refine hz_icmp_ne (tgt := 112) hx hb dL_isBest_105 (by decide) (by omega) (fun q => by exfalso; omega) (fun _ => ?_)
      refine hz_iconst hx hb dL_isBest_108 ?_
      refine lv_goto (tgt := 113) hx hb dL_isBest_109 (by decide) ?_
      exact hz_upM (Nat.le_of_ble_eq_true rfl) (Nat.le_of_ble_eq_true rfl) (W.zret (ty := .boolean) (v := zI 1) hx hb hr (zI_nb (by omega)) (fun t ht hW => ⟨⟨zI 1, ((sF (sB S u7) u6.1 u6.2), d), rfl, ⟨rfl, (fc_F u6.1 u6.2 (fc_B u7 hI)), hd, rfl⟩, hz_at2 hP hD ht⟩, hS.F ht⟩) hS.2.2 dL_isBest_113)
  · refine hz_tope (z2 := (-200)) (by exact hbr) ?_
    have hbk := (bb_ok hI hkn hon).mp hok
    refine lv_istore (lv' := [(7, zi (-200)), (6, zi ((((((0 + (flS S 0)) + (flS S 1)) + (flS S 2)) + (flS S 3)) + (flS S 4)) + (flS S 5))), (5, zi (svZ kN oN)), (4, zi (oN : Int)), (0, .ref (ah 0)), (1, .ref o0), (2, zi (kN : Int)), (3, zi bb)]) hx hb dL_isBest_54 hl (by decide) rfl (fun ls hl => ?_)
    refine lv_aload_n hx hb dL_isBest_56 rfl (lv_at hl 4 rfl) ?_
    refine lv_iload_n hx hb dL_isBest_57 rfl (lv_at hl 6 rfl) ?_
    refine hz_iconst hx hb dL_isBest_58 ?_
    refine hz_cI (As := [zi (kN : Int), zi 4]) (rest := []) ⟨hx, hb, hml, hown, hts⟩ (b_mirrorIs l hlt G ah zE y _ (sF (sB S u7) u6.1 u6.2) (kN : Int) (4 : Int) (fc_F u6.1 u6.2 (fc_B u7 hI)) (show 0 ≤ (kN : Int) ∧ (kN : Int) < (S.2.1 0) by omega) (show 0 ≤ (4 : Int) ∧ (4 : Int) ≤ 7 by omega)) (cwV 2 hts gL_isBest_X7_mirrorIs rfl rfl rfl (by decide +kernel) ⟨Nat.le_of_ble_eq_true rfl, Nat.le_of_ble_eq_true rfl⟩) hP hK hD hS hA hGP 0 8 rfl rfl rfl rfl hl.1 rfl (Nat.le_of_ble_eq_true rfl) dL_isBest_59 ⟨Nat.le_of_ble_eq_true rfl, Nat.le_of_ble_eq_true rfl⟩ (fun _ => rfl) (fun u11 H locs hu hP hD hS => ?_)
    have hP : va_P G vwCl (wH ah y (sF (sB S u7) u6.1 u6.2) ++ dW o0 y d) H := hP
    have hD : va_D A (wH ah y (sF (sB S u7) u6.1 u6.2) ++ dW o0 y d) := hD
    refine hz_tope (z2 := ((S.2.2 5) (kN : Int))) (by rfl) ?_
    refine hz_iconst hx hb dL_isBest_62 ?_
    refine hz_icmp_eq (tgt := 77) hx hb dL_isBest_63 (by decide) (by omega) (fun q => by exfalso; omega) (fun _ => ?_)
    refine lv_aload_n hx hb dL_isBest_66 rfl (lv_at hl 4 rfl) ?_
    refine lv_iload hx hb dL_isBest_67 (lv_at hl 3 rfl) ?_
    refine hz_iconst hx hb dL_isBest_69 ?_
    refine hz_cI (As := [zi (oN : Int), zi 4]) (rest := []) ⟨hx, hb, hml, hown, hts⟩ (b_mirrorIs l hlt G ah zE y _ (sF (sB S u7) u6.1 u6.2) (oN : Int) (4 : Int) (fc_F u6.1 u6.2 (fc_B u7 hI)) (show 0 ≤ (oN : Int) ∧ (oN : Int) < (S.2.1 0) by omega) (show 0 ≤ (4 : Int) ∧ (4 : Int) ≤ 7 by omega)) (cwV 2 hts gL_isBest_X7_mirrorIs rfl rfl rfl (by decide +kernel) ⟨Nat.le_of_ble_eq_true rfl, Nat.le_of_ble_eq_true rfl⟩) hP hK hD hS hA hGP 0 8 rfl rfl rfl rfl hl.1 rfl (Nat.le_of_ble_eq_true rfl) dL_isBest_70 ⟨Nat.le_of_ble_eq_true rfl, Nat.le_of_ble_eq_true rfl⟩ (fun _ => rfl) (fun u12 H locs hu hP hD hS => ?_)
    have hP : va_P G vwCl (wH ah y (sF (sB S u7) u6.1 u6.2) ++ dW o0 y d) H := hP
    have hD : va_D A (wH ah y (sF (sB S u7) u6.1 u6.2) ++ dW o0 y d) := hD
    refine hz_tope (z2 := ((S.2.2 5) (oN : Int))) (by rfl) ?_
    refine hz_iconst hx hb dL_isBest_73 ?_
    refine hz_icmp_ne (tgt := 81) hx hb dL_isBest_74 (by decide) (by omega) (fun _ => ?_) (fun q => by exfalso; omega)
    refine hz_iconst hx hb dL_isBest_81 ?_
    refine lv_istore (lv' := [(8, zi 0), (7, zi (-200)), (6, zi ((((((0 + (flS S 0)) + (flS S 1)) + (flS S 2)) + (flS S 3)) + (flS S 4)) + (flS S 5))), (5, zi (svZ kN oN)), (4, zi (oN : Int)), (0, .ref (ah 0)), (1, .ref o0), (2, zi (kN : Int)), (3, zi bb)]) hx hb dL_isBest_82 hl (by decide) rfl (fun ls hl => ?_)
    refine lv_iload hx hb dL_isBest_84 (lv_at hl 1 rfl) ?_
    refine hz_if_ge (tgt := 114) hx hb dL_isBest_86 (by decide) (by omega) (fun q => by exfalso; omega) (fun _ => ?_)
    refine lv_iload hx hb dL_isBest_89 (lv_at hl 1 rfl) ?_
    refine lv_iload hx hb dL_isBest_91 (lv_at hl 0 rfl) ?_
    refine hz_if_eq (tgt := 102) hx hb dL_isBest_93 (by decide) (by omega) (fun _ => ?_) (fun q => by exfalso; omega)
    refine hz_sipush hx hb dL_isBest_102 (by decide) ?_
    refine hz_icmp_ne (tgt := 112) hx hb dL_isBest_105 (by decide) (by omega) (fun q => by exfalso; omega) (fun _ => ?_)
    refine hz_iconst hx hb dL_isBest_108 ?_
    refine lv_goto (tgt := 113) hx hb dL_isBest_109 (by decide) ?_
    exact hz_upM (Nat.le_of_ble_eq_true rfl) (Nat.le_of_ble_eq_true rfl) (W.zret (ty := .boolean) (v := zI 1) hx hb hr (zI_nb (by omega)) (fun t ht hW => ⟨⟨zI 1, ((sF (sB S u7) u6.1 u6.2), d), rfl, ⟨rfl, (fc_F u6.1 u6.2 (fc_B u7 hI)), hd, rfl⟩, hz_at2 hP hD ht⟩, hS.F ht⟩) hS.2.2 dL_isBest_113)
  · refine hz_tope (z2 := (bsS S (svZ kN oN)).2) (by exact hbr) ?_
    have hbk := (bb_ok hI hkn hon).mp hok
    have hge := bb_ge hI hkn hon hb1
    refine lv_istore (lv' := [(7, zi ((bsS S (svZ kN oN)).2)), (6, zi ((((((0 + (flS S 0)) + (flS S 1)) + (flS S 2)) + (flS S 3)) + (flS S 4)) + (flS S 5))), (5, zi (svZ kN oN)), (4, zi (oN : Int)), (0, .ref (ah 0)), (1, .ref o0), (2, zi (kN : Int)), (3, zi bb)]) hx hb dL_isBest_54 hl (by decide) rfl (fun ls hl => ?_)
    refine lv_aload_n hx hb dL_isBest_56 rfl (lv_at hl 4 rfl) ?_
    refine lv_iload_n hx hb dL_isBest_57 rfl (lv_at hl 6 rfl) ?_
    refine hz_iconst hx hb dL_isBest_58 ?_
    refine hz_cI (As := [zi (kN : Int), zi 4]) (rest := []) ⟨hx, hb, hml, hown, hts⟩ (b_mirrorIs l hlt G ah zE y _ (sF (sB S u7) u6.1 u6.2) (kN : Int) (4 : Int) (fc_F u6.1 u6.2 (fc_B u7 hI)) (show 0 ≤ (kN : Int) ∧ (kN : Int) < (S.2.1 0) by omega) (show 0 ≤ (4 : Int) ∧ (4 : Int) ≤ 7 by omega)) (cwV 2 hts gL_isBest_X7_mirrorIs rfl rfl rfl (by decide +kernel) ⟨Nat.le_of_ble_eq_true rfl, Nat.le_of_ble_eq_true rfl⟩) hP hK hD hS hA hGP 0 8 rfl rfl rfl rfl hl.1 rfl (Nat.le_of_ble_eq_true rfl) dL_isBest_59 ⟨Nat.le_of_ble_eq_true rfl, Nat.le_of_ble_eq_true rfl⟩ (fun _ => rfl) (fun u13 H locs hu hP hD hS => ?_)
    have hP : va_P G vwCl (wH ah y (sF (sB S u7) u6.1 u6.2) ++ dW o0 y d) H := hP
    have hD : va_D A (wH ah y (sF (sB S u7) u6.1 u6.2) ++ dW o0 y d) := hD
    refine hz_tope (z2 := ((S.2.2 5) (kN : Int))) (by rfl) ?_
    refine hz_iconst hx hb dL_isBest_62 ?_
    refine hz_icmp_eq (tgt := 77) hx hb dL_isBest_63 (by decide) (by omega) (fun q => by exfalso; omega) (fun _ => ?_)
    refine lv_aload_n hx hb dL_isBest_66 rfl (lv_at hl 4 rfl) ?_
    refine lv_iload hx hb dL_isBest_67 (lv_at hl 3 rfl) ?_
    refine hz_iconst hx hb dL_isBest_69 ?_
    refine hz_cI (As := [zi (oN : Int), zi 4]) (rest := []) ⟨hx, hb, hml, hown, hts⟩ (b_mirrorIs l hlt G ah zE y _ (sF (sB S u7) u6.1 u6.2) (oN : Int) (4 : Int) (fc_F u6.1 u6.2 (fc_B u7 hI)) (show 0 ≤ (oN : Int) ∧ (oN : Int) < (S.2.1 0) by omega) (show 0 ≤ (4 : Int) ∧ (4 : Int) ≤ 7 by omega)) (cwV 2 hts gL_isBest_X7_mirrorIs rfl rfl rfl (by decide +kernel) ⟨Nat.le_of_ble_eq_true rfl, Nat.le_of_ble_eq_true rfl⟩) hP hK hD hS hA hGP 0 8 rfl rfl rfl rfl hl.1 rfl (Nat.le_of_ble_eq_true rfl) dL_isBest_70 ⟨Nat.le_of_ble_eq_true rfl, Nat.le_of_ble_eq_true rfl⟩ (fun _ => rfl) (fun u14 H locs hu hP hD hS => ?_)
    have hP : va_P G vwCl (wH ah y (sF (sB S u7) u6.1 u6.2) ++ dW o0 y d) H := hP
    have hD : va_D A (wH ah y (sF (sB S u7) u6.1 u6.2) ++ dW o0 y d) := hD
    refine hz_tope (z2 := ((S.2.2 5) (oN : Int))) (by rfl) ?_
    refine hz_iconst hx hb dL_isBest_73 ?_
    refine hz_icmp_ne (tgt := 81) hx hb dL_isBest_74 (by decide) (by omega) (fun _ => ?_) (fun q => by exfalso; omega)
    refine hz_iconst hx hb dL_isBest_81 ?_
    refine lv_istore (lv' := [(8, zi 0), (7, zi ((bsS S (svZ kN oN)).2)), (6, zi ((((((0 + (flS S 0)) + (flS S 1)) + (flS S 2)) + (flS S 3)) + (flS S 4)) + (flS S 5))), (5, zi (svZ kN oN)), (4, zi (oN : Int)), (0, .ref (ah 0)), (1, .ref o0), (2, zi (kN : Int)), (3, zi bb)]) hx hb dL_isBest_82 hl (by decide) rfl (fun ls hl => ?_)
    refine lv_iload hx hb dL_isBest_84 (lv_at hl 1 rfl) ?_
    refine hz_if_ge (tgt := 114) hx hb dL_isBest_86 (by decide) (by omega) (fun _ => ?_) (fun q => by exfalso; omega)
    refine lv_iload_n hx hb dL_isBest_114 rfl (lv_at hl 7 rfl) ?_
    refine lv_iload hx hb dL_isBest_115 (lv_at hl 4 rfl) ?_
    refine hz_icmp_ge (tgt := 124) hx hb dL_isBest_117 (by decide) (by omega) (fun c15 => ?_) (fun c15 => ?_)
    · refine lv_iload hx hb dL_isBest_124 (lv_at hl 4 rfl) ?_
      refine lv_istore (lv' := [(9, zi (oN : Int)), (8, zi 0), (7, zi ((bsS S (svZ kN oN)).2)), (6, zi ((((((0 + (flS S 0)) + (flS S 1)) + (flS S 2)) + (flS S 3)) + (flS S 4)) + (flS S 5))), (5, zi (svZ kN oN)), (4, zi (oN : Int)), (0, .ref (ah 0)), (1, .ref o0), (2, zi (kN : Int)), (3, zi bb)]) hx hb dL_isBest_126 hl (by decide) rfl (fun ls hl => ?_)
      refine lv_iload_n hx hb dL_isBest_128 rfl (lv_at hl 8 rfl) ?_
      refine lv_iload hx hb dL_isBest_129 (lv_at hl 5 rfl) ?_
      refine hz_icmp_ge (tgt := 139) hx hb dL_isBest_131 (by decide) (by omega) (fun _ => ?_) (fun q => by exfalso; omega)
      refine lv_iload_n hx hb dL_isBest_139 rfl (lv_at hl 8 rfl) ?_
      refine lv_istore (lv' := [(10, zi (kN : Int)), (9, zi (oN : Int)), (8, zi 0), (7, zi ((bsS S (svZ kN oN)).2)), (6, zi ((((((0 + (flS S 0)) + (flS S 1)) + (flS S 2)) + (flS S 3)) + (flS S 4)) + (flS S 5))), (5, zi (svZ kN oN)), (4, zi (oN : Int)), (0, .ref (ah 0)), (1, .ref o0), (2, zi (kN : Int)), (3, zi bb)]) hx hb dL_isBest_140 hl (by decide) rfl (fun ls hl => ?_)
      have hmin : ((Nat.min kN oN : Nat) : Int) = (oN : Int) := by
        rcases mm_1 kN oN with q | q <;> (have q2 : Nat.min kN oN ≤ kN := Nat.min_le_left _ _; have q3 : Nat.min kN oN ≤ oN := Nat.min_le_right _ _; omega)
      have hmax : ((Nat.max kN oN : Nat) : Int) = (kN : Int) := by
        rcases mm_2 kN oN with q | q <;> (have q2 : kN ≤ Nat.max kN oN := Nat.le_max_left _ _; have q3 : oN ≤ Nat.max kN oN := Nat.le_max_right _ _; omega)
      refine lv_aload_n hx hb dL_isBest_142 rfl (lv_at hl 7 rfl) ?_
      refine lv_iload hx hb dL_isBest_143 (lv_at hl 1 rfl) ?_
      refine lv_aload_n hx hb dL_isBest_145 rfl (lv_at hl 7 rfl) ?_
      refine lv_iload hx hb dL_isBest_146 (lv_at hl 5 rfl) ?_
      refine hz_iconst hx hb dL_isBest_148 ?_
      refine hz_lawL (As := [.ref (ah 0), zi (svZ kN oN), zi 0]) (rest := [zi (oN : Int), .ref (ah 0)]) ⟨hx, hb, hml, hown, hts⟩ (c_best l hlt G ah mi zE y _ (sF (sB S u7) u6.1 u6.2) (svZ kN oN) (0 : Int) (fc_F u6.1 u6.2 (fc_B u7 hI)) hsv (by omega)) (vx_cwSW 3 hts gL_isBest_L_best rfl rfl rfl (by decide +kernel) ⟨Nat.le_of_ble_eq_true rfl, Nat.le_of_ble_eq_true rfl⟩) hP hK hD hS hA hGP hX hGN rfl hl.1 rfl (Nat.le_of_ble_eq_true rfl) dL_isBest_149 ⟨Nat.le_of_ble_eq_true rfl, Nat.le_of_ble_eq_true rfl⟩ (fun r u16 H locs hu hP hD hS => ?_)
      have hu : r = zI (brR S (svZ kN oN) (0 : Int)) := hu
      subst hu
      have hP : va_P G vwCl (wH ah y (sF (sB S u16) u6.1 u6.2) ++ dW o0 y d) H := hP
      have hD : va_D A (wH ah y (sF (sB S u16) u6.1 u6.2) ++ dW o0 y d) := hD
      have hbr0 : brR S (svZ kN oN) 0 = rwZ (cntZ (svZ kN oN) (S.2.1 0)) (bsS S (svZ kN oN)).1 0 := brR_3 hok (by rw [hcn]; split <;> omega) hb1
      refine hz_tope (z2 := rwZ (cntZ (svZ kN oN) (S.2.1 0)) (bsS S (svZ kN oN)).1 0) (by exact hbr0) ?_
      have ra0 := rwZ_rng (cntZ (svZ kN oN) (S.2.1 0)) (bsS S (svZ kN oN)).1 0
      refine hz_topi (fun a0 ha0 => ?_)
      rw [← ha0] at ra0
      refine hz_cI (As := [zi (oN : Int), zi a0]) (rest := []) ⟨hx, hb, hml, hown, hts⟩ (b_aim l hlt G ah zE y _ (sF (sB S u16) u6.1 u6.2) (oN : Int) a0 (fc_F u6.1 u6.2 (fc_B u16 hI)) (show 0 ≤ (oN : Int) ∧ (oN : Int) < (S.2.1 0) by omega) (show -1 ≤ a0 ∧ a0 ≤ 5 by omega) (show ¬ (S.2.2 5) (oN : Int) = 1 by omega)) (cwV 2 hts gL_isBest_X7_aim rfl rfl rfl (by decide +kernel) ⟨Nat.le_of_ble_eq_true rfl, Nat.le_of_ble_eq_true rfl⟩) hP hK hD hS hA hGP 0 8 rfl rfl rfl rfl hl.1 rfl (Nat.le_of_ble_eq_true rfl) dL_isBest_152 ⟨Nat.le_of_ble_eq_true rfl, Nat.le_of_ble_eq_true rfl⟩ (fun _ => wH_fst rfl rfl rfl) (fun u17 H locs hu hP hD hS => ?_)
      have hI18 : FC zE (sA S 2 (upZ (S.2.2 2) (oN : Int) a0)) := (fc_aim (oN : Int) a0 hI (by omega))
      have hP : va_P G vwCl (wH ah y (sF (sB (sA S 2 (upZ (S.2.2 2) (oN : Int) a0)) u16) u6.1 u6.2) ++ dW o0 y d) H := hP
      have hD : va_D A (wH ah y (sF (sB (sA S 2 (upZ (S.2.2 2) (oN : Int) a0)) u16) u6.1 u6.2) ++ dW o0 y d) := hD
      refine hz_tope (z2 := ((S.2.2 2) (oN : Int))) (by rfl) ?_
      refine lv_istore (lv' := [(11, zi ((S.2.2 2) (oN : Int))), (10, zi (kN : Int)), (9, zi (oN : Int)), (8, zi 0), (7, zi ((bsS S (svZ kN oN)).2)), (6, zi ((((((0 + (flS S 0)) + (flS S 1)) + (flS S 2)) + (flS S 3)) + (flS S 4)) + (flS S 5))), (5, zi (svZ kN oN)), (4, zi (oN : Int)), (0, .ref (ah 0)), (1, .ref o0), (2, zi (kN : Int)), (3, zi bb)]) hx hb dL_isBest_155 hl (by decide) rfl (fun ls hl => ?_)
      refine lv_iload hx hb dL_isBest_157 (lv_at hl 2 rfl) ?_
      refine lv_iload hx hb dL_isBest_159 (lv_at hl 1 rfl) ?_
      refine hz_icmp_ne (tgt := 168) hx hb dL_isBest_161 (by decide) (by omega) (fun c19 => ?_) (fun c19 => ?_)
      · have hko : kN ≠ oN := by omega
        refine lv_aload_n hx hb dL_isBest_168 rfl (lv_at hl 8 rfl) ?_
        refine lv_iload hx hb dL_isBest_169 (lv_at hl 1 rfl) ?_
        refine lv_aload_n hx hb dL_isBest_171 rfl (lv_at hl 8 rfl) ?_
        refine lv_iload hx hb dL_isBest_172 (lv_at hl 6 rfl) ?_
        refine hz_iconst hx hb dL_isBest_174 ?_
        refine hz_lawL (As := [.ref (ah 0), zi (svZ kN oN), zi 1]) (rest := [zi (kN : Int), .ref (ah 0)]) ⟨hx, hb, hml, hown, hts⟩ (c_best l hlt G ah mi zE y _ (sF (sB (sA S 2 (upZ (S.2.2 2) (oN : Int) a0)) u16) u6.1 u6.2) (svZ kN oN) (1 : Int) (fc_F u6.1 u6.2 (fc_B u16 hI18)) hsv (by omega)) (vx_cwSW 3 hts gL_isBest_L_best rfl rfl rfl (by decide +kernel) ⟨Nat.le_of_ble_eq_true rfl, Nat.le_of_ble_eq_true rfl⟩) hP hK hD hS hA hGP hX hGN rfl hl.1 rfl (Nat.le_of_ble_eq_true rfl) dL_isBest_175 ⟨Nat.le_of_ble_eq_true rfl, Nat.le_of_ble_eq_true rfl⟩ (fun r u20 H locs hu hP hD hS => ?_)
        have hu : r = zI (brR (sA S 2 (upZ (S.2.2 2) (oN : Int) a0)) (svZ kN oN) (1 : Int)) := hu
        subst hu
        have hP : va_P G vwCl (wH ah y (sF (sB (sA S 2 (upZ (S.2.2 2) (oN : Int) a0)) u20) u6.1 u6.2) ++ dW o0 y d) H := hP
        have hD : va_D A (wH ah y (sF (sB (sA S 2 (upZ (S.2.2 2) (oN : Int) a0)) u20) u6.1 u6.2) ++ dW o0 y d) := hD
        have hsm1 : bsS (sA S 2 (upZ (S.2.2 2) (oN : Int) a0)) (svZ kN oN) = bsS S (svZ kN oN) := bb_same hI hkn hon (fun j z1 z2 => upZ_n (by omega))
        have hbr1 : brR (sA S 2 (upZ (S.2.2 2) (oN : Int) a0)) (svZ kN oN) 1 = rwZ (cntZ (svZ kN oN) (S.2.1 0)) (bsS S (svZ kN oN)).1 1 := by
          have q := brR_3 (S := (sA S 2 (upZ (S.2.2 2) (oN : Int) a0))) (sid := (svZ kN oN)) (which := 1) hok (by show -1 ≤ (1 : Int) ∧ 1 < cntZ (svZ kN oN) (S.2.1 0); rw [hcn, if_neg hko]; omega) (by rw [hsm1]; exact hb1)
          rw [hsm1] at q
          exact q
        refine hz_tope (z2 := rwZ (cntZ (svZ kN oN) (S.2.1 0)) (bsS S (svZ kN oN)).1 1) (by exact hbr1) ?_
        have ra1 := rwZ_rng (cntZ (svZ kN oN) (S.2.1 0)) (bsS S (svZ kN oN)).1 1
        refine hz_topi (fun a1 ha1 => ?_)
        rw [← ha1] at ra1
        refine hz_cI (As := [zi (kN : Int), zi a1]) (rest := []) ⟨hx, hb, hml, hown, hts⟩ (b_aim l hlt G ah zE y _ (sF (sB (sA S 2 (upZ (S.2.2 2) (oN : Int) a0)) u20) u6.1 u6.2) (kN : Int) a1 (fc_F u6.1 u6.2 (fc_B u20 hI18)) (show 0 ≤ (kN : Int) ∧ (kN : Int) < (S.2.1 0) by omega) (show -1 ≤ a1 ∧ a1 ≤ 5 by omega) (show ¬ (S.2.2 5) (kN : Int) = 1 by omega)) (cwV 2 hts gL_isBest_X7_aim rfl rfl rfl (by decide +kernel) ⟨Nat.le_of_ble_eq_true rfl, Nat.le_of_ble_eq_true rfl⟩) hP hK hD hS hA hGP 0 8 rfl rfl rfl rfl hl.1 rfl (Nat.le_of_ble_eq_true rfl) dL_isBest_178 ⟨Nat.le_of_ble_eq_true rfl, Nat.le_of_ble_eq_true rfl⟩ (fun _ => wH_fst rfl rfl rfl) (fun u21 H locs hu hP hD hS => ?_)
        have hI22 : FC zE (sA S 2 (upZ (upZ (S.2.2 2) (oN : Int) a0) (kN : Int) a1)) := (fc_aim (kN : Int) a1 hI18 (by omega))
        have hP : va_P G vwCl (wH ah y (sF (sB (sA S 2 (upZ (upZ (S.2.2 2) (oN : Int) a0) (kN : Int) a1)) u20) u6.1 u6.2) ++ dW o0 y d) H := hP
        have hD : va_D A (wH ah y (sF (sB (sA S 2 (upZ (upZ (S.2.2 2) (oN : Int) a0) (kN : Int) a1)) u20) u6.1 u6.2) ++ dW o0 y d) := hD
        refine hz_tope (z2 := (S.2.2 2 (kN : Int))) (by exact upZ_n (by omega)) ?_
        refine lv_istore (lv' := [(12, zi (S.2.2 2 (kN : Int))), (11, zi ((S.2.2 2) (oN : Int))), (10, zi (kN : Int)), (9, zi (oN : Int)), (8, zi 0), (7, zi ((bsS S (svZ kN oN)).2)), (6, zi ((((((0 + (flS S 0)) + (flS S 1)) + (flS S 2)) + (flS S 3)) + (flS S 4)) + (flS S 5))), (5, zi (svZ kN oN)), (4, zi (oN : Int)), (0, .ref (ah 0)), (1, .ref o0), (2, zi (kN : Int)), (3, zi bb)]) hx hb dL_isBest_181 hl (by decide) rfl (fun ls hl => ?_)
        have hsm2 : bsS (sA S 2 (upZ (upZ (S.2.2 2) (oN : Int) a0) (kN : Int) a1)) (svZ kN oN) = bsS S (svZ kN oN) := bb_same hI hkn hon (fun j z1 z2 => (upZ_n (by omega)).trans (upZ_n (by omega)))
        have hth : alZ (flS (sA S 2 (upZ (upZ (S.2.2 2) (oN : Int) a0) (kN : Int) a1))) = (bsS S (svZ kN oN)).2 := bb_then (f := (upZ (upZ (S.2.2 2) (oN : Int) a0) (kN : Int) a1)) hI hkn hon hb1 (by rw [hmin]; exact ((upZ_n (by omega)).trans (upZ_s rfl)).trans ha0) (fun _ => by rw [hmax]; exact (upZ_s rfl).trans ha1) (fun j z1 z2 => (upZ_n (by omega)).trans (upZ_n (by omega)))
        rw [alS6] at hth
        have lt := fun p => flS_rng hI22 p
        have t0 := lt 0
        have t1 := lt 1
        have t2 := lt 2
        have t3 := lt 3
        have t4 := lt 4
        have t5 := lt 5
        refine hz_iconst hx hb dL_isBest_183 ?_
        refine lv_istore (lv' := [(13, zi 0), (12, zi (S.2.2 2 (kN : Int))), (11, zi ((S.2.2 2) (oN : Int))), (10, zi (kN : Int)), (9, zi (oN : Int)), (8, zi 0), (7, zi ((bsS S (svZ kN oN)).2)), (6, zi ((((((0 + (flS S 0)) + (flS S 1)) + (flS S 2)) + (flS S 3)) + (flS S 4)) + (flS S 5))), (5, zi (svZ kN oN)), (4, zi (oN : Int)), (0, .ref (ah 0)), (1, .ref o0), (2, zi (kN : Int)), (3, zi bb)]) hx hb dL_isBest_184 hl (by decide) rfl (fun ls hl => ?_)
        refine hz_iconst hx hb dL_isBest_186 ?_
        refine lv_istore (lv' := [(14, zi 0), (13, zi 0), (12, zi (S.2.2 2 (kN : Int))), (11, zi ((S.2.2 2) (oN : Int))), (10, zi (kN : Int)), (9, zi (oN : Int)), (8, zi 0), (7, zi ((bsS S (svZ kN oN)).2)), (6, zi ((((((0 + (flS S 0)) + (flS S 1)) + (flS S 2)) + (flS S 3)) + (flS S 4)) + (flS S 5))), (5, zi (svZ kN oN)), (4, zi (oN : Int)), (0, .ref (ah 0)), (1, .ref o0), (2, zi (kN : Int)), (3, zi bb)]) hx hb dL_isBest_187 hl (by decide) rfl (fun ls hl => ?_)
        refine lv_iload hx hb dL_isBest_189 (lv_at hl 0 rfl) ?_
        refine hz_bipush hx hb dL_isBest_191 (by decide) ?_
        refine hz_icmp_ge (tgt := 213) hx hb dL_isBest_193 (by decide) (by omega) (fun q => by exfalso; omega) (fun _ => ?_)
        refine lv_iload hx hb dL_isBest_196 (lv_at hl 1 rfl) ?_
        refine lv_aload_n hx hb dL_isBest_198 rfl (lv_at hl 11 rfl) ?_
        refine lv_iload hx hb dL_isBest_199 (lv_at hl 0 rfl) ?_
        refine hz_cI (As := [zi 0]) (rest := [zi 0]) ⟨hx, hb, hml, hown, hts⟩ (b_flux l hlt G ah zE y _ (sF (sB (sA S 2 (upZ (upZ (S.2.2 2) (oN : Int) a0) (kN : Int) a1)) u20) u6.1 u6.2) (0 : Int) (fc_F u6.1 u6.2 (fc_B u20 hI22)) (show 0 ≤ (0 : Int) ∧ (0 : Int) ≤ 5 by omega)) (cwV 1 hts gL_isBest_X7_flux rfl rfl rfl (by decide +kernel) ⟨Nat.le_of_ble_eq_true rfl, Nat.le_of_ble_eq_true rfl⟩) hP hK hD hS hA hGP 0 8 rfl rfl rfl rfl hl.1 rfl (Nat.le_of_ble_eq_true rfl) dL_isBest_201 ⟨Nat.le_of_ble_eq_true rfl, Nat.le_of_ble_eq_true rfl⟩ (fun _ => wH_fst rfl rfl rfl) (fun u23 H locs hu hP hD hS => ?_)
        have hP : va_P G vwCl (wH ah y (sF (sB (sA S 2 (upZ (upZ (S.2.2 2) (oN : Int) a0) (kN : Int) a1)) u20) u23.1 u23.2) ++ dW o0 y d) H := hP
        have hD : va_D A (wH ah y (sF (sB (sA S 2 (upZ (upZ (S.2.2 2) (oN : Int) a0) (kN : Int) a1)) u20) u23.1 u23.2) ++ dW o0 y d) := hD
        refine hz_tope (z2 := (flS (sA S 2 (upZ (upZ (S.2.2 2) (oN : Int) a0) (kN : Int) a1)) 0)) (by rfl) ?_
        refine hz_iadd hx hb dL_isBest_204 ?_
        refine lv_istore (lv' := [(13, zi (0 + (flS (sA S 2 (upZ (upZ (S.2.2 2) (oN : Int) a0) (kN : Int) a1)) 0))), (14, zi 0), (12, zi (S.2.2 2 (kN : Int))), (11, zi ((S.2.2 2) (oN : Int))), (10, zi (kN : Int)), (9, zi (oN : Int)), (8, zi 0), (7, zi ((bsS S (svZ kN oN)).2)), (6, zi ((((((0 + (flS S 0)) + (flS S 1)) + (flS S 2)) + (flS S 3)) + (flS S 4)) + (flS S 5))), (5, zi (svZ kN oN)), (4, zi (oN : Int)), (0, .ref (ah 0)), (1, .ref o0), (2, zi (kN : Int)), (3, zi bb)]) hx hb dL_isBest_205 hl (by decide) rfl (fun ls hl => ?_)
        refine hz_iinc (v := 1) (lv' := [(14, zi 1), (13, zi (0 + (flS (sA S 2 (upZ (upZ (S.2.2 2) (oN : Int) a0) (kN : Int) a1)) 0))), (12, zi (S.2.2 2 (kN : Int))), (11, zi ((S.2.2 2) (oN : Int))), (10, zi (kN : Int)), (9, zi (oN : Int)), (8, zi 0), (7, zi ((bsS S (svZ kN oN)).2)), (6, zi ((((((0 + (flS S 0)) + (flS S 1)) + (flS S 2)) + (flS S 3)) + (flS S 4)) + (flS S 5))), (5, zi (svZ kN oN)), (4, zi (oN : Int)), (0, .ref (ah 0)), (1, .ref o0), (2, zi (kN : Int)), (3, zi bb)]) hx hb dL_isBest_207 hl (k := 1) rfl (by omega) (by decide) rfl (fun ls hl => ?_)
        refine lv_goto (tgt := 189) hx hb dL_isBest_210 (by decide) ?_
        refine lv_iload hx hb dL_isBest_189 (lv_at hl 0 rfl) ?_
        refine hz_bipush hx hb dL_isBest_191 (by decide) ?_
        refine hz_icmp_ge (tgt := 213) hx hb dL_isBest_193 (by decide) (by omega) (fun q => by exfalso; omega) (fun _ => ?_)
        refine lv_iload hx hb dL_isBest_196 (lv_at hl 1 rfl) ?_
        refine lv_aload_n hx hb dL_isBest_198 rfl (lv_at hl 11 rfl) ?_
        refine lv_iload hx hb dL_isBest_199 (lv_at hl 0 rfl) ?_
        refine hz_cI (As := [zi 1]) (rest := [zi (0 + (flS (sA S 2 (upZ (upZ (S.2.2 2) (oN : Int) a0) (kN : Int) a1)) 0))]) ⟨hx, hb, hml, hown, hts⟩ (b_flux l hlt G ah zE y _ (sF (sB (sA S 2 (upZ (upZ (S.2.2 2) (oN : Int) a0) (kN : Int) a1)) u20) u23.1 u23.2) (1 : Int) (fc_F u23.1 u23.2 (fc_B u20 hI22)) (show 0 ≤ (1 : Int) ∧ (1 : Int) ≤ 5 by omega)) (cwV 1 hts gL_isBest_X7_flux rfl rfl rfl (by decide +kernel) ⟨Nat.le_of_ble_eq_true rfl, Nat.le_of_ble_eq_true rfl⟩) hP hK hD hS hA hGP 0 8 rfl rfl rfl rfl hl.1 rfl (Nat.le_of_ble_eq_true rfl) dL_isBest_201 ⟨Nat.le_of_ble_eq_true rfl, Nat.le_of_ble_eq_true rfl⟩ (fun _ => wH_fst rfl rfl rfl) (fun u24 H locs hu hP hD hS => ?_)
        have hP : va_P G vwCl (wH ah y (sF (sB (sA S 2 (upZ (upZ (S.2.2 2) (oN : Int) a0) (kN : Int) a1)) u20) u24.1 u24.2) ++ dW o0 y d) H := hP
        have hD : va_D A (wH ah y (sF (sB (sA S 2 (upZ (upZ (S.2.2 2) (oN : Int) a0) (kN : Int) a1)) u20) u24.1 u24.2) ++ dW o0 y d) := hD
        refine hz_tope (z2 := (flS (sA S 2 (upZ (upZ (S.2.2 2) (oN : Int) a0) (kN : Int) a1)) 1)) (by rfl) ?_
        refine hz_iadd hx hb dL_isBest_204 ?_
        refine lv_istore (lv' := [(13, zi ((0 + (flS (sA S 2 (upZ (upZ (S.2.2 2) (oN : Int) a0) (kN : Int) a1)) 0)) + (flS (sA S 2 (upZ (upZ (S.2.2 2) (oN : Int) a0) (kN : Int) a1)) 1))), (14, zi 1), (12, zi (S.2.2 2 (kN : Int))), (11, zi ((S.2.2 2) (oN : Int))), (10, zi (kN : Int)), (9, zi (oN : Int)), (8, zi 0), (7, zi ((bsS S (svZ kN oN)).2)), (6, zi ((((((0 + (flS S 0)) + (flS S 1)) + (flS S 2)) + (flS S 3)) + (flS S 4)) + (flS S 5))), (5, zi (svZ kN oN)), (4, zi (oN : Int)), (0, .ref (ah 0)), (1, .ref o0), (2, zi (kN : Int)), (3, zi bb)]) hx hb dL_isBest_205 hl (by decide) rfl (fun ls hl => ?_)
        refine hz_iinc (v := 2) (lv' := [(14, zi 2), (13, zi ((0 + (flS (sA S 2 (upZ (upZ (S.2.2 2) (oN : Int) a0) (kN : Int) a1)) 0)) + (flS (sA S 2 (upZ (upZ (S.2.2 2) (oN : Int) a0) (kN : Int) a1)) 1))), (12, zi (S.2.2 2 (kN : Int))), (11, zi ((S.2.2 2) (oN : Int))), (10, zi (kN : Int)), (9, zi (oN : Int)), (8, zi 0), (7, zi ((bsS S (svZ kN oN)).2)), (6, zi ((((((0 + (flS S 0)) + (flS S 1)) + (flS S 2)) + (flS S 3)) + (flS S 4)) + (flS S 5))), (5, zi (svZ kN oN)), (4, zi (oN : Int)), (0, .ref (ah 0)), (1, .ref o0), (2, zi (kN : Int)), (3, zi bb)]) hx hb dL_isBest_207 hl (k := 1) rfl (by omega) (by decide) rfl (fun ls hl => ?_)
        refine lv_goto (tgt := 189) hx hb dL_isBest_210 (by decide) ?_
        refine lv_iload hx hb dL_isBest_189 (lv_at hl 0 rfl) ?_
        refine hz_bipush hx hb dL_isBest_191 (by decide) ?_
        refine hz_icmp_ge (tgt := 213) hx hb dL_isBest_193 (by decide) (by omega) (fun q => by exfalso; omega) (fun _ => ?_)
        refine lv_iload hx hb dL_isBest_196 (lv_at hl 1 rfl) ?_
        refine lv_aload_n hx hb dL_isBest_198 rfl (lv_at hl 11 rfl) ?_
        refine lv_iload hx hb dL_isBest_199 (lv_at hl 0 rfl) ?_
        refine hz_cI (As := [zi 2]) (rest := [zi ((0 + (flS (sA S 2 (upZ (upZ (S.2.2 2) (oN : Int) a0) (kN : Int) a1)) 0)) + (flS (sA S 2 (upZ (upZ (S.2.2 2) (oN : Int) a0) (kN : Int) a1)) 1))]) ⟨hx, hb, hml, hown, hts⟩ (b_flux l hlt G ah zE y _ (sF (sB (sA S 2 (upZ (upZ (S.2.2 2) (oN : Int) a0) (kN : Int) a1)) u20) u24.1 u24.2) (2 : Int) (fc_F u24.1 u24.2 (fc_B u20 hI22)) (show 0 ≤ (2 : Int) ∧ (2 : Int) ≤ 5 by omega)) (cwV 1 hts gL_isBest_X7_flux rfl rfl rfl (by decide +kernel) ⟨Nat.le_of_ble_eq_true rfl, Nat.le_of_ble_eq_true rfl⟩) hP hK hD hS hA hGP 0 8 rfl rfl rfl rfl hl.1 rfl (Nat.le_of_ble_eq_true rfl) dL_isBest_201 ⟨Nat.le_of_ble_eq_true rfl, Nat.le_of_ble_eq_true rfl⟩ (fun _ => wH_fst rfl rfl rfl) (fun u25 H locs hu hP hD hS => ?_)
        have hP : va_P G vwCl (wH ah y (sF (sB (sA S 2 (upZ (upZ (S.2.2 2) (oN : Int) a0) (kN : Int) a1)) u20) u25.1 u25.2) ++ dW o0 y d) H := hP
        have hD : va_D A (wH ah y (sF (sB (sA S 2 (upZ (upZ (S.2.2 2) (oN : Int) a0) (kN : Int) a1)) u20) u25.1 u25.2) ++ dW o0 y d) := hD
        refine hz_tope (z2 := (flS (sA S 2 (upZ (upZ (S.2.2 2) (oN : Int) a0) (kN : Int) a1)) 2)) (by rfl) ?_
        refine hz_iadd hx hb dL_isBest_204 ?_
        refine lv_istore (lv' := [(13, zi (((0 + (flS (sA S 2 (upZ (upZ (S.2.2 2) (oN : Int) a0) (kN : Int) a1)) 0)) + (flS (sA S 2 (upZ (upZ (S.2.2 2) (oN : Int) a0) (kN : Int) a1)) 1)) + (flS (sA S 2 (upZ (upZ (S.2.2 2) (oN : Int) a0) (kN : Int) a1)) 2))), (14, zi 2), (12, zi (S.2.2 2 (kN : Int))), (11, zi ((S.2.2 2) (oN : Int))), (10, zi (kN : Int)), (9, zi (oN : Int)), (8, zi 0), (7, zi ((bsS S (svZ kN oN)).2)), (6, zi ((((((0 + (flS S 0)) + (flS S 1)) + (flS S 2)) + (flS S 3)) + (flS S 4)) + (flS S 5))), (5, zi (svZ kN oN)), (4, zi (oN : Int)), (0, .ref (ah 0)), (1, .ref o0), (2, zi (kN : Int)), (3, zi bb)]) hx hb dL_isBest_205 hl (by decide) rfl (fun ls hl => ?_)
        refine hz_iinc (v := 3) (lv' := [(14, zi 3), (13, zi (((0 + (flS (sA S 2 (upZ (upZ (S.2.2 2) (oN : Int) a0) (kN : Int) a1)) 0)) + (flS (sA S 2 (upZ (upZ (S.2.2 2) (oN : Int) a0) (kN : Int) a1)) 1)) + (flS (sA S 2 (upZ (upZ (S.2.2 2) (oN : Int) a0) (kN : Int) a1)) 2))), (12, zi (S.2.2 2 (kN : Int))), (11, zi ((S.2.2 2) (oN : Int))), (10, zi (kN : Int)), (9, zi (oN : Int)), (8, zi 0), (7, zi ((bsS S (svZ kN oN)).2)), (6, zi ((((((0 + (flS S 0)) + (flS S 1)) + (flS S 2)) + (flS S 3)) + (flS S 4)) + (flS S 5))), (5, zi (svZ kN oN)), (4, zi (oN : Int)), (0, .ref (ah 0)), (1, .ref o0), (2, zi (kN : Int)), (3, zi bb)]) hx hb dL_isBest_207 hl (k := 1) rfl (by omega) (by decide) rfl (fun ls hl => ?_)
        refine lv_goto (tgt := 189) hx hb dL_isBest_210 (by decide) ?_
        refine lv_iload hx hb dL_isBest_189 (lv_at hl 0 rfl) ?_
        refine hz_bipush hx hb dL_isBest_191 (by decide) ?_
        refine hz_icmp_ge (tgt := 213) hx hb dL_isBest_193 (by decide) (by omega) (fun q => by exfalso; omega) (fun _ => ?_)
        refine lv_iload hx hb dL_isBest_196 (lv_at hl 1 rfl) ?_
        refine lv_aload_n hx hb dL_isBest_198 rfl (lv_at hl 11 rfl) ?_
        refine lv_iload hx hb dL_isBest_199 (lv_at hl 0 rfl) ?_
        refine hz_cI (As := [zi 3]) (rest := [zi (((0 + (flS (sA S 2 (upZ (upZ (S.2.2 2) (oN : Int) a0) (kN : Int) a1)) 0)) + (flS (sA S 2 (upZ (upZ (S.2.2 2) (oN : Int) a0) (kN : Int) a1)) 1)) + (flS (sA S 2 (upZ (upZ (S.2.2 2) (oN : Int) a0) (kN : Int) a1)) 2))]) ⟨hx, hb, hml, hown, hts⟩ (b_flux l hlt G ah zE y _ (sF (sB (sA S 2 (upZ (upZ (S.2.2 2) (oN : Int) a0) (kN : Int) a1)) u20) u25.1 u25.2) (3 : Int) (fc_F u25.1 u25.2 (fc_B u20 hI22)) (show 0 ≤ (3 : Int) ∧ (3 : Int) ≤ 5 by omega)) (cwV 1 hts gL_isBest_X7_flux rfl rfl rfl (by decide +kernel) ⟨Nat.le_of_ble_eq_true rfl, Nat.le_of_ble_eq_true rfl⟩) hP hK hD hS hA hGP 0 8 rfl rfl rfl rfl hl.1 rfl (Nat.le_of_ble_eq_true rfl) dL_isBest_201 ⟨Nat.le_of_ble_eq_true rfl, Nat.le_of_ble_eq_true rfl⟩ (fun _ => wH_fst rfl rfl rfl) (fun u26 H locs hu hP hD hS => ?_)
        have hP : va_P G vwCl (wH ah y (sF (sB (sA S 2 (upZ (upZ (S.2.2 2) (oN : Int) a0) (kN : Int) a1)) u20) u26.1 u26.2) ++ dW o0 y d) H := hP
        have hD : va_D A (wH ah y (sF (sB (sA S 2 (upZ (upZ (S.2.2 2) (oN : Int) a0) (kN : Int) a1)) u20) u26.1 u26.2) ++ dW o0 y d) := hD
        refine hz_tope (z2 := (flS (sA S 2 (upZ (upZ (S.2.2 2) (oN : Int) a0) (kN : Int) a1)) 3)) (by rfl) ?_
        refine hz_iadd hx hb dL_isBest_204 ?_
        refine lv_istore (lv' := [(13, zi ((((0 + (flS (sA S 2 (upZ (upZ (S.2.2 2) (oN : Int) a0) (kN : Int) a1)) 0)) + (flS (sA S 2 (upZ (upZ (S.2.2 2) (oN : Int) a0) (kN : Int) a1)) 1)) + (flS (sA S 2 (upZ (upZ (S.2.2 2) (oN : Int) a0) (kN : Int) a1)) 2)) + (flS (sA S 2 (upZ (upZ (S.2.2 2) (oN : Int) a0) (kN : Int) a1)) 3))), (14, zi 3), (12, zi (S.2.2 2 (kN : Int))), (11, zi ((S.2.2 2) (oN : Int))), (10, zi (kN : Int)), (9, zi (oN : Int)), (8, zi 0), (7, zi ((bsS S (svZ kN oN)).2)), (6, zi ((((((0 + (flS S 0)) + (flS S 1)) + (flS S 2)) + (flS S 3)) + (flS S 4)) + (flS S 5))), (5, zi (svZ kN oN)), (4, zi (oN : Int)), (0, .ref (ah 0)), (1, .ref o0), (2, zi (kN : Int)), (3, zi bb)]) hx hb dL_isBest_205 hl (by decide) rfl (fun ls hl => ?_)
        refine hz_iinc (v := 4) (lv' := [(14, zi 4), (13, zi ((((0 + (flS (sA S 2 (upZ (upZ (S.2.2 2) (oN : Int) a0) (kN : Int) a1)) 0)) + (flS (sA S 2 (upZ (upZ (S.2.2 2) (oN : Int) a0) (kN : Int) a1)) 1)) + (flS (sA S 2 (upZ (upZ (S.2.2 2) (oN : Int) a0) (kN : Int) a1)) 2)) + (flS (sA S 2 (upZ (upZ (S.2.2 2) (oN : Int) a0) (kN : Int) a1)) 3))), (12, zi (S.2.2 2 (kN : Int))), (11, zi ((S.2.2 2) (oN : Int))), (10, zi (kN : Int)), (9, zi (oN : Int)), (8, zi 0), (7, zi ((bsS S (svZ kN oN)).2)), (6, zi ((((((0 + (flS S 0)) + (flS S 1)) + (flS S 2)) + (flS S 3)) + (flS S 4)) + (flS S 5))), (5, zi (svZ kN oN)), (4, zi (oN : Int)), (0, .ref (ah 0)), (1, .ref o0), (2, zi (kN : Int)), (3, zi bb)]) hx hb dL_isBest_207 hl (k := 1) rfl (by omega) (by decide) rfl (fun ls hl => ?_)
        refine lv_goto (tgt := 189) hx hb dL_isBest_210 (by decide) ?_
        refine lv_iload hx hb dL_isBest_189 (lv_at hl 0 rfl) ?_
        refine hz_bipush hx hb dL_isBest_191 (by decide) ?_
        refine hz_icmp_ge (tgt := 213) hx hb dL_isBest_193 (by decide) (by omega) (fun q => by exfalso; omega) (fun _ => ?_)
        refine lv_iload hx hb dL_isBest_196 (lv_at hl 1 rfl) ?_
        refine lv_aload_n hx hb dL_isBest_198 rfl (lv_at hl 11 rfl) ?_
        refine lv_iload hx hb dL_isBest_199 (lv_at hl 0 rfl) ?_
        refine hz_cI (As := [zi 4]) (rest := [zi ((((0 + (flS (sA S 2 (upZ (upZ (S.2.2 2) (oN : Int) a0) (kN : Int) a1)) 0)) + (flS (sA S 2 (upZ (upZ (S.2.2 2) (oN : Int) a0) (kN : Int) a1)) 1)) + (flS (sA S 2 (upZ (upZ (S.2.2 2) (oN : Int) a0) (kN : Int) a1)) 2)) + (flS (sA S 2 (upZ (upZ (S.2.2 2) (oN : Int) a0) (kN : Int) a1)) 3))]) ⟨hx, hb, hml, hown, hts⟩ (b_flux l hlt G ah zE y _ (sF (sB (sA S 2 (upZ (upZ (S.2.2 2) (oN : Int) a0) (kN : Int) a1)) u20) u26.1 u26.2) (4 : Int) (fc_F u26.1 u26.2 (fc_B u20 hI22)) (show 0 ≤ (4 : Int) ∧ (4 : Int) ≤ 5 by omega)) (cwV 1 hts gL_isBest_X7_flux rfl rfl rfl (by decide +kernel) ⟨Nat.le_of_ble_eq_true rfl, Nat.le_of_ble_eq_true rfl⟩) hP hK hD hS hA hGP 0 8 rfl rfl rfl rfl hl.1 rfl (Nat.le_of_ble_eq_true rfl) dL_isBest_201 ⟨Nat.le_of_ble_eq_true rfl, Nat.le_of_ble_eq_true rfl⟩ (fun _ => wH_fst rfl rfl rfl) (fun u27 H locs hu hP hD hS => ?_)
        have hP : va_P G vwCl (wH ah y (sF (sB (sA S 2 (upZ (upZ (S.2.2 2) (oN : Int) a0) (kN : Int) a1)) u20) u27.1 u27.2) ++ dW o0 y d) H := hP
        have hD : va_D A (wH ah y (sF (sB (sA S 2 (upZ (upZ (S.2.2 2) (oN : Int) a0) (kN : Int) a1)) u20) u27.1 u27.2) ++ dW o0 y d) := hD
        refine hz_tope (z2 := (flS (sA S 2 (upZ (upZ (S.2.2 2) (oN : Int) a0) (kN : Int) a1)) 4)) (by rfl) ?_
        refine hz_iadd hx hb dL_isBest_204 ?_
        refine lv_istore (lv' := [(13, zi (((((0 + (flS (sA S 2 (upZ (upZ (S.2.2 2) (oN : Int) a0) (kN : Int) a1)) 0)) + (flS (sA S 2 (upZ (upZ (S.2.2 2) (oN : Int) a0) (kN : Int) a1)) 1)) + (flS (sA S 2 (upZ (upZ (S.2.2 2) (oN : Int) a0) (kN : Int) a1)) 2)) + (flS (sA S 2 (upZ (upZ (S.2.2 2) (oN : Int) a0) (kN : Int) a1)) 3)) + (flS (sA S 2 (upZ (upZ (S.2.2 2) (oN : Int) a0) (kN : Int) a1)) 4))), (14, zi 4), (12, zi (S.2.2 2 (kN : Int))), (11, zi ((S.2.2 2) (oN : Int))), (10, zi (kN : Int)), (9, zi (oN : Int)), (8, zi 0), (7, zi ((bsS S (svZ kN oN)).2)), (6, zi ((((((0 + (flS S 0)) + (flS S 1)) + (flS S 2)) + (flS S 3)) + (flS S 4)) + (flS S 5))), (5, zi (svZ kN oN)), (4, zi (oN : Int)), (0, .ref (ah 0)), (1, .ref o0), (2, zi (kN : Int)), (3, zi bb)]) hx hb dL_isBest_205 hl (by decide) rfl (fun ls hl => ?_)
        refine hz_iinc (v := 5) (lv' := [(14, zi 5), (13, zi (((((0 + (flS (sA S 2 (upZ (upZ (S.2.2 2) (oN : Int) a0) (kN : Int) a1)) 0)) + (flS (sA S 2 (upZ (upZ (S.2.2 2) (oN : Int) a0) (kN : Int) a1)) 1)) + (flS (sA S 2 (upZ (upZ (S.2.2 2) (oN : Int) a0) (kN : Int) a1)) 2)) + (flS (sA S 2 (upZ (upZ (S.2.2 2) (oN : Int) a0) (kN : Int) a1)) 3)) + (flS (sA S 2 (upZ (upZ (S.2.2 2) (oN : Int) a0) (kN : Int) a1)) 4))), (12, zi (S.2.2 2 (kN : Int))), (11, zi ((S.2.2 2) (oN : Int))), (10, zi (kN : Int)), (9, zi (oN : Int)), (8, zi 0), (7, zi ((bsS S (svZ kN oN)).2)), (6, zi ((((((0 + (flS S 0)) + (flS S 1)) + (flS S 2)) + (flS S 3)) + (flS S 4)) + (flS S 5))), (5, zi (svZ kN oN)), (4, zi (oN : Int)), (0, .ref (ah 0)), (1, .ref o0), (2, zi (kN : Int)), (3, zi bb)]) hx hb dL_isBest_207 hl (k := 1) rfl (by omega) (by decide) rfl (fun ls hl => ?_)
        refine lv_goto (tgt := 189) hx hb dL_isBest_210 (by decide) ?_
        refine lv_iload hx hb dL_isBest_189 (lv_at hl 0 rfl) ?_
        refine hz_bipush hx hb dL_isBest_191 (by decide) ?_
        refine hz_icmp_ge (tgt := 213) hx hb dL_isBest_193 (by decide) (by omega) (fun q => by exfalso; omega) (fun _ => ?_)
        refine lv_iload hx hb dL_isBest_196 (lv_at hl 1 rfl) ?_
        refine lv_aload_n hx hb dL_isBest_198 rfl (lv_at hl 11 rfl) ?_
        refine lv_iload hx hb dL_isBest_199 (lv_at hl 0 rfl) ?_
        refine hz_cI (As := [zi 5]) (rest := [zi (((((0 + (flS (sA S 2 (upZ (upZ (S.2.2 2) (oN : Int) a0) (kN : Int) a1)) 0)) + (flS (sA S 2 (upZ (upZ (S.2.2 2) (oN : Int) a0) (kN : Int) a1)) 1)) + (flS (sA S 2 (upZ (upZ (S.2.2 2) (oN : Int) a0) (kN : Int) a1)) 2)) + (flS (sA S 2 (upZ (upZ (S.2.2 2) (oN : Int) a0) (kN : Int) a1)) 3)) + (flS (sA S 2 (upZ (upZ (S.2.2 2) (oN : Int) a0) (kN : Int) a1)) 4))]) ⟨hx, hb, hml, hown, hts⟩ (b_flux l hlt G ah zE y _ (sF (sB (sA S 2 (upZ (upZ (S.2.2 2) (oN : Int) a0) (kN : Int) a1)) u20) u27.1 u27.2) (5 : Int) (fc_F u27.1 u27.2 (fc_B u20 hI22)) (show 0 ≤ (5 : Int) ∧ (5 : Int) ≤ 5 by omega)) (cwV 1 hts gL_isBest_X7_flux rfl rfl rfl (by decide +kernel) ⟨Nat.le_of_ble_eq_true rfl, Nat.le_of_ble_eq_true rfl⟩) hP hK hD hS hA hGP 0 8 rfl rfl rfl rfl hl.1 rfl (Nat.le_of_ble_eq_true rfl) dL_isBest_201 ⟨Nat.le_of_ble_eq_true rfl, Nat.le_of_ble_eq_true rfl⟩ (fun _ => wH_fst rfl rfl rfl) (fun u28 H locs hu hP hD hS => ?_)
        have hP : va_P G vwCl (wH ah y (sF (sB (sA S 2 (upZ (upZ (S.2.2 2) (oN : Int) a0) (kN : Int) a1)) u20) u28.1 u28.2) ++ dW o0 y d) H := hP
        have hD : va_D A (wH ah y (sF (sB (sA S 2 (upZ (upZ (S.2.2 2) (oN : Int) a0) (kN : Int) a1)) u20) u28.1 u28.2) ++ dW o0 y d) := hD
        refine hz_tope (z2 := (flS (sA S 2 (upZ (upZ (S.2.2 2) (oN : Int) a0) (kN : Int) a1)) 5)) (by rfl) ?_
        refine hz_iadd hx hb dL_isBest_204 ?_
        refine lv_istore (lv' := [(13, zi ((((((0 + (flS (sA S 2 (upZ (upZ (S.2.2 2) (oN : Int) a0) (kN : Int) a1)) 0)) + (flS (sA S 2 (upZ (upZ (S.2.2 2) (oN : Int) a0) (kN : Int) a1)) 1)) + (flS (sA S 2 (upZ (upZ (S.2.2 2) (oN : Int) a0) (kN : Int) a1)) 2)) + (flS (sA S 2 (upZ (upZ (S.2.2 2) (oN : Int) a0) (kN : Int) a1)) 3)) + (flS (sA S 2 (upZ (upZ (S.2.2 2) (oN : Int) a0) (kN : Int) a1)) 4)) + (flS (sA S 2 (upZ (upZ (S.2.2 2) (oN : Int) a0) (kN : Int) a1)) 5))), (14, zi 5), (12, zi (S.2.2 2 (kN : Int))), (11, zi ((S.2.2 2) (oN : Int))), (10, zi (kN : Int)), (9, zi (oN : Int)), (8, zi 0), (7, zi ((bsS S (svZ kN oN)).2)), (6, zi ((((((0 + (flS S 0)) + (flS S 1)) + (flS S 2)) + (flS S 3)) + (flS S 4)) + (flS S 5))), (5, zi (svZ kN oN)), (4, zi (oN : Int)), (0, .ref (ah 0)), (1, .ref o0), (2, zi (kN : Int)), (3, zi bb)]) hx hb dL_isBest_205 hl (by decide) rfl (fun ls hl => ?_)
        refine hz_iinc (v := 6) (lv' := [(14, zi 6), (13, zi ((((((0 + (flS (sA S 2 (upZ (upZ (S.2.2 2) (oN : Int) a0) (kN : Int) a1)) 0)) + (flS (sA S 2 (upZ (upZ (S.2.2 2) (oN : Int) a0) (kN : Int) a1)) 1)) + (flS (sA S 2 (upZ (upZ (S.2.2 2) (oN : Int) a0) (kN : Int) a1)) 2)) + (flS (sA S 2 (upZ (upZ (S.2.2 2) (oN : Int) a0) (kN : Int) a1)) 3)) + (flS (sA S 2 (upZ (upZ (S.2.2 2) (oN : Int) a0) (kN : Int) a1)) 4)) + (flS (sA S 2 (upZ (upZ (S.2.2 2) (oN : Int) a0) (kN : Int) a1)) 5))), (12, zi (S.2.2 2 (kN : Int))), (11, zi ((S.2.2 2) (oN : Int))), (10, zi (kN : Int)), (9, zi (oN : Int)), (8, zi 0), (7, zi ((bsS S (svZ kN oN)).2)), (6, zi ((((((0 + (flS S 0)) + (flS S 1)) + (flS S 2)) + (flS S 3)) + (flS S 4)) + (flS S 5))), (5, zi (svZ kN oN)), (4, zi (oN : Int)), (0, .ref (ah 0)), (1, .ref o0), (2, zi (kN : Int)), (3, zi bb)]) hx hb dL_isBest_207 hl (k := 1) rfl (by omega) (by decide) rfl (fun ls hl => ?_)
        refine lv_goto (tgt := 189) hx hb dL_isBest_210 (by decide) ?_
        refine lv_iload hx hb dL_isBest_189 (lv_at hl 0 rfl) ?_
        refine hz_bipush hx hb dL_isBest_191 (by decide) ?_
        refine hz_icmp_ge (tgt := 213) hx hb dL_isBest_193 (by decide) (by omega) (fun _ => ?_) (fun q => by exfalso; omega)
        refine lv_iload hx hb dL_isBest_213 (lv_at hl 6 rfl) ?_
        refine hz_if_ne (tgt := 252) hx hb dL_isBest_215 (by decide) (by omega) (fun q => by exfalso; omega) (fun _ => ?_)
        refine lv_iload hx hb dL_isBest_218 (lv_at hl 1 rfl) ?_
        refine lv_iload hx hb dL_isBest_220 (lv_at hl 7 rfl) ?_
        refine hz_icmp_ne (tgt := 252) hx hb dL_isBest_222 (by decide) (by omega) (fun q => by exfalso; omega) (fun _ => ?_)
        refine lv_aload_n hx hb dL_isBest_225 rfl (lv_at hl 11 rfl) ?_
        refine lv_iload hx hb dL_isBest_226 (lv_at hl 9 rfl) ?_
        refine hz_iconst hx hb dL_isBest_228 ?_
        refine hz_lawL (As := [.ref (ah 0), zi (svZ kN oN), zi (-1)]) (rest := []) ⟨hx, hb, hml, hown, hts⟩ (c_best l hlt G ah mi zE y _ (sF (sB (sA S 2 (upZ (upZ (S.2.2 2) (oN : Int) a0) (kN : Int) a1)) u20) u28.1 u28.2) (svZ kN oN) ((-1) : Int) (fc_F u28.1 u28.2 (fc_B u20 hI22)) hsv (by omega)) (vx_cwSW 3 hts gL_isBest_L_best rfl rfl rfl (by decide +kernel) ⟨Nat.le_of_ble_eq_true rfl, Nat.le_of_ble_eq_true rfl⟩) hP hK hD hS hA hGP hX hGN rfl hl.1 rfl (Nat.le_of_ble_eq_true rfl) dL_isBest_229 ⟨Nat.le_of_ble_eq_true rfl, Nat.le_of_ble_eq_true rfl⟩ (fun r u29 H locs hu hP hD hS => ?_)
        have hu : r = zI (brR (sA S 2 (upZ (upZ (S.2.2 2) (oN : Int) a0) (kN : Int) a1)) (svZ kN oN) ((-1) : Int)) := hu
        subst hu
        have hP : va_P G vwCl (wH ah y (sF (sB (sA S 2 (upZ (upZ (S.2.2 2) (oN : Int) a0) (kN : Int) a1)) u29) u28.1 u28.2) ++ dW o0 y d) H := hP
        have hD : va_D A (wH ah y (sF (sB (sA S 2 (upZ (upZ (S.2.2 2) (oN : Int) a0) (kN : Int) a1)) u29) u28.1 u28.2) ++ dW o0 y d) := hD
        have hbr3 : brR (sA S 2 (upZ (upZ (S.2.2 2) (oN : Int) a0) (kN : Int) a1)) (svZ kN oN) (-1) = (bsS S (svZ kN oN)).2 := by
          have q := brR_3 (S := (sA S 2 (upZ (upZ (S.2.2 2) (oN : Int) a0) (kN : Int) a1))) (sid := (svZ kN oN)) (which := -1) hok (by show -1 ≤ (-1 : Int) ∧ -1 < cntZ (svZ kN oN) (S.2.1 0); rw [hcn]; split <;> omega) (by rw [hsm2]; exact hb1)
          rw [hsm2] at q
          exact q
        refine hz_tope (z2 := (bsS S (svZ kN oN)).2) (by exact hbr3) ?_
        refine lv_iload hx hb dL_isBest_232 (lv_at hl 7 rfl) ?_
        refine hz_icmp_ne (tgt := 252) hx hb dL_isBest_234 (by decide) (by omega) (fun q => by exfalso; omega) (fun _ => ?_)
        refine lv_aload_n hx hb dL_isBest_237 rfl (lv_at hl 11 rfl) ?_
        refine lv_iload hx hb dL_isBest_238 (lv_at hl 9 rfl) ?_
        refine hz_cI (As := [zi (svZ kN oN)]) (rest := []) ⟨hx, hb, hml, hown, hts⟩ (b_bestAnew l hlt G ah zE y _ (sF (sB (sA S 2 (upZ (upZ (S.2.2 2) (oN : Int) a0) (kN : Int) a1)) u29) u28.1 u28.2) (svZ kN oN) (fc_F u28.1 u28.2 (fc_B u29 hI22)) (hsv) (hok) ((by show ¬ (bsS (sA S 2 (upZ (upZ (S.2.2 2) (oN : Int) a0) (kN : Int) a1)) (svZ kN oN)).1 = -1; rw [hsm2]; exact hb1))) (cwV 1 hts gL_isBest_X7_bestAnew rfl rfl rfl (by decide +kernel) ⟨Nat.le_of_ble_eq_true rfl, Nat.le_of_ble_eq_true rfl⟩) hP hK hD hS hA hGP 0 8 rfl rfl rfl rfl hl.1 rfl (Nat.le_of_ble_eq_true rfl) dL_isBest_240 ⟨Nat.le_of_ble_eq_true rfl, Nat.le_of_ble_eq_true rfl⟩ (fun _ => wH_fst rfl rfl rfl) (fun u30 H locs hu hP hD hS => ?_)
        have hP : va_P G vwCl (wH ah y (sF (sB (sA S 2 (upZ (upZ (S.2.2 2) (oN : Int) a0) (kN : Int) a1)) u30) u28.1 u28.2) ++ dW o0 y d) H := hP
        have hD : va_D A (wH ah y (sF (sB (sA S 2 (upZ (upZ (S.2.2 2) (oN : Int) a0) (kN : Int) a1)) u30) u28.1 u28.2) ++ dW o0 y d) := hD
        refine hz_tope (z2 := (bsS S (svZ kN oN)).2) (by exact congrArg Prod.snd hsm2) ?_
        refine lv_iload hx hb dL_isBest_243 (lv_at hl 7 rfl) ?_
        refine hz_icmp_ne (tgt := 252) hx hb dL_isBest_245 (by decide) (by omega) (fun q => by exfalso; omega) (fun _ => ?_)
        refine hz_iconst hx hb dL_isBest_248 ?_
        refine lv_goto (tgt := 253) hx hb dL_isBest_249 (by decide) ?_
        refine lv_istore (lv' := [(14, zi 1), (13, zi ((((((0 + (flS (sA S 2 (upZ (upZ (S.2.2 2) (oN : Int) a0) (kN : Int) a1)) 0)) + (flS (sA S 2 (upZ (upZ (S.2.2 2) (oN : Int) a0) (kN : Int) a1)) 1)) + (flS (sA S 2 (upZ (upZ (S.2.2 2) (oN : Int) a0) (kN : Int) a1)) 2)) + (flS (sA S 2 (upZ (upZ (S.2.2 2) (oN : Int) a0) (kN : Int) a1)) 3)) + (flS (sA S 2 (upZ (upZ (S.2.2 2) (oN : Int) a0) (kN : Int) a1)) 4)) + (flS (sA S 2 (upZ (upZ (S.2.2 2) (oN : Int) a0) (kN : Int) a1)) 5))), (12, zi (S.2.2 2 (kN : Int))), (11, zi ((S.2.2 2) (oN : Int))), (10, zi (kN : Int)), (9, zi (oN : Int)), (8, zi 0), (7, zi ((bsS S (svZ kN oN)).2)), (6, zi ((((((0 + (flS S 0)) + (flS S 1)) + (flS S 2)) + (flS S 3)) + (flS S 4)) + (flS S 5))), (5, zi (svZ kN oN)), (4, zi (oN : Int)), (0, .ref (ah 0)), (1, .ref o0), (2, zi (kN : Int)), (3, zi bb)]) hx hb dL_isBest_253 hl (by decide) rfl (fun ls hl => ?_)
        refine lv_aload_n hx hb dL_isBest_255 rfl (lv_at hl 11 rfl) ?_
        refine lv_iload hx hb dL_isBest_256 (lv_at hl 5 rfl) ?_
        refine lv_iload hx hb dL_isBest_258 (lv_at hl 3 rfl) ?_
        refine hz_cI (As := [zi (oN : Int), zi ((S.2.2 2) (oN : Int))]) (rest := []) ⟨hx, hb, hml, hown, hts⟩ (b_aim l hlt G ah zE y _ (sF (sB (sA S 2 (upZ (upZ (S.2.2 2) (oN : Int) a0) (kN : Int) a1)) u30) u28.1 u28.2) (oN : Int) ((S.2.2 2) (oN : Int)) (fc_F u28.1 u28.2 (fc_B u30 hI22)) (show 0 ≤ (oN : Int) ∧ (oN : Int) < (S.2.1 0) by omega) (show -1 ≤ ((S.2.2 2) (oN : Int)) ∧ ((S.2.2 2) (oN : Int)) ≤ 5 by omega) (show ¬ (S.2.2 5) (oN : Int) = 1 by omega)) (cwV 2 hts gL_isBest_X7_aim rfl rfl rfl (by decide +kernel) ⟨Nat.le_of_ble_eq_true rfl, Nat.le_of_ble_eq_true rfl⟩) hP hK hD hS hA hGP 0 8 rfl rfl rfl rfl hl.1 rfl (Nat.le_of_ble_eq_true rfl) dL_isBest_260 ⟨Nat.le_of_ble_eq_true rfl, Nat.le_of_ble_eq_true rfl⟩ (fun _ => wH_fst rfl rfl rfl) (fun u31 H locs hu hP hD hS => ?_)
        have hI32 : FC zE (sA S 2 (upZ (upZ (upZ (S.2.2 2) (oN : Int) a0) (kN : Int) a1) (oN : Int) ((S.2.2 2) (oN : Int)))) := (fc_aim (oN : Int) ((S.2.2 2) (oN : Int)) hI22 (by omega))
        have hP : va_P G vwCl (wH ah y (sF (sB (sA S 2 (upZ (upZ (upZ (S.2.2 2) (oN : Int) a0) (kN : Int) a1) (oN : Int) ((S.2.2 2) (oN : Int)))) u30) u28.1 u28.2) ++ dW o0 y d) H := hP
        have hD : va_D A (wH ah y (sF (sB (sA S 2 (upZ (upZ (upZ (S.2.2 2) (oN : Int) a0) (kN : Int) a1) (oN : Int) ((S.2.2 2) (oN : Int)))) u30) u28.1 u28.2) ++ dW o0 y d) := hD
        refine hz_tope (z2 := ((upZ (upZ (S.2.2 2) (oN : Int) a0) (kN : Int) a1) (oN : Int))) (by rfl) ?_
        refine lv_pop hx hb dL_isBest_263 rfl ?_
        refine lv_iload hx hb dL_isBest_264 (lv_at hl 5 rfl) ?_
        refine lv_iload hx hb dL_isBest_266 (lv_at hl 4 rfl) ?_
        refine hz_icmp_eq (tgt := 280) hx hb dL_isBest_268 (by decide) (by omega) (fun q => by exfalso; omega) (fun _ => ?_)
        refine lv_aload_n hx hb dL_isBest_271 rfl (lv_at hl 11 rfl) ?_
        refine lv_iload hx hb dL_isBest_272 (lv_at hl 4 rfl) ?_
        refine lv_iload hx hb dL_isBest_274 (lv_at hl 2 rfl) ?_
        refine hz_cI (As := [zi (kN : Int), zi (S.2.2 2 (kN : Int))]) (rest := []) ⟨hx, hb, hml, hown, hts⟩ (b_aim l hlt G ah zE y _ (sF (sB (sA S 2 (upZ (upZ (upZ (S.2.2 2) (oN : Int) a0) (kN : Int) a1) (oN : Int) ((S.2.2 2) (oN : Int)))) u30) u28.1 u28.2) (kN : Int) (S.2.2 2 (kN : Int)) (fc_F u28.1 u28.2 (fc_B u30 hI32)) (show 0 ≤ (kN : Int) ∧ (kN : Int) < (S.2.1 0) by omega) (show -1 ≤ (S.2.2 2 (kN : Int)) ∧ (S.2.2 2 (kN : Int)) ≤ 5 by omega) (show ¬ (S.2.2 5) (kN : Int) = 1 by omega)) (cwV 2 hts gL_isBest_X7_aim rfl rfl rfl (by decide +kernel) ⟨Nat.le_of_ble_eq_true rfl, Nat.le_of_ble_eq_true rfl⟩) hP hK hD hS hA hGP 0 8 rfl rfl rfl rfl hl.1 rfl (Nat.le_of_ble_eq_true rfl) dL_isBest_276 ⟨Nat.le_of_ble_eq_true rfl, Nat.le_of_ble_eq_true rfl⟩ (fun _ => wH_fst rfl rfl rfl) (fun u33 H locs hu hP hD hS => ?_)
        have hI34 : FC zE (sA S 2 (upZ (upZ (upZ (upZ (S.2.2 2) (oN : Int) a0) (kN : Int) a1) (oN : Int) ((S.2.2 2) (oN : Int))) (kN : Int) (S.2.2 2 (kN : Int)))) := (fc_aim (kN : Int) (S.2.2 2 (kN : Int)) hI32 (by omega))
        have hP : va_P G vwCl (wH ah y (sF (sB (sA S 2 (upZ (upZ (upZ (upZ (S.2.2 2) (oN : Int) a0) (kN : Int) a1) (oN : Int) ((S.2.2 2) (oN : Int))) (kN : Int) (S.2.2 2 (kN : Int)))) u30) u28.1 u28.2) ++ dW o0 y d) H := hP
        have hD : va_D A (wH ah y (sF (sB (sA S 2 (upZ (upZ (upZ (upZ (S.2.2 2) (oN : Int) a0) (kN : Int) a1) (oN : Int) ((S.2.2 2) (oN : Int))) (kN : Int) (S.2.2 2 (kN : Int)))) u30) u28.1 u28.2) ++ dW o0 y d) := hD
        refine hz_tope (z2 := ((upZ (upZ (upZ (S.2.2 2) (oN : Int) a0) (kN : Int) a1) (oN : Int) ((S.2.2 2) (oN : Int))) (kN : Int))) (by rfl) ?_
        refine lv_pop hx hb dL_isBest_279 rfl ?_
        refine lv_iload hx hb dL_isBest_280 (lv_at hl 0 rfl) ?_
        refine hz_if_eq (tgt := 303) hx hb dL_isBest_282 (by decide) (by omega) (fun q => by exfalso; omega) (fun _ => ?_)
        have hbk9 : (upZ (upZ (upZ (upZ (S.2.2 2) (oN : Int) a0) (kN : Int) a1) (oN : Int) ((S.2.2 2) (oN : Int))) (kN : Int) (S.2.2 2 (kN : Int))) = S.2.2 2 := by
          funext j
          by_cases z2 : j = (kN : Int)
          · rw [upZ_s z2, z2]
          · rw [upZ_n z2]
            by_cases z1 : j = (oN : Int)
            · rw [upZ_s z1, z1]
            · rw [upZ_n z1, upZ_n z2, upZ_n z1]
        have hsf9 : sfS (sA S 2 (upZ (upZ (upZ (upZ (S.2.2 2) (oN : Int) a0) (kN : Int) a1) (oN : Int) ((S.2.2 2) (oN : Int))) (kN : Int) (S.2.2 2 (kN : Int)))) = sfS S := by
          show sfZ (S.2.1 0) (upZ (upZ (upZ (upZ (S.2.2 2) (oN : Int) a0) (kN : Int) a1) (oN : Int) ((S.2.2 2) (oN : Int))) (kN : Int) (S.2.2 2 (kN : Int))) (S.2.2 3) (S.2.2 4) (ryS S) (S.2.2 12) = sfZ (S.2.1 0) (S.2.2 2) (S.2.2 3) (S.2.2 4) (ryS S) (S.2.2 12)
          rw [hbk9]
        refine lv_aload_n hx hb dL_isBest_285 rfl (lv_at hl 11 rfl) ?_
        refine hz_cI (As := []) (rest := []) ⟨hx, hb, hml, hown, hts⟩ (b_isSafe l G ah zE y _ (sF (sB (sA S 2 (upZ (upZ (upZ (upZ (S.2.2 2) (oN : Int) a0) (kN : Int) a1) (oN : Int) ((S.2.2 2) (oN : Int))) (kN : Int) (S.2.2 2 (kN : Int)))) u30) u28.1 u28.2)  (fc_F u28.1 u28.2 (fc_B u30 hI34)) ) (cwV 0 hts gL_isBest_X7_isSafe rfl rfl rfl (by decide +kernel) ⟨Nat.le_of_ble_eq_true rfl, Nat.le_of_ble_eq_true rfl⟩) hP hK hD hS hA hGP 0 8 rfl rfl rfl rfl hl.1 rfl (Nat.le_of_ble_eq_true rfl) dL_isBest_286 ⟨Nat.le_of_ble_eq_true rfl, Nat.le_of_ble_eq_true rfl⟩ (fun _ => wH_fst rfl rfl rfl) (fun u35 H locs hu hP hD hS => ?_)
        have hP : va_P G vwCl (wH ah y (sF (sB (sA S 2 (upZ (upZ (upZ (upZ (S.2.2 2) (oN : Int) a0) (kN : Int) a1) (oN : Int) ((S.2.2 2) (oN : Int))) (kN : Int) (S.2.2 2 (kN : Int)))) u30) u35.1 u35.2) ++ dW o0 y d) H := hP
        have hD : va_D A (wH ah y (sF (sB (sA S 2 (upZ (upZ (upZ (upZ (S.2.2 2) (oN : Int) a0) (kN : Int) a1) (oN : Int) ((S.2.2 2) (oN : Int))) (kN : Int) (S.2.2 2 (kN : Int)))) u30) u35.1 u35.2) ++ dW o0 y d) := hD
        refine hz_tope (z2 := (sfS S)) (by exact hsf9) ?_
        refine hz_if_eq (tgt := 299) hx hb dL_isBest_289 (by decide) (by omega) (fun c36 => ?_) (fun c36 => ?_)
        · refine hz_iconst hx hb dL_isBest_299 ?_
          refine lv_goto (tgt := 304) hx hb dL_isBest_300 (by decide) ?_
          exact hz_upM (Nat.le_of_ble_eq_true rfl) (Nat.le_of_ble_eq_true rfl) (W.zret (ty := .boolean) (v := zI 1) hx hb hr (zI_nb (by omega)) (fun t ht hW => ⟨⟨zI 1, ((sF (sB (sA S 2 (upZ (upZ (upZ (upZ (S.2.2 2) (oN : Int) a0) (kN : Int) a1) (oN : Int) ((S.2.2 2) (oN : Int))) (kN : Int) (S.2.2 2 (kN : Int)))) u30) u35.1 u35.2), d), rfl, ⟨rfl, (fc_F u35.1 u35.2 (fc_B u30 hI34)), hd, rfl⟩, hz_at2 hP hD ht⟩, hS.F ht⟩) hS.2.2 dL_isBest_304)
        · have qnow := bb_now (k := kN) (o := oN) hI hkn hon (by omega)
          rw [alS6] at qnow
          refine lv_iload hx hb dL_isBest_292 (lv_at hl 7 rfl) ?_
          refine lv_iload hx hb dL_isBest_294 (lv_at hl 8 rfl) ?_
          refine hz_icmp_lt (tgt := 303) hx hb dL_isBest_296 (by decide) (by omega) (fun q => by exfalso; omega) (fun _ => ?_)
          refine hz_iconst hx hb dL_isBest_299 ?_
          refine lv_goto (tgt := 304) hx hb dL_isBest_300 (by decide) ?_
          exact hz_upM (Nat.le_of_ble_eq_true rfl) (Nat.le_of_ble_eq_true rfl) (W.zret (ty := .boolean) (v := zI 1) hx hb hr (zI_nb (by omega)) (fun t ht hW => ⟨⟨zI 1, ((sF (sB (sA S 2 (upZ (upZ (upZ (upZ (S.2.2 2) (oN : Int) a0) (kN : Int) a1) (oN : Int) ((S.2.2 2) (oN : Int))) (kN : Int) (S.2.2 2 (kN : Int)))) u30) u35.1 u35.2), d), rfl, ⟨rfl, (fc_F u35.1 u35.2 (fc_B u30 hI34)), hd, rfl⟩, hz_at2 hP hD ht⟩, hS.F ht⟩) hS.2.2 dL_isBest_304)
      · have hko : kN = oN := by omega
        refine hz_iconst hx hb dL_isBest_164 ?_
        refine lv_goto (tgt := 181) hx hb dL_isBest_165 (by decide) ?_
        refine lv_istore (lv' := [(12, zi (-1)), (11, zi ((S.2.2 2) (oN : Int))), (10, zi (kN : Int)), (9, zi (oN : Int)), (8, zi 0), (7, zi ((bsS S (svZ kN oN)).2)), (6, zi ((((((0 + (flS S 0)) + (flS S 1)) + (flS S 2)) + (flS S 3)) + (flS S 4)) + (flS S 5))), (5, zi (svZ kN oN)), (4, zi (oN : Int)), (0, .ref (ah 0)), (1, .ref o0), (2, zi (kN : Int)), (3, zi bb)]) hx hb dL_isBest_181 hl (by decide) rfl (fun ls hl => ?_)
        have hsm2 : bsS (sA S 2 (upZ (S.2.2 2) (oN : Int) a0)) (svZ kN oN) = bsS S (svZ kN oN) := bb_same hI hkn hon (fun j z1 z2 => upZ_n (by omega))
        have hth : alZ (flS (sA S 2 (upZ (S.2.2 2) (oN : Int) a0))) = (bsS S (svZ kN oN)).2 := bb_then (f := (upZ (S.2.2 2) (oN : Int) a0)) hI hkn hon hb1 (by rw [hmin]; exact (upZ_s rfl).trans ha0) (fun q => absurd hko q) (fun j z1 z2 => upZ_n (by omega))
        rw [alS6] at hth
        have lt := fun p => flS_rng hI18 p
        have t0 := lt 0
        have t1 := lt 1
        have t2 := lt 2
        have t3 := lt 3
        have t4 := lt 4
        have t5 := lt 5
        refine hz_iconst hx hb dL_isBest_183 ?_
        refine lv_istore (lv' := [(13, zi 0), (12, zi (-1)), (11, zi ((S.2.2 2) (oN : Int))), (10, zi (kN : Int)), (9, zi (oN : Int)), (8, zi 0), (7, zi ((bsS S (svZ kN oN)).2)), (6, zi ((((((0 + (flS S 0)) + (flS S 1)) + (flS S 2)) + (flS S 3)) + (flS S 4)) + (flS S 5))), (5, zi (svZ kN oN)), (4, zi (oN : Int)), (0, .ref (ah 0)), (1, .ref o0), (2, zi (kN : Int)), (3, zi bb)]) hx hb dL_isBest_184 hl (by decide) rfl (fun ls hl => ?_)
        refine hz_iconst hx hb dL_isBest_186 ?_
        refine lv_istore (lv' := [(14, zi 0), (13, zi 0), (12, zi (-1)), (11, zi ((S.2.2 2) (oN : Int))), (10, zi (kN : Int)), (9, zi (oN : Int)), (8, zi 0), (7, zi ((bsS S (svZ kN oN)).2)), (6, zi ((((((0 + (flS S 0)) + (flS S 1)) + (flS S 2)) + (flS S 3)) + (flS S 4)) + (flS S 5))), (5, zi (svZ kN oN)), (4, zi (oN : Int)), (0, .ref (ah 0)), (1, .ref o0), (2, zi (kN : Int)), (3, zi bb)]) hx hb dL_isBest_187 hl (by decide) rfl (fun ls hl => ?_)
        refine lv_iload hx hb dL_isBest_189 (lv_at hl 0 rfl) ?_
        refine hz_bipush hx hb dL_isBest_191 (by decide) ?_
        refine hz_icmp_ge (tgt := 213) hx hb dL_isBest_193 (by decide) (by omega) (fun q => by exfalso; omega) (fun _ => ?_)
        refine lv_iload hx hb dL_isBest_196 (lv_at hl 1 rfl) ?_
        refine lv_aload_n hx hb dL_isBest_198 rfl (lv_at hl 11 rfl) ?_
        refine lv_iload hx hb dL_isBest_199 (lv_at hl 0 rfl) ?_
        refine hz_cI (As := [zi 0]) (rest := [zi 0]) ⟨hx, hb, hml, hown, hts⟩ (b_flux l hlt G ah zE y _ (sF (sB (sA S 2 (upZ (S.2.2 2) (oN : Int) a0)) u16) u6.1 u6.2) (0 : Int) (fc_F u6.1 u6.2 (fc_B u16 hI18)) (show 0 ≤ (0 : Int) ∧ (0 : Int) ≤ 5 by omega)) (cwV 1 hts gL_isBest_X7_flux rfl rfl rfl (by decide +kernel) ⟨Nat.le_of_ble_eq_true rfl, Nat.le_of_ble_eq_true rfl⟩) hP hK hD hS hA hGP 0 8 rfl rfl rfl rfl hl.1 rfl (Nat.le_of_ble_eq_true rfl) dL_isBest_201 ⟨Nat.le_of_ble_eq_true rfl, Nat.le_of_ble_eq_true rfl⟩ (fun _ => wH_fst rfl rfl rfl) (fun u37 H locs hu hP hD hS => ?_)
        have hP : va_P G vwCl (wH ah y (sF (sB (sA S 2 (upZ (S.2.2 2) (oN : Int) a0)) u16) u37.1 u37.2) ++ dW o0 y d) H := hP
        have hD : va_D A (wH ah y (sF (sB (sA S 2 (upZ (S.2.2 2) (oN : Int) a0)) u16) u37.1 u37.2) ++ dW o0 y d) := hD
        refine hz_tope (z2 := (flS (sA S 2 (upZ (S.2.2 2) (oN : Int) a0)) 0)) (by rfl) ?_
        refine hz_iadd hx hb dL_isBest_204 ?_
        refine lv_istore (lv' := [(13, zi (0 + (flS (sA S 2 (upZ (S.2.2 2) (oN : Int) a0)) 0))), (14, zi 0), (12, zi (-1)), (11, zi ((S.2.2 2) (oN : Int))), (10, zi (kN : Int)), (9, zi (oN : Int)), (8, zi 0), (7, zi ((bsS S (svZ kN oN)).2)), (6, zi ((((((0 + (flS S 0)) + (flS S 1)) + (flS S 2)) + (flS S 3)) + (flS S 4)) + (flS S 5))), (5, zi (svZ kN oN)), (4, zi (oN : Int)), (0, .ref (ah 0)), (1, .ref o0), (2, zi (kN : Int)), (3, zi bb)]) hx hb dL_isBest_205 hl (by decide) rfl (fun ls hl => ?_)
        refine hz_iinc (v := 1) (lv' := [(14, zi 1), (13, zi (0 + (flS (sA S 2 (upZ (S.2.2 2) (oN : Int) a0)) 0))), (12, zi (-1)), (11, zi ((S.2.2 2) (oN : Int))), (10, zi (kN : Int)), (9, zi (oN : Int)), (8, zi 0), (7, zi ((bsS S (svZ kN oN)).2)), (6, zi ((((((0 + (flS S 0)) + (flS S 1)) + (flS S 2)) + (flS S 3)) + (flS S 4)) + (flS S 5))), (5, zi (svZ kN oN)), (4, zi (oN : Int)), (0, .ref (ah 0)), (1, .ref o0), (2, zi (kN : Int)), (3, zi bb)]) hx hb dL_isBest_207 hl (k := 1) rfl (by omega) (by decide) rfl (fun ls hl => ?_)
        refine lv_goto (tgt := 189) hx hb dL_isBest_210 (by decide) ?_
        refine lv_iload hx hb dL_isBest_189 (lv_at hl 0 rfl) ?_
        refine hz_bipush hx hb dL_isBest_191 (by decide) ?_
        refine hz_icmp_ge (tgt := 213) hx hb dL_isBest_193 (by decide) (by omega) (fun q => by exfalso; omega) (fun _ => ?_)
        refine lv_iload hx hb dL_isBest_196 (lv_at hl 1 rfl) ?_
        refine lv_aload_n hx hb dL_isBest_198 rfl (lv_at hl 11 rfl) ?_
        refine lv_iload hx hb dL_isBest_199 (lv_at hl 0 rfl) ?_
        refine hz_cI (As := [zi 1]) (rest := [zi (0 + (flS (sA S 2 (upZ (S.2.2 2) (oN : Int) a0)) 0))]) ⟨hx, hb, hml, hown, hts⟩ (b_flux l hlt G ah zE y _ (sF (sB (sA S 2 (upZ (S.2.2 2) (oN : Int) a0)) u16) u37.1 u37.2) (1 : Int) (fc_F u37.1 u37.2 (fc_B u16 hI18)) (show 0 ≤ (1 : Int) ∧ (1 : Int) ≤ 5 by omega)) (cwV 1 hts gL_isBest_X7_flux rfl rfl rfl (by decide +kernel) ⟨Nat.le_of_ble_eq_true rfl, Nat.le_of_ble_eq_true rfl⟩) hP hK hD hS hA hGP 0 8 rfl rfl rfl rfl hl.1 rfl (Nat.le_of_ble_eq_true rfl) dL_isBest_201 ⟨Nat.le_of_ble_eq_true rfl, Nat.le_of_ble_eq_true rfl⟩ (fun _ => wH_fst rfl rfl rfl) (fun u38 H locs hu hP hD hS => ?_)
        have hP : va_P G vwCl (wH ah y (sF (sB (sA S 2 (upZ (S.2.2 2) (oN : Int) a0)) u16) u38.1 u38.2) ++ dW o0 y d) H := hP
        have hD : va_D A (wH ah y (sF (sB (sA S 2 (upZ (S.2.2 2) (oN : Int) a0)) u16) u38.1 u38.2) ++ dW o0 y d) := hD
        refine hz_tope (z2 := (flS (sA S 2 (upZ (S.2.2 2) (oN : Int) a0)) 1)) (by rfl) ?_
        refine hz_iadd hx hb dL_isBest_204 ?_
        refine lv_istore (lv' := [(13, zi ((0 + (flS (sA S 2 (upZ (S.2.2 2) (oN : Int) a0)) 0)) + (flS (sA S 2 (upZ (S.2.2 2) (oN : Int) a0)) 1))), (14, zi 1), (12, zi (-1)), (11, zi ((S.2.2 2) (oN : Int))), (10, zi (kN : Int)), (9, zi (oN : Int)), (8, zi 0), (7, zi ((bsS S (svZ kN oN)).2)), (6, zi ((((((0 + (flS S 0)) + (flS S 1)) + (flS S 2)) + (flS S 3)) + (flS S 4)) + (flS S 5))), (5, zi (svZ kN oN)), (4, zi (oN : Int)), (0, .ref (ah 0)), (1, .ref o0), (2, zi (kN : Int)), (3, zi bb)]) hx hb dL_isBest_205 hl (by decide) rfl (fun ls hl => ?_)
        refine hz_iinc (v := 2) (lv' := [(14, zi 2), (13, zi ((0 + (flS (sA S 2 (upZ (S.2.2 2) (oN : Int) a0)) 0)) + (flS (sA S 2 (upZ (S.2.2 2) (oN : Int) a0)) 1))), (12, zi (-1)), (11, zi ((S.2.2 2) (oN : Int))), (10, zi (kN : Int)), (9, zi (oN : Int)), (8, zi 0), (7, zi ((bsS S (svZ kN oN)).2)), (6, zi ((((((0 + (flS S 0)) + (flS S 1)) + (flS S 2)) + (flS S 3)) + (flS S 4)) + (flS S 5))), (5, zi (svZ kN oN)), (4, zi (oN : Int)), (0, .ref (ah 0)), (1, .ref o0), (2, zi (kN : Int)), (3, zi bb)]) hx hb dL_isBest_207 hl (k := 1) rfl (by omega) (by decide) rfl (fun ls hl => ?_)
        refine lv_goto (tgt := 189) hx hb dL_isBest_210 (by decide) ?_
        refine lv_iload hx hb dL_isBest_189 (lv_at hl 0 rfl) ?_
        refine hz_bipush hx hb dL_isBest_191 (by decide) ?_
        refine hz_icmp_ge (tgt := 213) hx hb dL_isBest_193 (by decide) (by omega) (fun q => by exfalso; omega) (fun _ => ?_)
        refine lv_iload hx hb dL_isBest_196 (lv_at hl 1 rfl) ?_
        refine lv_aload_n hx hb dL_isBest_198 rfl (lv_at hl 11 rfl) ?_
        refine lv_iload hx hb dL_isBest_199 (lv_at hl 0 rfl) ?_
        refine hz_cI (As := [zi 2]) (rest := [zi ((0 + (flS (sA S 2 (upZ (S.2.2 2) (oN : Int) a0)) 0)) + (flS (sA S 2 (upZ (S.2.2 2) (oN : Int) a0)) 1))]) ⟨hx, hb, hml, hown, hts⟩ (b_flux l hlt G ah zE y _ (sF (sB (sA S 2 (upZ (S.2.2 2) (oN : Int) a0)) u16) u38.1 u38.2) (2 : Int) (fc_F u38.1 u38.2 (fc_B u16 hI18)) (show 0 ≤ (2 : Int) ∧ (2 : Int) ≤ 5 by omega)) (cwV 1 hts gL_isBest_X7_flux rfl rfl rfl (by decide +kernel) ⟨Nat.le_of_ble_eq_true rfl, Nat.le_of_ble_eq_true rfl⟩) hP hK hD hS hA hGP 0 8 rfl rfl rfl rfl hl.1 rfl (Nat.le_of_ble_eq_true rfl) dL_isBest_201 ⟨Nat.le_of_ble_eq_true rfl, Nat.le_of_ble_eq_true rfl⟩ (fun _ => wH_fst rfl rfl rfl) (fun u39 H locs hu hP hD hS => ?_)
        have hP : va_P G vwCl (wH ah y (sF (sB (sA S 2 (upZ (S.2.2 2) (oN : Int) a0)) u16) u39.1 u39.2) ++ dW o0 y d) H := hP
        have hD : va_D A (wH ah y (sF (sB (sA S 2 (upZ (S.2.2 2) (oN : Int) a0)) u16) u39.1 u39.2) ++ dW o0 y d) := hD
        refine hz_tope (z2 := (flS (sA S 2 (upZ (S.2.2 2) (oN : Int) a0)) 2)) (by rfl) ?_
        refine hz_iadd hx hb dL_isBest_204 ?_
        refine lv_istore (lv' := [(13, zi (((0 + (flS (sA S 2 (upZ (S.2.2 2) (oN : Int) a0)) 0)) + (flS (sA S 2 (upZ (S.2.2 2) (oN : Int) a0)) 1)) + (flS (sA S 2 (upZ (S.2.2 2) (oN : Int) a0)) 2))), (14, zi 2), (12, zi (-1)), (11, zi ((S.2.2 2) (oN : Int))), (10, zi (kN : Int)), (9, zi (oN : Int)), (8, zi 0), (7, zi ((bsS S (svZ kN oN)).2)), (6, zi ((((((0 + (flS S 0)) + (flS S 1)) + (flS S 2)) + (flS S 3)) + (flS S 4)) + (flS S 5))), (5, zi (svZ kN oN)), (4, zi (oN : Int)), (0, .ref (ah 0)), (1, .ref o0), (2, zi (kN : Int)), (3, zi bb)]) hx hb dL_isBest_205 hl (by decide) rfl (fun ls hl => ?_)
        refine hz_iinc (v := 3) (lv' := [(14, zi 3), (13, zi (((0 + (flS (sA S 2 (upZ (S.2.2 2) (oN : Int) a0)) 0)) + (flS (sA S 2 (upZ (S.2.2 2) (oN : Int) a0)) 1)) + (flS (sA S 2 (upZ (S.2.2 2) (oN : Int) a0)) 2))), (12, zi (-1)), (11, zi ((S.2.2 2) (oN : Int))), (10, zi (kN : Int)), (9, zi (oN : Int)), (8, zi 0), (7, zi ((bsS S (svZ kN oN)).2)), (6, zi ((((((0 + (flS S 0)) + (flS S 1)) + (flS S 2)) + (flS S 3)) + (flS S 4)) + (flS S 5))), (5, zi (svZ kN oN)), (4, zi (oN : Int)), (0, .ref (ah 0)), (1, .ref o0), (2, zi (kN : Int)), (3, zi bb)]) hx hb dL_isBest_207 hl (k := 1) rfl (by omega) (by decide) rfl (fun ls hl => ?_)
        refine lv_goto (tgt := 189) hx hb dL_isBest_210 (by decide) ?_
        refine lv_iload hx hb dL_isBest_189 (lv_at hl 0 rfl) ?_
        refine hz_bipush hx hb dL_isBest_191 (by decide) ?_
        refine hz_icmp_ge (tgt := 213) hx hb dL_isBest_193 (by decide) (by omega) (fun q => by exfalso; omega) (fun _ => ?_)
        refine lv_iload hx hb dL_isBest_196 (lv_at hl 1 rfl) ?_
        refine lv_aload_n hx hb dL_isBest_198 rfl (lv_at hl 11 rfl) ?_
        refine lv_iload hx hb dL_isBest_199 (lv_at hl 0 rfl) ?_
        refine hz_cI (As := [zi 3]) (rest := [zi (((0 + (flS (sA S 2 (upZ (S.2.2 2) (oN : Int) a0)) 0)) + (flS (sA S 2 (upZ (S.2.2 2) (oN : Int) a0)) 1)) + (flS (sA S 2 (upZ (S.2.2 2) (oN : Int) a0)) 2))]) ⟨hx, hb, hml, hown, hts⟩ (b_flux l hlt G ah zE y _ (sF (sB (sA S 2 (upZ (S.2.2 2) (oN : Int) a0)) u16) u39.1 u39.2) (3 : Int) (fc_F u39.1 u39.2 (fc_B u16 hI18)) (show 0 ≤ (3 : Int) ∧ (3 : Int) ≤ 5 by omega)) (cwV 1 hts gL_isBest_X7_flux rfl rfl rfl (by decide +kernel) ⟨Nat.le_of_ble_eq_true rfl, Nat.le_of_ble_eq_true rfl⟩) hP hK hD hS hA hGP 0 8 rfl rfl rfl rfl hl.1 rfl (Nat.le_of_ble_eq_true rfl) dL_isBest_201 ⟨Nat.le_of_ble_eq_true rfl, Nat.le_of_ble_eq_true rfl⟩ (fun _ => wH_fst rfl rfl rfl) (fun u40 H locs hu hP hD hS => ?_)
        have hP : va_P G vwCl (wH ah y (sF (sB (sA S 2 (upZ (S.2.2 2) (oN : Int) a0)) u16) u40.1 u40.2) ++ dW o0 y d) H := hP
        have hD : va_D A (wH ah y (sF (sB (sA S 2 (upZ (S.2.2 2) (oN : Int) a0)) u16) u40.1 u40.2) ++ dW o0 y d) := hD
        refine hz_tope (z2 := (flS (sA S 2 (upZ (S.2.2 2) (oN : Int) a0)) 3)) (by rfl) ?_
        refine hz_iadd hx hb dL_isBest_204 ?_
        refine lv_istore (lv' := [(13, zi ((((0 + (flS (sA S 2 (upZ (S.2.2 2) (oN : Int) a0)) 0)) + (flS (sA S 2 (upZ (S.2.2 2) (oN : Int) a0)) 1)) + (flS (sA S 2 (upZ (S.2.2 2) (oN : Int) a0)) 2)) + (flS (sA S 2 (upZ (S.2.2 2) (oN : Int) a0)) 3))), (14, zi 3), (12, zi (-1)), (11, zi ((S.2.2 2) (oN : Int))), (10, zi (kN : Int)), (9, zi (oN : Int)), (8, zi 0), (7, zi ((bsS S (svZ kN oN)).2)), (6, zi ((((((0 + (flS S 0)) + (flS S 1)) + (flS S 2)) + (flS S 3)) + (flS S 4)) + (flS S 5))), (5, zi (svZ kN oN)), (4, zi (oN : Int)), (0, .ref (ah 0)), (1, .ref o0), (2, zi (kN : Int)), (3, zi bb)]) hx hb dL_isBest_205 hl (by decide) rfl (fun ls hl => ?_)
        refine hz_iinc (v := 4) (lv' := [(14, zi 4), (13, zi ((((0 + (flS (sA S 2 (upZ (S.2.2 2) (oN : Int) a0)) 0)) + (flS (sA S 2 (upZ (S.2.2 2) (oN : Int) a0)) 1)) + (flS (sA S 2 (upZ (S.2.2 2) (oN : Int) a0)) 2)) + (flS (sA S 2 (upZ (S.2.2 2) (oN : Int) a0)) 3))), (12, zi (-1)), (11, zi ((S.2.2 2) (oN : Int))), (10, zi (kN : Int)), (9, zi (oN : Int)), (8, zi 0), (7, zi ((bsS S (svZ kN oN)).2)), (6, zi ((((((0 + (flS S 0)) + (flS S 1)) + (flS S 2)) + (flS S 3)) + (flS S 4)) + (flS S 5))), (5, zi (svZ kN oN)), (4, zi (oN : Int)), (0, .ref (ah 0)), (1, .ref o0), (2, zi (kN : Int)), (3, zi bb)]) hx hb dL_isBest_207 hl (k := 1) rfl (by omega) (by decide) rfl (fun ls hl => ?_)
        refine lv_goto (tgt := 189) hx hb dL_isBest_210 (by decide) ?_
        refine lv_iload hx hb dL_isBest_189 (lv_at hl 0 rfl) ?_
        refine hz_bipush hx hb dL_isBest_191 (by decide) ?_
        refine hz_icmp_ge (tgt := 213) hx hb dL_isBest_193 (by decide) (by omega) (fun q => by exfalso; omega) (fun _ => ?_)
        refine lv_iload hx hb dL_isBest_196 (lv_at hl 1 rfl) ?_
        refine lv_aload_n hx hb dL_isBest_198 rfl (lv_at hl 11 rfl) ?_
        refine lv_iload hx hb dL_isBest_199 (lv_at hl 0 rfl) ?_
        refine hz_cI (As := [zi 4]) (rest := [zi ((((0 + (flS (sA S 2 (upZ (S.2.2 2) (oN : Int) a0)) 0)) + (flS (sA S 2 (upZ (S.2.2 2) (oN : Int) a0)) 1)) + (flS (sA S 2 (upZ (S.2.2 2) (oN : Int) a0)) 2)) + (flS (sA S 2 (upZ (S.2.2 2) (oN : Int) a0)) 3))]) ⟨hx, hb, hml, hown, hts⟩ (b_flux l hlt G ah zE y _ (sF (sB (sA S 2 (upZ (S.2.2 2) (oN : Int) a0)) u16) u40.1 u40.2) (4 : Int) (fc_F u40.1 u40.2 (fc_B u16 hI18)) (show 0 ≤ (4 : Int) ∧ (4 : Int) ≤ 5 by omega)) (cwV 1 hts gL_isBest_X7_flux rfl rfl rfl (by decide +kernel) ⟨Nat.le_of_ble_eq_true rfl, Nat.le_of_ble_eq_true rfl⟩) hP hK hD hS hA hGP 0 8 rfl rfl rfl rfl hl.1 rfl (Nat.le_of_ble_eq_true rfl) dL_isBest_201 ⟨Nat.le_of_ble_eq_true rfl, Nat.le_of_ble_eq_true rfl⟩ (fun _ => wH_fst rfl rfl rfl) (fun u41 H locs hu hP hD hS => ?_)
        have hP : va_P G vwCl (wH ah y (sF (sB (sA S 2 (upZ (S.2.2 2) (oN : Int) a0)) u16) u41.1 u41.2) ++ dW o0 y d) H := hP
        have hD : va_D A (wH ah y (sF (sB (sA S 2 (upZ (S.2.2 2) (oN : Int) a0)) u16) u41.1 u41.2) ++ dW o0 y d) := hD
        refine hz_tope (z2 := (flS (sA S 2 (upZ (S.2.2 2) (oN : Int) a0)) 4)) (by rfl) ?_
        refine hz_iadd hx hb dL_isBest_204 ?_
        refine lv_istore (lv' := [(13, zi (((((0 + (flS (sA S 2 (upZ (S.2.2 2) (oN : Int) a0)) 0)) + (flS (sA S 2 (upZ (S.2.2 2) (oN : Int) a0)) 1)) + (flS (sA S 2 (upZ (S.2.2 2) (oN : Int) a0)) 2)) + (flS (sA S 2 (upZ (S.2.2 2) (oN : Int) a0)) 3)) + (flS (sA S 2 (upZ (S.2.2 2) (oN : Int) a0)) 4))), (14, zi 4), (12, zi (-1)), (11, zi ((S.2.2 2) (oN : Int))), (10, zi (kN : Int)), (9, zi (oN : Int)), (8, zi 0), (7, zi ((bsS S (svZ kN oN)).2)), (6, zi ((((((0 + (flS S 0)) + (flS S 1)) + (flS S 2)) + (flS S 3)) + (flS S 4)) + (flS S 5))), (5, zi (svZ kN oN)), (4, zi (oN : Int)), (0, .ref (ah 0)), (1, .ref o0), (2, zi (kN : Int)), (3, zi bb)]) hx hb dL_isBest_205 hl (by decide) rfl (fun ls hl => ?_)
        refine hz_iinc (v := 5) (lv' := [(14, zi 5), (13, zi (((((0 + (flS (sA S 2 (upZ (S.2.2 2) (oN : Int) a0)) 0)) + (flS (sA S 2 (upZ (S.2.2 2) (oN : Int) a0)) 1)) + (flS (sA S 2 (upZ (S.2.2 2) (oN : Int) a0)) 2)) + (flS (sA S 2 (upZ (S.2.2 2) (oN : Int) a0)) 3)) + (flS (sA S 2 (upZ (S.2.2 2) (oN : Int) a0)) 4))), (12, zi (-1)), (11, zi ((S.2.2 2) (oN : Int))), (10, zi (kN : Int)), (9, zi (oN : Int)), (8, zi 0), (7, zi ((bsS S (svZ kN oN)).2)), (6, zi ((((((0 + (flS S 0)) + (flS S 1)) + (flS S 2)) + (flS S 3)) + (flS S 4)) + (flS S 5))), (5, zi (svZ kN oN)), (4, zi (oN : Int)), (0, .ref (ah 0)), (1, .ref o0), (2, zi (kN : Int)), (3, zi bb)]) hx hb dL_isBest_207 hl (k := 1) rfl (by omega) (by decide) rfl (fun ls hl => ?_)
        refine lv_goto (tgt := 189) hx hb dL_isBest_210 (by decide) ?_
        refine lv_iload hx hb dL_isBest_189 (lv_at hl 0 rfl) ?_
        refine hz_bipush hx hb dL_isBest_191 (by decide) ?_
        refine hz_icmp_ge (tgt := 213) hx hb dL_isBest_193 (by decide) (by omega) (fun q => by exfalso; omega) (fun _ => ?_)
        refine lv_iload hx hb dL_isBest_196 (lv_at hl 1 rfl) ?_
        refine lv_aload_n hx hb dL_isBest_198 rfl (lv_at hl 11 rfl) ?_
        refine lv_iload hx hb dL_isBest_199 (lv_at hl 0 rfl) ?_
        refine hz_cI (As := [zi 5]) (rest := [zi (((((0 + (flS (sA S 2 (upZ (S.2.2 2) (oN : Int) a0)) 0)) + (flS (sA S 2 (upZ (S.2.2 2) (oN : Int) a0)) 1)) + (flS (sA S 2 (upZ (S.2.2 2) (oN : Int) a0)) 2)) + (flS (sA S 2 (upZ (S.2.2 2) (oN : Int) a0)) 3)) + (flS (sA S 2 (upZ (S.2.2 2) (oN : Int) a0)) 4))]) ⟨hx, hb, hml, hown, hts⟩ (b_flux l hlt G ah zE y _ (sF (sB (sA S 2 (upZ (S.2.2 2) (oN : Int) a0)) u16) u41.1 u41.2) (5 : Int) (fc_F u41.1 u41.2 (fc_B u16 hI18)) (show 0 ≤ (5 : Int) ∧ (5 : Int) ≤ 5 by omega)) (cwV 1 hts gL_isBest_X7_flux rfl rfl rfl (by decide +kernel) ⟨Nat.le_of_ble_eq_true rfl, Nat.le_of_ble_eq_true rfl⟩) hP hK hD hS hA hGP 0 8 rfl rfl rfl rfl hl.1 rfl (Nat.le_of_ble_eq_true rfl) dL_isBest_201 ⟨Nat.le_of_ble_eq_true rfl, Nat.le_of_ble_eq_true rfl⟩ (fun _ => wH_fst rfl rfl rfl) (fun u42 H locs hu hP hD hS => ?_)
        have hP : va_P G vwCl (wH ah y (sF (sB (sA S 2 (upZ (S.2.2 2) (oN : Int) a0)) u16) u42.1 u42.2) ++ dW o0 y d) H := hP
        have hD : va_D A (wH ah y (sF (sB (sA S 2 (upZ (S.2.2 2) (oN : Int) a0)) u16) u42.1 u42.2) ++ dW o0 y d) := hD
        refine hz_tope (z2 := (flS (sA S 2 (upZ (S.2.2 2) (oN : Int) a0)) 5)) (by rfl) ?_
        refine hz_iadd hx hb dL_isBest_204 ?_
        refine lv_istore (lv' := [(13, zi ((((((0 + (flS (sA S 2 (upZ (S.2.2 2) (oN : Int) a0)) 0)) + (flS (sA S 2 (upZ (S.2.2 2) (oN : Int) a0)) 1)) + (flS (sA S 2 (upZ (S.2.2 2) (oN : Int) a0)) 2)) + (flS (sA S 2 (upZ (S.2.2 2) (oN : Int) a0)) 3)) + (flS (sA S 2 (upZ (S.2.2 2) (oN : Int) a0)) 4)) + (flS (sA S 2 (upZ (S.2.2 2) (oN : Int) a0)) 5))), (14, zi 5), (12, zi (-1)), (11, zi ((S.2.2 2) (oN : Int))), (10, zi (kN : Int)), (9, zi (oN : Int)), (8, zi 0), (7, zi ((bsS S (svZ kN oN)).2)), (6, zi ((((((0 + (flS S 0)) + (flS S 1)) + (flS S 2)) + (flS S 3)) + (flS S 4)) + (flS S 5))), (5, zi (svZ kN oN)), (4, zi (oN : Int)), (0, .ref (ah 0)), (1, .ref o0), (2, zi (kN : Int)), (3, zi bb)]) hx hb dL_isBest_205 hl (by decide) rfl (fun ls hl => ?_)
        refine hz_iinc (v := 6) (lv' := [(14, zi 6), (13, zi ((((((0 + (flS (sA S 2 (upZ (S.2.2 2) (oN : Int) a0)) 0)) + (flS (sA S 2 (upZ (S.2.2 2) (oN : Int) a0)) 1)) + (flS (sA S 2 (upZ (S.2.2 2) (oN : Int) a0)) 2)) + (flS (sA S 2 (upZ (S.2.2 2) (oN : Int) a0)) 3)) + (flS (sA S 2 (upZ (S.2.2 2) (oN : Int) a0)) 4)) + (flS (sA S 2 (upZ (S.2.2 2) (oN : Int) a0)) 5))), (12, zi (-1)), (11, zi ((S.2.2 2) (oN : Int))), (10, zi (kN : Int)), (9, zi (oN : Int)), (8, zi 0), (7, zi ((bsS S (svZ kN oN)).2)), (6, zi ((((((0 + (flS S 0)) + (flS S 1)) + (flS S 2)) + (flS S 3)) + (flS S 4)) + (flS S 5))), (5, zi (svZ kN oN)), (4, zi (oN : Int)), (0, .ref (ah 0)), (1, .ref o0), (2, zi (kN : Int)), (3, zi bb)]) hx hb dL_isBest_207 hl (k := 1) rfl (by omega) (by decide) rfl (fun ls hl => ?_)
        refine lv_goto (tgt := 189) hx hb dL_isBest_210 (by decide) ?_
        refine lv_iload hx hb dL_isBest_189 (lv_at hl 0 rfl) ?_
        refine hz_bipush hx hb dL_isBest_191 (by decide) ?_
        refine hz_icmp_ge (tgt := 213) hx hb dL_isBest_193 (by decide) (by omega) (fun _ => ?_) (fun q => by exfalso; omega)
        refine lv_iload hx hb dL_isBest_213 (lv_at hl 6 rfl) ?_
        refine hz_if_ne (tgt := 252) hx hb dL_isBest_215 (by decide) (by omega) (fun q => by exfalso; omega) (fun _ => ?_)
        refine lv_iload hx hb dL_isBest_218 (lv_at hl 1 rfl) ?_
        refine lv_iload hx hb dL_isBest_220 (lv_at hl 7 rfl) ?_
        refine hz_icmp_ne (tgt := 252) hx hb dL_isBest_222 (by decide) (by omega) (fun q => by exfalso; omega) (fun _ => ?_)
        refine lv_aload_n hx hb dL_isBest_225 rfl (lv_at hl 11 rfl) ?_
        refine lv_iload hx hb dL_isBest_226 (lv_at hl 9 rfl) ?_
        refine hz_iconst hx hb dL_isBest_228 ?_
        refine hz_lawL (As := [.ref (ah 0), zi (svZ kN oN), zi (-1)]) (rest := []) ⟨hx, hb, hml, hown, hts⟩ (c_best l hlt G ah mi zE y _ (sF (sB (sA S 2 (upZ (S.2.2 2) (oN : Int) a0)) u16) u42.1 u42.2) (svZ kN oN) ((-1) : Int) (fc_F u42.1 u42.2 (fc_B u16 hI18)) hsv (by omega)) (vx_cwSW 3 hts gL_isBest_L_best rfl rfl rfl (by decide +kernel) ⟨Nat.le_of_ble_eq_true rfl, Nat.le_of_ble_eq_true rfl⟩) hP hK hD hS hA hGP hX hGN rfl hl.1 rfl (Nat.le_of_ble_eq_true rfl) dL_isBest_229 ⟨Nat.le_of_ble_eq_true rfl, Nat.le_of_ble_eq_true rfl⟩ (fun r u43 H locs hu hP hD hS => ?_)
        have hu : r = zI (brR (sA S 2 (upZ (S.2.2 2) (oN : Int) a0)) (svZ kN oN) ((-1) : Int)) := hu
        subst hu
        have hP : va_P G vwCl (wH ah y (sF (sB (sA S 2 (upZ (S.2.2 2) (oN : Int) a0)) u43) u42.1 u42.2) ++ dW o0 y d) H := hP
        have hD : va_D A (wH ah y (sF (sB (sA S 2 (upZ (S.2.2 2) (oN : Int) a0)) u43) u42.1 u42.2) ++ dW o0 y d) := hD
        have hbr3 : brR (sA S 2 (upZ (S.2.2 2) (oN : Int) a0)) (svZ kN oN) (-1) = (bsS S (svZ kN oN)).2 := by
          have q := brR_3 (S := (sA S 2 (upZ (S.2.2 2) (oN : Int) a0))) (sid := (svZ kN oN)) (which := -1) hok (by show -1 ≤ (-1 : Int) ∧ -1 < cntZ (svZ kN oN) (S.2.1 0); rw [hcn]; split <;> omega) (by rw [hsm2]; exact hb1)
          rw [hsm2] at q
          exact q
        refine hz_tope (z2 := (bsS S (svZ kN oN)).2) (by exact hbr3) ?_
        refine lv_iload hx hb dL_isBest_232 (lv_at hl 7 rfl) ?_
        refine hz_icmp_ne (tgt := 252) hx hb dL_isBest_234 (by decide) (by omega) (fun q => by exfalso; omega) (fun _ => ?_)
        refine lv_aload_n hx hb dL_isBest_237 rfl (lv_at hl 11 rfl) ?_
        refine lv_iload hx hb dL_isBest_238 (lv_at hl 9 rfl) ?_
        refine hz_cI (As := [zi (svZ kN oN)]) (rest := []) ⟨hx, hb, hml, hown, hts⟩ (b_bestAnew l hlt G ah zE y _ (sF (sB (sA S 2 (upZ (S.2.2 2) (oN : Int) a0)) u43) u42.1 u42.2) (svZ kN oN) (fc_F u42.1 u42.2 (fc_B u43 hI18)) (hsv) (hok) ((by show ¬ (bsS (sA S 2 (upZ (S.2.2 2) (oN : Int) a0)) (svZ kN oN)).1 = -1; rw [hsm2]; exact hb1))) (cwV 1 hts gL_isBest_X7_bestAnew rfl rfl rfl (by decide +kernel) ⟨Nat.le_of_ble_eq_true rfl, Nat.le_of_ble_eq_true rfl⟩) hP hK hD hS hA hGP 0 8 rfl rfl rfl rfl hl.1 rfl (Nat.le_of_ble_eq_true rfl) dL_isBest_240 ⟨Nat.le_of_ble_eq_true rfl, Nat.le_of_ble_eq_true rfl⟩ (fun _ => wH_fst rfl rfl rfl) (fun u44 H locs hu hP hD hS => ?_)
        have hP : va_P G vwCl (wH ah y (sF (sB (sA S 2 (upZ (S.2.2 2) (oN : Int) a0)) u44) u42.1 u42.2) ++ dW o0 y d) H := hP
        have hD : va_D A (wH ah y (sF (sB (sA S 2 (upZ (S.2.2 2) (oN : Int) a0)) u44) u42.1 u42.2) ++ dW o0 y d) := hD
        refine hz_tope (z2 := (bsS S (svZ kN oN)).2) (by exact congrArg Prod.snd hsm2) ?_
        refine lv_iload hx hb dL_isBest_243 (lv_at hl 7 rfl) ?_
        refine hz_icmp_ne (tgt := 252) hx hb dL_isBest_245 (by decide) (by omega) (fun q => by exfalso; omega) (fun _ => ?_)
        refine hz_iconst hx hb dL_isBest_248 ?_
        refine lv_goto (tgt := 253) hx hb dL_isBest_249 (by decide) ?_
        refine lv_istore (lv' := [(14, zi 1), (13, zi ((((((0 + (flS (sA S 2 (upZ (S.2.2 2) (oN : Int) a0)) 0)) + (flS (sA S 2 (upZ (S.2.2 2) (oN : Int) a0)) 1)) + (flS (sA S 2 (upZ (S.2.2 2) (oN : Int) a0)) 2)) + (flS (sA S 2 (upZ (S.2.2 2) (oN : Int) a0)) 3)) + (flS (sA S 2 (upZ (S.2.2 2) (oN : Int) a0)) 4)) + (flS (sA S 2 (upZ (S.2.2 2) (oN : Int) a0)) 5))), (12, zi (-1)), (11, zi ((S.2.2 2) (oN : Int))), (10, zi (kN : Int)), (9, zi (oN : Int)), (8, zi 0), (7, zi ((bsS S (svZ kN oN)).2)), (6, zi ((((((0 + (flS S 0)) + (flS S 1)) + (flS S 2)) + (flS S 3)) + (flS S 4)) + (flS S 5))), (5, zi (svZ kN oN)), (4, zi (oN : Int)), (0, .ref (ah 0)), (1, .ref o0), (2, zi (kN : Int)), (3, zi bb)]) hx hb dL_isBest_253 hl (by decide) rfl (fun ls hl => ?_)
        refine lv_aload_n hx hb dL_isBest_255 rfl (lv_at hl 11 rfl) ?_
        refine lv_iload hx hb dL_isBest_256 (lv_at hl 5 rfl) ?_
        refine lv_iload hx hb dL_isBest_258 (lv_at hl 3 rfl) ?_
        refine hz_cI (As := [zi (oN : Int), zi ((S.2.2 2) (oN : Int))]) (rest := []) ⟨hx, hb, hml, hown, hts⟩ (b_aim l hlt G ah zE y _ (sF (sB (sA S 2 (upZ (S.2.2 2) (oN : Int) a0)) u44) u42.1 u42.2) (oN : Int) ((S.2.2 2) (oN : Int)) (fc_F u42.1 u42.2 (fc_B u44 hI18)) (show 0 ≤ (oN : Int) ∧ (oN : Int) < (S.2.1 0) by omega) (show -1 ≤ ((S.2.2 2) (oN : Int)) ∧ ((S.2.2 2) (oN : Int)) ≤ 5 by omega) (show ¬ (S.2.2 5) (oN : Int) = 1 by omega)) (cwV 2 hts gL_isBest_X7_aim rfl rfl rfl (by decide +kernel) ⟨Nat.le_of_ble_eq_true rfl, Nat.le_of_ble_eq_true rfl⟩) hP hK hD hS hA hGP 0 8 rfl rfl rfl rfl hl.1 rfl (Nat.le_of_ble_eq_true rfl) dL_isBest_260 ⟨Nat.le_of_ble_eq_true rfl, Nat.le_of_ble_eq_true rfl⟩ (fun _ => wH_fst rfl rfl rfl) (fun u45 H locs hu hP hD hS => ?_)
        have hI46 : FC zE (sA S 2 (upZ (upZ (S.2.2 2) (oN : Int) a0) (oN : Int) ((S.2.2 2) (oN : Int)))) := (fc_aim (oN : Int) ((S.2.2 2) (oN : Int)) hI18 (by omega))
        have hP : va_P G vwCl (wH ah y (sF (sB (sA S 2 (upZ (upZ (S.2.2 2) (oN : Int) a0) (oN : Int) ((S.2.2 2) (oN : Int)))) u44) u42.1 u42.2) ++ dW o0 y d) H := hP
        have hD : va_D A (wH ah y (sF (sB (sA S 2 (upZ (upZ (S.2.2 2) (oN : Int) a0) (oN : Int) ((S.2.2 2) (oN : Int)))) u44) u42.1 u42.2) ++ dW o0 y d) := hD
        refine hz_tope (z2 := ((upZ (S.2.2 2) (oN : Int) a0) (oN : Int))) (by rfl) ?_
        refine lv_pop hx hb dL_isBest_263 rfl ?_
        refine lv_iload hx hb dL_isBest_264 (lv_at hl 5 rfl) ?_
        refine lv_iload hx hb dL_isBest_266 (lv_at hl 4 rfl) ?_
        refine hz_icmp_eq (tgt := 280) hx hb dL_isBest_268 (by decide) (by omega) (fun _ => ?_) (fun q => by exfalso; omega)
        refine lv_iload hx hb dL_isBest_280 (lv_at hl 0 rfl) ?_
        refine hz_if_eq (tgt := 303) hx hb dL_isBest_282 (by decide) (by omega) (fun q => by exfalso; omega) (fun _ => ?_)
        have hbk9 : (upZ (upZ (S.2.2 2) (oN : Int) a0) (oN : Int) ((S.2.2 2) (oN : Int))) = S.2.2 2 := by
          funext j
          by_cases z1 : j = (oN : Int)
          · rw [upZ_s z1, z1]
          · rw [upZ_n z1, upZ_n z1]
        have hsf9 : sfS (sA S 2 (upZ (upZ (S.2.2 2) (oN : Int) a0) (oN : Int) ((S.2.2 2) (oN : Int)))) = sfS S := by
          show sfZ (S.2.1 0) (upZ (upZ (S.2.2 2) (oN : Int) a0) (oN : Int) ((S.2.2 2) (oN : Int))) (S.2.2 3) (S.2.2 4) (ryS S) (S.2.2 12) = sfZ (S.2.1 0) (S.2.2 2) (S.2.2 3) (S.2.2 4) (ryS S) (S.2.2 12)
          rw [hbk9]
        refine lv_aload_n hx hb dL_isBest_285 rfl (lv_at hl 11 rfl) ?_
        refine hz_cI (As := []) (rest := []) ⟨hx, hb, hml, hown, hts⟩ (b_isSafe l G ah zE y _ (sF (sB (sA S 2 (upZ (upZ (S.2.2 2) (oN : Int) a0) (oN : Int) ((S.2.2 2) (oN : Int)))) u44) u42.1 u42.2)  (fc_F u42.1 u42.2 (fc_B u44 hI46)) ) (cwV 0 hts gL_isBest_X7_isSafe rfl rfl rfl (by decide +kernel) ⟨Nat.le_of_ble_eq_true rfl, Nat.le_of_ble_eq_true rfl⟩) hP hK hD hS hA hGP 0 8 rfl rfl rfl rfl hl.1 rfl (Nat.le_of_ble_eq_true rfl) dL_isBest_286 ⟨Nat.le_of_ble_eq_true rfl, Nat.le_of_ble_eq_true rfl⟩ (fun _ => wH_fst rfl rfl rfl) (fun u47 H locs hu hP hD hS => ?_)
        have hP : va_P G vwCl (wH ah y (sF (sB (sA S 2 (upZ (upZ (S.2.2 2) (oN : Int) a0) (oN : Int) ((S.2.2 2) (oN : Int)))) u44) u47.1 u47.2) ++ dW o0 y d) H := hP
        have hD : va_D A (wH ah y (sF (sB (sA S 2 (upZ (upZ (S.2.2 2) (oN : Int) a0) (oN : Int) ((S.2.2 2) (oN : Int)))) u44) u47.1 u47.2) ++ dW o0 y d) := hD
        refine hz_tope (z2 := (sfS S)) (by exact hsf9) ?_
        refine hz_if_eq (tgt := 299) hx hb dL_isBest_289 (by decide) (by omega) (fun c48 => ?_) (fun c48 => ?_)
        · refine hz_iconst hx hb dL_isBest_299 ?_
          refine lv_goto (tgt := 304) hx hb dL_isBest_300 (by decide) ?_
          exact hz_upM (Nat.le_of_ble_eq_true rfl) (Nat.le_of_ble_eq_true rfl) (W.zret (ty := .boolean) (v := zI 1) hx hb hr (zI_nb (by omega)) (fun t ht hW => ⟨⟨zI 1, ((sF (sB (sA S 2 (upZ (upZ (S.2.2 2) (oN : Int) a0) (oN : Int) ((S.2.2 2) (oN : Int)))) u44) u47.1 u47.2), d), rfl, ⟨rfl, (fc_F u47.1 u47.2 (fc_B u44 hI46)), hd, rfl⟩, hz_at2 hP hD ht⟩, hS.F ht⟩) hS.2.2 dL_isBest_304)
        · have qnow := bb_now (k := kN) (o := oN) hI hkn hon (by omega)
          rw [alS6] at qnow
          refine lv_iload hx hb dL_isBest_292 (lv_at hl 7 rfl) ?_
          refine lv_iload hx hb dL_isBest_294 (lv_at hl 8 rfl) ?_
          refine hz_icmp_lt (tgt := 303) hx hb dL_isBest_296 (by decide) (by omega) (fun q => by exfalso; omega) (fun _ => ?_)
          refine hz_iconst hx hb dL_isBest_299 ?_
          refine lv_goto (tgt := 304) hx hb dL_isBest_300 (by decide) ?_
          exact hz_upM (Nat.le_of_ble_eq_true rfl) (Nat.le_of_ble_eq_true rfl) (W.zret (ty := .boolean) (v := zI 1) hx hb hr (zI_nb (by omega)) (fun t ht hW => ⟨⟨zI 1, ((sF (sB (sA S 2 (upZ (upZ (S.2.2 2) (oN : Int) a0) (oN : Int) ((S.2.2 2) (oN : Int)))) u44) u47.1 u47.2), d), rfl, ⟨rfl, (fc_F u47.1 u47.2 (fc_B u44 hI46)), hd, rfl⟩, hz_at2 hP hD ht⟩, hS.F ht⟩) hS.2.2 dL_isBest_304)
    · refine lv_iload_n hx hb dL_isBest_120 rfl (lv_at hl 7 rfl) ?_
      refine lv_goto (tgt := 126) hx hb dL_isBest_121 (by decide) ?_
      refine lv_istore (lv' := [(9, zi (kN : Int)), (8, zi 0), (7, zi ((bsS S (svZ kN oN)).2)), (6, zi ((((((0 + (flS S 0)) + (flS S 1)) + (flS S 2)) + (flS S 3)) + (flS S 4)) + (flS S 5))), (5, zi (svZ kN oN)), (4, zi (oN : Int)), (0, .ref (ah 0)), (1, .ref o0), (2, zi (kN : Int)), (3, zi bb)]) hx hb dL_isBest_126 hl (by decide) rfl (fun ls hl => ?_)
      refine lv_iload_n hx hb dL_isBest_128 rfl (lv_at hl 8 rfl) ?_
      refine lv_iload hx hb dL_isBest_129 (lv_at hl 5 rfl) ?_
      refine hz_icmp_ge (tgt := 139) hx hb dL_isBest_131 (by decide) (by omega) (fun q => by exfalso; omega) (fun _ => ?_)
      refine lv_iload hx hb dL_isBest_134 (lv_at hl 5 rfl) ?_
      refine lv_goto (tgt := 140) hx hb dL_isBest_136 (by decide) ?_
      refine lv_istore (lv' := [(10, zi (oN : Int)), (9, zi (kN : Int)), (8, zi 0), (7, zi ((bsS S (svZ kN oN)).2)), (6, zi ((((((0 + (flS S 0)) + (flS S 1)) + (flS S 2)) + (flS S 3)) + (flS S 4)) + (flS S 5))), (5, zi (svZ kN oN)), (4, zi (oN : Int)), (0, .ref (ah 0)), (1, .ref o0), (2, zi (kN : Int)), (3, zi bb)]) hx hb dL_isBest_140 hl (by decide) rfl (fun ls hl => ?_)
      have hko : kN ≠ oN := by omega
      have hmin : ((Nat.min kN oN : Nat) : Int) = (kN : Int) := by
        rcases mm_1 kN oN with q | q <;> (have q2 : Nat.min kN oN ≤ kN := Nat.min_le_left _ _; have q3 : Nat.min kN oN ≤ oN := Nat.min_le_right _ _; omega)
      have hmax : ((Nat.max kN oN : Nat) : Int) = (oN : Int) := by
        rcases mm_2 kN oN with q | q <;> (have q2 : kN ≤ Nat.max kN oN := Nat.le_max_left _ _; have q3 : oN ≤ Nat.max kN oN := Nat.le_max_right _ _; omega)
      refine lv_aload_n hx hb dL_isBest_142 rfl (lv_at hl 7 rfl) ?_
      refine lv_iload hx hb dL_isBest_143 (lv_at hl 1 rfl) ?_
      refine lv_aload_n hx hb dL_isBest_145 rfl (lv_at hl 7 rfl) ?_
      refine lv_iload hx hb dL_isBest_146 (lv_at hl 5 rfl) ?_
      refine hz_iconst hx hb dL_isBest_148 ?_
      refine hz_lawL (As := [.ref (ah 0), zi (svZ kN oN), zi 0]) (rest := [zi (kN : Int), .ref (ah 0)]) ⟨hx, hb, hml, hown, hts⟩ (c_best l hlt G ah mi zE y _ (sF (sB S u7) u6.1 u6.2) (svZ kN oN) (0 : Int) (fc_F u6.1 u6.2 (fc_B u7 hI)) hsv (by omega)) (vx_cwSW 3 hts gL_isBest_L_best rfl rfl rfl (by decide +kernel) ⟨Nat.le_of_ble_eq_true rfl, Nat.le_of_ble_eq_true rfl⟩) hP hK hD hS hA hGP hX hGN rfl hl.1 rfl (Nat.le_of_ble_eq_true rfl) dL_isBest_149 ⟨Nat.le_of_ble_eq_true rfl, Nat.le_of_ble_eq_true rfl⟩ (fun r u49 H locs hu hP hD hS => ?_)
      have hu : r = zI (brR S (svZ kN oN) (0 : Int)) := hu
      subst hu
      have hP : va_P G vwCl (wH ah y (sF (sB S u49) u6.1 u6.2) ++ dW o0 y d) H := hP
      have hD : va_D A (wH ah y (sF (sB S u49) u6.1 u6.2) ++ dW o0 y d) := hD
      have hbr0 : brR S (svZ kN oN) 0 = rwZ (cntZ (svZ kN oN) (S.2.1 0)) (bsS S (svZ kN oN)).1 0 := brR_3 hok (by rw [hcn]; split <;> omega) hb1
      refine hz_tope (z2 := rwZ (cntZ (svZ kN oN) (S.2.1 0)) (bsS S (svZ kN oN)).1 0) (by exact hbr0) ?_
      have ra0 := rwZ_rng (cntZ (svZ kN oN) (S.2.1 0)) (bsS S (svZ kN oN)).1 0
      refine hz_topi (fun a0 ha0 => ?_)
      rw [← ha0] at ra0
      refine hz_cI (As := [zi (kN : Int), zi a0]) (rest := []) ⟨hx, hb, hml, hown, hts⟩ (b_aim l hlt G ah zE y _ (sF (sB S u49) u6.1 u6.2) (kN : Int) a0 (fc_F u6.1 u6.2 (fc_B u49 hI)) (show 0 ≤ (kN : Int) ∧ (kN : Int) < (S.2.1 0) by omega) (show -1 ≤ a0 ∧ a0 ≤ 5 by omega) (show ¬ (S.2.2 5) (kN : Int) = 1 by omega)) (cwV 2 hts gL_isBest_X7_aim rfl rfl rfl (by decide +kernel) ⟨Nat.le_of_ble_eq_true rfl, Nat.le_of_ble_eq_true rfl⟩) hP hK hD hS hA hGP 0 8 rfl rfl rfl rfl hl.1 rfl (Nat.le_of_ble_eq_true rfl) dL_isBest_152 ⟨Nat.le_of_ble_eq_true rfl, Nat.le_of_ble_eq_true rfl⟩ (fun _ => wH_fst rfl rfl rfl) (fun u50 H locs hu hP hD hS => ?_)
      have hI51 : FC zE (sA S 2 (upZ (S.2.2 2) (kN : Int) a0)) := (fc_aim (kN : Int) a0 hI (by omega))
      have hP : va_P G vwCl (wH ah y (sF (sB (sA S 2 (upZ (S.2.2 2) (kN : Int) a0)) u49) u6.1 u6.2) ++ dW o0 y d) H := hP
      have hD : va_D A (wH ah y (sF (sB (sA S 2 (upZ (S.2.2 2) (kN : Int) a0)) u49) u6.1 u6.2) ++ dW o0 y d) := hD
      refine hz_tope (z2 := ((S.2.2 2) (kN : Int))) (by rfl) ?_
      refine lv_istore (lv' := [(11, zi ((S.2.2 2) (kN : Int))), (10, zi (oN : Int)), (9, zi (kN : Int)), (8, zi 0), (7, zi ((bsS S (svZ kN oN)).2)), (6, zi ((((((0 + (flS S 0)) + (flS S 1)) + (flS S 2)) + (flS S 3)) + (flS S 4)) + (flS S 5))), (5, zi (svZ kN oN)), (4, zi (oN : Int)), (0, .ref (ah 0)), (1, .ref o0), (2, zi (kN : Int)), (3, zi bb)]) hx hb dL_isBest_155 hl (by decide) rfl (fun ls hl => ?_)
      refine lv_iload hx hb dL_isBest_157 (lv_at hl 2 rfl) ?_
      refine lv_iload hx hb dL_isBest_159 (lv_at hl 1 rfl) ?_
      refine hz_icmp_ne (tgt := 168) hx hb dL_isBest_161 (by decide) (by omega) (fun _ => ?_) (fun q => by exfalso; omega)
      refine lv_aload_n hx hb dL_isBest_168 rfl (lv_at hl 8 rfl) ?_
      refine lv_iload hx hb dL_isBest_169 (lv_at hl 1 rfl) ?_
      refine lv_aload_n hx hb dL_isBest_171 rfl (lv_at hl 8 rfl) ?_
      refine lv_iload hx hb dL_isBest_172 (lv_at hl 6 rfl) ?_
      refine hz_iconst hx hb dL_isBest_174 ?_
      refine hz_lawL (As := [.ref (ah 0), zi (svZ kN oN), zi 1]) (rest := [zi (oN : Int), .ref (ah 0)]) ⟨hx, hb, hml, hown, hts⟩ (c_best l hlt G ah mi zE y _ (sF (sB (sA S 2 (upZ (S.2.2 2) (kN : Int) a0)) u49) u6.1 u6.2) (svZ kN oN) (1 : Int) (fc_F u6.1 u6.2 (fc_B u49 hI51)) hsv (by omega)) (vx_cwSW 3 hts gL_isBest_L_best rfl rfl rfl (by decide +kernel) ⟨Nat.le_of_ble_eq_true rfl, Nat.le_of_ble_eq_true rfl⟩) hP hK hD hS hA hGP hX hGN rfl hl.1 rfl (Nat.le_of_ble_eq_true rfl) dL_isBest_175 ⟨Nat.le_of_ble_eq_true rfl, Nat.le_of_ble_eq_true rfl⟩ (fun r u52 H locs hu hP hD hS => ?_)
      have hu : r = zI (brR (sA S 2 (upZ (S.2.2 2) (kN : Int) a0)) (svZ kN oN) (1 : Int)) := hu
      subst hu
      have hP : va_P G vwCl (wH ah y (sF (sB (sA S 2 (upZ (S.2.2 2) (kN : Int) a0)) u52) u6.1 u6.2) ++ dW o0 y d) H := hP
      have hD : va_D A (wH ah y (sF (sB (sA S 2 (upZ (S.2.2 2) (kN : Int) a0)) u52) u6.1 u6.2) ++ dW o0 y d) := hD
      have hsm1 : bsS (sA S 2 (upZ (S.2.2 2) (kN : Int) a0)) (svZ kN oN) = bsS S (svZ kN oN) := bb_same hI hkn hon (fun j z1 z2 => upZ_n (by omega))
      have hbr1 : brR (sA S 2 (upZ (S.2.2 2) (kN : Int) a0)) (svZ kN oN) 1 = rwZ (cntZ (svZ kN oN) (S.2.1 0)) (bsS S (svZ kN oN)).1 1 := by
        have q := brR_3 (S := (sA S 2 (upZ (S.2.2 2) (kN : Int) a0))) (sid := (svZ kN oN)) (which := 1) hok (by show -1 ≤ (1 : Int) ∧ 1 < cntZ (svZ kN oN) (S.2.1 0); rw [hcn, if_neg hko]; omega) (by rw [hsm1]; exact hb1)
        rw [hsm1] at q
        exact q
      refine hz_tope (z2 := rwZ (cntZ (svZ kN oN) (S.2.1 0)) (bsS S (svZ kN oN)).1 1) (by exact hbr1) ?_
      have ra1 := rwZ_rng (cntZ (svZ kN oN) (S.2.1 0)) (bsS S (svZ kN oN)).1 1
      refine hz_topi (fun a1 ha1 => ?_)
      rw [← ha1] at ra1
      refine hz_cI (As := [zi (oN : Int), zi a1]) (rest := []) ⟨hx, hb, hml, hown, hts⟩ (b_aim l hlt G ah zE y _ (sF (sB (sA S 2 (upZ (S.2.2 2) (kN : Int) a0)) u52) u6.1 u6.2) (oN : Int) a1 (fc_F u6.1 u6.2 (fc_B u52 hI51)) (show 0 ≤ (oN : Int) ∧ (oN : Int) < (S.2.1 0) by omega) (show -1 ≤ a1 ∧ a1 ≤ 5 by omega) (show ¬ (S.2.2 5) (oN : Int) = 1 by omega)) (cwV 2 hts gL_isBest_X7_aim rfl rfl rfl (by decide +kernel) ⟨Nat.le_of_ble_eq_true rfl, Nat.le_of_ble_eq_true rfl⟩) hP hK hD hS hA hGP 0 8 rfl rfl rfl rfl hl.1 rfl (Nat.le_of_ble_eq_true rfl) dL_isBest_178 ⟨Nat.le_of_ble_eq_true rfl, Nat.le_of_ble_eq_true rfl⟩ (fun _ => wH_fst rfl rfl rfl) (fun u53 H locs hu hP hD hS => ?_)
      have hI54 : FC zE (sA S 2 (upZ (upZ (S.2.2 2) (kN : Int) a0) (oN : Int) a1)) := (fc_aim (oN : Int) a1 hI51 (by omega))
      have hP : va_P G vwCl (wH ah y (sF (sB (sA S 2 (upZ (upZ (S.2.2 2) (kN : Int) a0) (oN : Int) a1)) u52) u6.1 u6.2) ++ dW o0 y d) H := hP
      have hD : va_D A (wH ah y (sF (sB (sA S 2 (upZ (upZ (S.2.2 2) (kN : Int) a0) (oN : Int) a1)) u52) u6.1 u6.2) ++ dW o0 y d) := hD
      refine hz_tope (z2 := (S.2.2 2 (oN : Int))) (by exact upZ_n (by omega)) ?_
      refine lv_istore (lv' := [(12, zi (S.2.2 2 (oN : Int))), (11, zi ((S.2.2 2) (kN : Int))), (10, zi (oN : Int)), (9, zi (kN : Int)), (8, zi 0), (7, zi ((bsS S (svZ kN oN)).2)), (6, zi ((((((0 + (flS S 0)) + (flS S 1)) + (flS S 2)) + (flS S 3)) + (flS S 4)) + (flS S 5))), (5, zi (svZ kN oN)), (4, zi (oN : Int)), (0, .ref (ah 0)), (1, .ref o0), (2, zi (kN : Int)), (3, zi bb)]) hx hb dL_isBest_181 hl (by decide) rfl (fun ls hl => ?_)
      have hsm2 : bsS (sA S 2 (upZ (upZ (S.2.2 2) (kN : Int) a0) (oN : Int) a1)) (svZ kN oN) = bsS S (svZ kN oN) := bb_same hI hkn hon (fun j z1 z2 => (upZ_n (by omega)).trans (upZ_n (by omega)))
      have hth : alZ (flS (sA S 2 (upZ (upZ (S.2.2 2) (kN : Int) a0) (oN : Int) a1))) = (bsS S (svZ kN oN)).2 := bb_then (f := (upZ (upZ (S.2.2 2) (kN : Int) a0) (oN : Int) a1)) hI hkn hon hb1 (by rw [hmin]; exact ((upZ_n (by omega)).trans (upZ_s rfl)).trans ha0) (fun _ => by rw [hmax]; exact (upZ_s rfl).trans ha1) (fun j z1 z2 => (upZ_n (by omega)).trans (upZ_n (by omega)))
      rw [alS6] at hth
      have lt := fun p => flS_rng hI54 p
      have t0 := lt 0
      have t1 := lt 1
      have t2 := lt 2
      have t3 := lt 3
      have t4 := lt 4
      have t5 := lt 5
      refine hz_iconst hx hb dL_isBest_183 ?_
      refine lv_istore (lv' := [(13, zi 0), (12, zi (S.2.2 2 (oN : Int))), (11, zi ((S.2.2 2) (kN : Int))), (10, zi (oN : Int)), (9, zi (kN : Int)), (8, zi 0), (7, zi ((bsS S (svZ kN oN)).2)), (6, zi ((((((0 + (flS S 0)) + (flS S 1)) + (flS S 2)) + (flS S 3)) + (flS S 4)) + (flS S 5))), (5, zi (svZ kN oN)), (4, zi (oN : Int)), (0, .ref (ah 0)), (1, .ref o0), (2, zi (kN : Int)), (3, zi bb)]) hx hb dL_isBest_184 hl (by decide) rfl (fun ls hl => ?_)
      refine hz_iconst hx hb dL_isBest_186 ?_
      refine lv_istore (lv' := [(14, zi 0), (13, zi 0), (12, zi (S.2.2 2 (oN : Int))), (11, zi ((S.2.2 2) (kN : Int))), (10, zi (oN : Int)), (9, zi (kN : Int)), (8, zi 0), (7, zi ((bsS S (svZ kN oN)).2)), (6, zi ((((((0 + (flS S 0)) + (flS S 1)) + (flS S 2)) + (flS S 3)) + (flS S 4)) + (flS S 5))), (5, zi (svZ kN oN)), (4, zi (oN : Int)), (0, .ref (ah 0)), (1, .ref o0), (2, zi (kN : Int)), (3, zi bb)]) hx hb dL_isBest_187 hl (by decide) rfl (fun ls hl => ?_)
      refine lv_iload hx hb dL_isBest_189 (lv_at hl 0 rfl) ?_
      refine hz_bipush hx hb dL_isBest_191 (by decide) ?_
      refine hz_icmp_ge (tgt := 213) hx hb dL_isBest_193 (by decide) (by omega) (fun q => by exfalso; omega) (fun _ => ?_)
      refine lv_iload hx hb dL_isBest_196 (lv_at hl 1 rfl) ?_
      refine lv_aload_n hx hb dL_isBest_198 rfl (lv_at hl 11 rfl) ?_
      refine lv_iload hx hb dL_isBest_199 (lv_at hl 0 rfl) ?_
      refine hz_cI (As := [zi 0]) (rest := [zi 0]) ⟨hx, hb, hml, hown, hts⟩ (b_flux l hlt G ah zE y _ (sF (sB (sA S 2 (upZ (upZ (S.2.2 2) (kN : Int) a0) (oN : Int) a1)) u52) u6.1 u6.2) (0 : Int) (fc_F u6.1 u6.2 (fc_B u52 hI54)) (show 0 ≤ (0 : Int) ∧ (0 : Int) ≤ 5 by omega)) (cwV 1 hts gL_isBest_X7_flux rfl rfl rfl (by decide +kernel) ⟨Nat.le_of_ble_eq_true rfl, Nat.le_of_ble_eq_true rfl⟩) hP hK hD hS hA hGP 0 8 rfl rfl rfl rfl hl.1 rfl (Nat.le_of_ble_eq_true rfl) dL_isBest_201 ⟨Nat.le_of_ble_eq_true rfl, Nat.le_of_ble_eq_true rfl⟩ (fun _ => wH_fst rfl rfl rfl) (fun u55 H locs hu hP hD hS => ?_)
      have hP : va_P G vwCl (wH ah y (sF (sB (sA S 2 (upZ (upZ (S.2.2 2) (kN : Int) a0) (oN : Int) a1)) u52) u55.1 u55.2) ++ dW o0 y d) H := hP
      have hD : va_D A (wH ah y (sF (sB (sA S 2 (upZ (upZ (S.2.2 2) (kN : Int) a0) (oN : Int) a1)) u52) u55.1 u55.2) ++ dW o0 y d) := hD
      refine hz_tope (z2 := (flS (sA S 2 (upZ (upZ (S.2.2 2) (kN : Int) a0) (oN : Int) a1)) 0)) (by rfl) ?_
      refine hz_iadd hx hb dL_isBest_204 ?_
      refine lv_istore (lv' := [(13, zi (0 + (flS (sA S 2 (upZ (upZ (S.2.2 2) (kN : Int) a0) (oN : Int) a1)) 0))), (14, zi 0), (12, zi (S.2.2 2 (oN : Int))), (11, zi ((S.2.2 2) (kN : Int))), (10, zi (oN : Int)), (9, zi (kN : Int)), (8, zi 0), (7, zi ((bsS S (svZ kN oN)).2)), (6, zi ((((((0 + (flS S 0)) + (flS S 1)) + (flS S 2)) + (flS S 3)) + (flS S 4)) + (flS S 5))), (5, zi (svZ kN oN)), (4, zi (oN : Int)), (0, .ref (ah 0)), (1, .ref o0), (2, zi (kN : Int)), (3, zi bb)]) hx hb dL_isBest_205 hl (by decide) rfl (fun ls hl => ?_)
      refine hz_iinc (v := 1) (lv' := [(14, zi 1), (13, zi (0 + (flS (sA S 2 (upZ (upZ (S.2.2 2) (kN : Int) a0) (oN : Int) a1)) 0))), (12, zi (S.2.2 2 (oN : Int))), (11, zi ((S.2.2 2) (kN : Int))), (10, zi (oN : Int)), (9, zi (kN : Int)), (8, zi 0), (7, zi ((bsS S (svZ kN oN)).2)), (6, zi ((((((0 + (flS S 0)) + (flS S 1)) + (flS S 2)) + (flS S 3)) + (flS S 4)) + (flS S 5))), (5, zi (svZ kN oN)), (4, zi (oN : Int)), (0, .ref (ah 0)), (1, .ref o0), (2, zi (kN : Int)), (3, zi bb)]) hx hb dL_isBest_207 hl (k := 1) rfl (by omega) (by decide) rfl (fun ls hl => ?_)
      refine lv_goto (tgt := 189) hx hb dL_isBest_210 (by decide) ?_
      refine lv_iload hx hb dL_isBest_189 (lv_at hl 0 rfl) ?_
      refine hz_bipush hx hb dL_isBest_191 (by decide) ?_
      refine hz_icmp_ge (tgt := 213) hx hb dL_isBest_193 (by decide) (by omega) (fun q => by exfalso; omega) (fun _ => ?_)
      refine lv_iload hx hb dL_isBest_196 (lv_at hl 1 rfl) ?_
      refine lv_aload_n hx hb dL_isBest_198 rfl (lv_at hl 11 rfl) ?_
      refine lv_iload hx hb dL_isBest_199 (lv_at hl 0 rfl) ?_
      refine hz_cI (As := [zi 1]) (rest := [zi (0 + (flS (sA S 2 (upZ (upZ (S.2.2 2) (kN : Int) a0) (oN : Int) a1)) 0))]) ⟨hx, hb, hml, hown, hts⟩ (b_flux l hlt G ah zE y _ (sF (sB (sA S 2 (upZ (upZ (S.2.2 2) (kN : Int) a0) (oN : Int) a1)) u52) u55.1 u55.2) (1 : Int) (fc_F u55.1 u55.2 (fc_B u52 hI54)) (show 0 ≤ (1 : Int) ∧ (1 : Int) ≤ 5 by omega)) (cwV 1 hts gL_isBest_X7_flux rfl rfl rfl (by decide +kernel) ⟨Nat.le_of_ble_eq_true rfl, Nat.le_of_ble_eq_true rfl⟩) hP hK hD hS hA hGP 0 8 rfl rfl rfl rfl hl.1 rfl (Nat.le_of_ble_eq_true rfl) dL_isBest_201 ⟨Nat.le_of_ble_eq_true rfl, Nat.le_of_ble_eq_true rfl⟩ (fun _ => wH_fst rfl rfl rfl) (fun u56 H locs hu hP hD hS => ?_)
      have hP : va_P G vwCl (wH ah y (sF (sB (sA S 2 (upZ (upZ (S.2.2 2) (kN : Int) a0) (oN : Int) a1)) u52) u56.1 u56.2) ++ dW o0 y d) H := hP
      have hD : va_D A (wH ah y (sF (sB (sA S 2 (upZ (upZ (S.2.2 2) (kN : Int) a0) (oN : Int) a1)) u52) u56.1 u56.2) ++ dW o0 y d) := hD
      refine hz_tope (z2 := (flS (sA S 2 (upZ (upZ (S.2.2 2) (kN : Int) a0) (oN : Int) a1)) 1)) (by rfl) ?_
      refine hz_iadd hx hb dL_isBest_204 ?_
      refine lv_istore (lv' := [(13, zi ((0 + (flS (sA S 2 (upZ (upZ (S.2.2 2) (kN : Int) a0) (oN : Int) a1)) 0)) + (flS (sA S 2 (upZ (upZ (S.2.2 2) (kN : Int) a0) (oN : Int) a1)) 1))), (14, zi 1), (12, zi (S.2.2 2 (oN : Int))), (11, zi ((S.2.2 2) (kN : Int))), (10, zi (oN : Int)), (9, zi (kN : Int)), (8, zi 0), (7, zi ((bsS S (svZ kN oN)).2)), (6, zi ((((((0 + (flS S 0)) + (flS S 1)) + (flS S 2)) + (flS S 3)) + (flS S 4)) + (flS S 5))), (5, zi (svZ kN oN)), (4, zi (oN : Int)), (0, .ref (ah 0)), (1, .ref o0), (2, zi (kN : Int)), (3, zi bb)]) hx hb dL_isBest_205 hl (by decide) rfl (fun ls hl => ?_)
      refine hz_iinc (v := 2) (lv' := [(14, zi 2), (13, zi ((0 + (flS (sA S 2 (upZ (upZ (S.2.2 2) (kN : Int) a0) (oN : Int) a1)) 0)) + (flS (sA S 2 (upZ (upZ (S.2.2 2) (kN : Int) a0) (oN : Int) a1)) 1))), (12, zi (S.2.2 2 (oN : Int))), (11, zi ((S.2.2 2) (kN : Int))), (10, zi (oN : Int)), (9, zi (kN : Int)), (8, zi 0), (7, zi ((bsS S (svZ kN oN)).2)), (6, zi ((((((0 + (flS S 0)) + (flS S 1)) + (flS S 2)) + (flS S 3)) + (flS S 4)) + (flS S 5))), (5, zi (svZ kN oN)), (4, zi (oN : Int)), (0, .ref (ah 0)), (1, .ref o0), (2, zi (kN : Int)), (3, zi bb)]) hx hb dL_isBest_207 hl (k := 1) rfl (by omega) (by decide) rfl (fun ls hl => ?_)
      refine lv_goto (tgt := 189) hx hb dL_isBest_210 (by decide) ?_
      refine lv_iload hx hb dL_isBest_189 (lv_at hl 0 rfl) ?_
      refine hz_bipush hx hb dL_isBest_191 (by decide) ?_
      refine hz_icmp_ge (tgt := 213) hx hb dL_isBest_193 (by decide) (by omega) (fun q => by exfalso; omega) (fun _ => ?_)
      refine lv_iload hx hb dL_isBest_196 (lv_at hl 1 rfl) ?_
      refine lv_aload_n hx hb dL_isBest_198 rfl (lv_at hl 11 rfl) ?_
      refine lv_iload hx hb dL_isBest_199 (lv_at hl 0 rfl) ?_
      refine hz_cI (As := [zi 2]) (rest := [zi ((0 + (flS (sA S 2 (upZ (upZ (S.2.2 2) (kN : Int) a0) (oN : Int) a1)) 0)) + (flS (sA S 2 (upZ (upZ (S.2.2 2) (kN : Int) a0) (oN : Int) a1)) 1))]) ⟨hx, hb, hml, hown, hts⟩ (b_flux l hlt G ah zE y _ (sF (sB (sA S 2 (upZ (upZ (S.2.2 2) (kN : Int) a0) (oN : Int) a1)) u52) u56.1 u56.2) (2 : Int) (fc_F u56.1 u56.2 (fc_B u52 hI54)) (show 0 ≤ (2 : Int) ∧ (2 : Int) ≤ 5 by omega)) (cwV 1 hts gL_isBest_X7_flux rfl rfl rfl (by decide +kernel) ⟨Nat.le_of_ble_eq_true rfl, Nat.le_of_ble_eq_true rfl⟩) hP hK hD hS hA hGP 0 8 rfl rfl rfl rfl hl.1 rfl (Nat.le_of_ble_eq_true rfl) dL_isBest_201 ⟨Nat.le_of_ble_eq_true rfl, Nat.le_of_ble_eq_true rfl⟩ (fun _ => wH_fst rfl rfl rfl) (fun u57 H locs hu hP hD hS => ?_)
      have hP : va_P G vwCl (wH ah y (sF (sB (sA S 2 (upZ (upZ (S.2.2 2) (kN : Int) a0) (oN : Int) a1)) u52) u57.1 u57.2) ++ dW o0 y d) H := hP
      have hD : va_D A (wH ah y (sF (sB (sA S 2 (upZ (upZ (S.2.2 2) (kN : Int) a0) (oN : Int) a1)) u52) u57.1 u57.2) ++ dW o0 y d) := hD
      refine hz_tope (z2 := (flS (sA S 2 (upZ (upZ (S.2.2 2) (kN : Int) a0) (oN : Int) a1)) 2)) (by rfl) ?_
      refine hz_iadd hx hb dL_isBest_204 ?_
      refine lv_istore (lv' := [(13, zi (((0 + (flS (sA S 2 (upZ (upZ (S.2.2 2) (kN : Int) a0) (oN : Int) a1)) 0)) + (flS (sA S 2 (upZ (upZ (S.2.2 2) (kN : Int) a0) (oN : Int) a1)) 1)) + (flS (sA S 2 (upZ (upZ (S.2.2 2) (kN : Int) a0) (oN : Int) a1)) 2))), (14, zi 2), (12, zi (S.2.2 2 (oN : Int))), (11, zi ((S.2.2 2) (kN : Int))), (10, zi (oN : Int)), (9, zi (kN : Int)), (8, zi 0), (7, zi ((bsS S (svZ kN oN)).2)), (6, zi ((((((0 + (flS S 0)) + (flS S 1)) + (flS S 2)) + (flS S 3)) + (flS S 4)) + (flS S 5))), (5, zi (svZ kN oN)), (4, zi (oN : Int)), (0, .ref (ah 0)), (1, .ref o0), (2, zi (kN : Int)), (3, zi bb)]) hx hb dL_isBest_205 hl (by decide) rfl (fun ls hl => ?_)
      refine hz_iinc (v := 3) (lv' := [(14, zi 3), (13, zi (((0 + (flS (sA S 2 (upZ (upZ (S.2.2 2) (kN : Int) a0) (oN : Int) a1)) 0)) + (flS (sA S 2 (upZ (upZ (S.2.2 2) (kN : Int) a0) (oN : Int) a1)) 1)) + (flS (sA S 2 (upZ (upZ (S.2.2 2) (kN : Int) a0) (oN : Int) a1)) 2))), (12, zi (S.2.2 2 (oN : Int))), (11, zi ((S.2.2 2) (kN : Int))), (10, zi (oN : Int)), (9, zi (kN : Int)), (8, zi 0), (7, zi ((bsS S (svZ kN oN)).2)), (6, zi ((((((0 + (flS S 0)) + (flS S 1)) + (flS S 2)) + (flS S 3)) + (flS S 4)) + (flS S 5))), (5, zi (svZ kN oN)), (4, zi (oN : Int)), (0, .ref (ah 0)), (1, .ref o0), (2, zi (kN : Int)), (3, zi bb)]) hx hb dL_isBest_207 hl (k := 1) rfl (by omega) (by decide) rfl (fun ls hl => ?_)
      refine lv_goto (tgt := 189) hx hb dL_isBest_210 (by decide) ?_
      refine lv_iload hx hb dL_isBest_189 (lv_at hl 0 rfl) ?_
      refine hz_bipush hx hb dL_isBest_191 (by decide) ?_
      refine hz_icmp_ge (tgt := 213) hx hb dL_isBest_193 (by decide) (by omega) (fun q => by exfalso; omega) (fun _ => ?_)
      refine lv_iload hx hb dL_isBest_196 (lv_at hl 1 rfl) ?_
      refine lv_aload_n hx hb dL_isBest_198 rfl (lv_at hl 11 rfl) ?_
      refine lv_iload hx hb dL_isBest_199 (lv_at hl 0 rfl) ?_
      refine hz_cI (As := [zi 3]) (rest := [zi (((0 + (flS (sA S 2 (upZ (upZ (S.2.2 2) (kN : Int) a0) (oN : Int) a1)) 0)) + (flS (sA S 2 (upZ (upZ (S.2.2 2) (kN : Int) a0) (oN : Int) a1)) 1)) + (flS (sA S 2 (upZ (upZ (S.2.2 2) (kN : Int) a0) (oN : Int) a1)) 2))]) ⟨hx, hb, hml, hown, hts⟩ (b_flux l hlt G ah zE y _ (sF (sB (sA S 2 (upZ (upZ (S.2.2 2) (kN : Int) a0) (oN : Int) a1)) u52) u57.1 u57.2) (3 : Int) (fc_F u57.1 u57.2 (fc_B u52 hI54)) (show 0 ≤ (3 : Int) ∧ (3 : Int) ≤ 5 by omega)) (cwV 1 hts gL_isBest_X7_flux rfl rfl rfl (by decide +kernel) ⟨Nat.le_of_ble_eq_true rfl, Nat.le_of_ble_eq_true rfl⟩) hP hK hD hS hA hGP 0 8 rfl rfl rfl rfl hl.1 rfl (Nat.le_of_ble_eq_true rfl) dL_isBest_201 ⟨Nat.le_of_ble_eq_true rfl, Nat.le_of_ble_eq_true rfl⟩ (fun _ => wH_fst rfl rfl rfl) (fun u58 H locs hu hP hD hS => ?_)
      have hP : va_P G vwCl (wH ah y (sF (sB (sA S 2 (upZ (upZ (S.2.2 2) (kN : Int) a0) (oN : Int) a1)) u52) u58.1 u58.2) ++ dW o0 y d) H := hP
      have hD : va_D A (wH ah y (sF (sB (sA S 2 (upZ (upZ (S.2.2 2) (kN : Int) a0) (oN : Int) a1)) u52) u58.1 u58.2) ++ dW o0 y d) := hD
      refine hz_tope (z2 := (flS (sA S 2 (upZ (upZ (S.2.2 2) (kN : Int) a0) (oN : Int) a1)) 3)) (by rfl) ?_
      refine hz_iadd hx hb dL_isBest_204 ?_
      refine lv_istore (lv' := [(13, zi ((((0 + (flS (sA S 2 (upZ (upZ (S.2.2 2) (kN : Int) a0) (oN : Int) a1)) 0)) + (flS (sA S 2 (upZ (upZ (S.2.2 2) (kN : Int) a0) (oN : Int) a1)) 1)) + (flS (sA S 2 (upZ (upZ (S.2.2 2) (kN : Int) a0) (oN : Int) a1)) 2)) + (flS (sA S 2 (upZ (upZ (S.2.2 2) (kN : Int) a0) (oN : Int) a1)) 3))), (14, zi 3), (12, zi (S.2.2 2 (oN : Int))), (11, zi ((S.2.2 2) (kN : Int))), (10, zi (oN : Int)), (9, zi (kN : Int)), (8, zi 0), (7, zi ((bsS S (svZ kN oN)).2)), (6, zi ((((((0 + (flS S 0)) + (flS S 1)) + (flS S 2)) + (flS S 3)) + (flS S 4)) + (flS S 5))), (5, zi (svZ kN oN)), (4, zi (oN : Int)), (0, .ref (ah 0)), (1, .ref o0), (2, zi (kN : Int)), (3, zi bb)]) hx hb dL_isBest_205 hl (by decide) rfl (fun ls hl => ?_)
      refine hz_iinc (v := 4) (lv' := [(14, zi 4), (13, zi ((((0 + (flS (sA S 2 (upZ (upZ (S.2.2 2) (kN : Int) a0) (oN : Int) a1)) 0)) + (flS (sA S 2 (upZ (upZ (S.2.2 2) (kN : Int) a0) (oN : Int) a1)) 1)) + (flS (sA S 2 (upZ (upZ (S.2.2 2) (kN : Int) a0) (oN : Int) a1)) 2)) + (flS (sA S 2 (upZ (upZ (S.2.2 2) (kN : Int) a0) (oN : Int) a1)) 3))), (12, zi (S.2.2 2 (oN : Int))), (11, zi ((S.2.2 2) (kN : Int))), (10, zi (oN : Int)), (9, zi (kN : Int)), (8, zi 0), (7, zi ((bsS S (svZ kN oN)).2)), (6, zi ((((((0 + (flS S 0)) + (flS S 1)) + (flS S 2)) + (flS S 3)) + (flS S 4)) + (flS S 5))), (5, zi (svZ kN oN)), (4, zi (oN : Int)), (0, .ref (ah 0)), (1, .ref o0), (2, zi (kN : Int)), (3, zi bb)]) hx hb dL_isBest_207 hl (k := 1) rfl (by omega) (by decide) rfl (fun ls hl => ?_)
      refine lv_goto (tgt := 189) hx hb dL_isBest_210 (by decide) ?_
      refine lv_iload hx hb dL_isBest_189 (lv_at hl 0 rfl) ?_
      refine hz_bipush hx hb dL_isBest_191 (by decide) ?_
      refine hz_icmp_ge (tgt := 213) hx hb dL_isBest_193 (by decide) (by omega) (fun q => by exfalso; omega) (fun _ => ?_)
      refine lv_iload hx hb dL_isBest_196 (lv_at hl 1 rfl) ?_
      refine lv_aload_n hx hb dL_isBest_198 rfl (lv_at hl 11 rfl) ?_
      refine lv_iload hx hb dL_isBest_199 (lv_at hl 0 rfl) ?_
      refine hz_cI (As := [zi 4]) (rest := [zi ((((0 + (flS (sA S 2 (upZ (upZ (S.2.2 2) (kN : Int) a0) (oN : Int) a1)) 0)) + (flS (sA S 2 (upZ (upZ (S.2.2 2) (kN : Int) a0) (oN : Int) a1)) 1)) + (flS (sA S 2 (upZ (upZ (S.2.2 2) (kN : Int) a0) (oN : Int) a1)) 2)) + (flS (sA S 2 (upZ (upZ (S.2.2 2) (kN : Int) a0) (oN : Int) a1)) 3))]) ⟨hx, hb, hml, hown, hts⟩ (b_flux l hlt G ah zE y _ (sF (sB (sA S 2 (upZ (upZ (S.2.2 2) (kN : Int) a0) (oN : Int) a1)) u52) u58.1 u58.2) (4 : Int) (fc_F u58.1 u58.2 (fc_B u52 hI54)) (show 0 ≤ (4 : Int) ∧ (4 : Int) ≤ 5 by omega)) (cwV 1 hts gL_isBest_X7_flux rfl rfl rfl (by decide +kernel) ⟨Nat.le_of_ble_eq_true rfl, Nat.le_of_ble_eq_true rfl⟩) hP hK hD hS hA hGP 0 8 rfl rfl rfl rfl hl.1 rfl (Nat.le_of_ble_eq_true rfl) dL_isBest_201 ⟨Nat.le_of_ble_eq_true rfl, Nat.le_of_ble_eq_true rfl⟩ (fun _ => wH_fst rfl rfl rfl) (fun u59 H locs hu hP hD hS => ?_)
      have hP : va_P G vwCl (wH ah y (sF (sB (sA S 2 (upZ (upZ (S.2.2 2) (kN : Int) a0) (oN : Int) a1)) u52) u59.1 u59.2) ++ dW o0 y d) H := hP
      have hD : va_D A (wH ah y (sF (sB (sA S 2 (upZ (upZ (S.2.2 2) (kN : Int) a0) (oN : Int) a1)) u52) u59.1 u59.2) ++ dW o0 y d) := hD
      refine hz_tope (z2 := (flS (sA S 2 (upZ (upZ (S.2.2 2) (kN : Int) a0) (oN : Int) a1)) 4)) (by rfl) ?_
      refine hz_iadd hx hb dL_isBest_204 ?_
      refine lv_istore (lv' := [(13, zi (((((0 + (flS (sA S 2 (upZ (upZ (S.2.2 2) (kN : Int) a0) (oN : Int) a1)) 0)) + (flS (sA S 2 (upZ (upZ (S.2.2 2) (kN : Int) a0) (oN : Int) a1)) 1)) + (flS (sA S 2 (upZ (upZ (S.2.2 2) (kN : Int) a0) (oN : Int) a1)) 2)) + (flS (sA S 2 (upZ (upZ (S.2.2 2) (kN : Int) a0) (oN : Int) a1)) 3)) + (flS (sA S 2 (upZ (upZ (S.2.2 2) (kN : Int) a0) (oN : Int) a1)) 4))), (14, zi 4), (12, zi (S.2.2 2 (oN : Int))), (11, zi ((S.2.2 2) (kN : Int))), (10, zi (oN : Int)), (9, zi (kN : Int)), (8, zi 0), (7, zi ((bsS S (svZ kN oN)).2)), (6, zi ((((((0 + (flS S 0)) + (flS S 1)) + (flS S 2)) + (flS S 3)) + (flS S 4)) + (flS S 5))), (5, zi (svZ kN oN)), (4, zi (oN : Int)), (0, .ref (ah 0)), (1, .ref o0), (2, zi (kN : Int)), (3, zi bb)]) hx hb dL_isBest_205 hl (by decide) rfl (fun ls hl => ?_)
      refine hz_iinc (v := 5) (lv' := [(14, zi 5), (13, zi (((((0 + (flS (sA S 2 (upZ (upZ (S.2.2 2) (kN : Int) a0) (oN : Int) a1)) 0)) + (flS (sA S 2 (upZ (upZ (S.2.2 2) (kN : Int) a0) (oN : Int) a1)) 1)) + (flS (sA S 2 (upZ (upZ (S.2.2 2) (kN : Int) a0) (oN : Int) a1)) 2)) + (flS (sA S 2 (upZ (upZ (S.2.2 2) (kN : Int) a0) (oN : Int) a1)) 3)) + (flS (sA S 2 (upZ (upZ (S.2.2 2) (kN : Int) a0) (oN : Int) a1)) 4))), (12, zi (S.2.2 2 (oN : Int))), (11, zi ((S.2.2 2) (kN : Int))), (10, zi (oN : Int)), (9, zi (kN : Int)), (8, zi 0), (7, zi ((bsS S (svZ kN oN)).2)), (6, zi ((((((0 + (flS S 0)) + (flS S 1)) + (flS S 2)) + (flS S 3)) + (flS S 4)) + (flS S 5))), (5, zi (svZ kN oN)), (4, zi (oN : Int)), (0, .ref (ah 0)), (1, .ref o0), (2, zi (kN : Int)), (3, zi bb)]) hx hb dL_isBest_207 hl (k := 1) rfl (by omega) (by decide) rfl (fun ls hl => ?_)
      refine lv_goto (tgt := 189) hx hb dL_isBest_210 (by decide) ?_
      refine lv_iload hx hb dL_isBest_189 (lv_at hl 0 rfl) ?_
      refine hz_bipush hx hb dL_isBest_191 (by decide) ?_
      refine hz_icmp_ge (tgt := 213) hx hb dL_isBest_193 (by decide) (by omega) (fun q => by exfalso; omega) (fun _ => ?_)
      refine lv_iload hx hb dL_isBest_196 (lv_at hl 1 rfl) ?_
      refine lv_aload_n hx hb dL_isBest_198 rfl (lv_at hl 11 rfl) ?_
      refine lv_iload hx hb dL_isBest_199 (lv_at hl 0 rfl) ?_
      refine hz_cI (As := [zi 5]) (rest := [zi (((((0 + (flS (sA S 2 (upZ (upZ (S.2.2 2) (kN : Int) a0) (oN : Int) a1)) 0)) + (flS (sA S 2 (upZ (upZ (S.2.2 2) (kN : Int) a0) (oN : Int) a1)) 1)) + (flS (sA S 2 (upZ (upZ (S.2.2 2) (kN : Int) a0) (oN : Int) a1)) 2)) + (flS (sA S 2 (upZ (upZ (S.2.2 2) (kN : Int) a0) (oN : Int) a1)) 3)) + (flS (sA S 2 (upZ (upZ (S.2.2 2) (kN : Int) a0) (oN : Int) a1)) 4))]) ⟨hx, hb, hml, hown, hts⟩ (b_flux l hlt G ah zE y _ (sF (sB (sA S 2 (upZ (upZ (S.2.2 2) (kN : Int) a0) (oN : Int) a1)) u52) u59.1 u59.2) (5 : Int) (fc_F u59.1 u59.2 (fc_B u52 hI54)) (show 0 ≤ (5 : Int) ∧ (5 : Int) ≤ 5 by omega)) (cwV 1 hts gL_isBest_X7_flux rfl rfl rfl (by decide +kernel) ⟨Nat.le_of_ble_eq_true rfl, Nat.le_of_ble_eq_true rfl⟩) hP hK hD hS hA hGP 0 8 rfl rfl rfl rfl hl.1 rfl (Nat.le_of_ble_eq_true rfl) dL_isBest_201 ⟨Nat.le_of_ble_eq_true rfl, Nat.le_of_ble_eq_true rfl⟩ (fun _ => wH_fst rfl rfl rfl) (fun u60 H locs hu hP hD hS => ?_)
      have hP : va_P G vwCl (wH ah y (sF (sB (sA S 2 (upZ (upZ (S.2.2 2) (kN : Int) a0) (oN : Int) a1)) u52) u60.1 u60.2) ++ dW o0 y d) H := hP
      have hD : va_D A (wH ah y (sF (sB (sA S 2 (upZ (upZ (S.2.2 2) (kN : Int) a0) (oN : Int) a1)) u52) u60.1 u60.2) ++ dW o0 y d) := hD
      refine hz_tope (z2 := (flS (sA S 2 (upZ (upZ (S.2.2 2) (kN : Int) a0) (oN : Int) a1)) 5)) (by rfl) ?_
      refine hz_iadd hx hb dL_isBest_204 ?_
      refine lv_istore (lv' := [(13, zi ((((((0 + (flS (sA S 2 (upZ (upZ (S.2.2 2) (kN : Int) a0) (oN : Int) a1)) 0)) + (flS (sA S 2 (upZ (upZ (S.2.2 2) (kN : Int) a0) (oN : Int) a1)) 1)) + (flS (sA S 2 (upZ (upZ (S.2.2 2) (kN : Int) a0) (oN : Int) a1)) 2)) + (flS (sA S 2 (upZ (upZ (S.2.2 2) (kN : Int) a0) (oN : Int) a1)) 3)) + (flS (sA S 2 (upZ (upZ (S.2.2 2) (kN : Int) a0) (oN : Int) a1)) 4)) + (flS (sA S 2 (upZ (upZ (S.2.2 2) (kN : Int) a0) (oN : Int) a1)) 5))), (14, zi 5), (12, zi (S.2.2 2 (oN : Int))), (11, zi ((S.2.2 2) (kN : Int))), (10, zi (oN : Int)), (9, zi (kN : Int)), (8, zi 0), (7, zi ((bsS S (svZ kN oN)).2)), (6, zi ((((((0 + (flS S 0)) + (flS S 1)) + (flS S 2)) + (flS S 3)) + (flS S 4)) + (flS S 5))), (5, zi (svZ kN oN)), (4, zi (oN : Int)), (0, .ref (ah 0)), (1, .ref o0), (2, zi (kN : Int)), (3, zi bb)]) hx hb dL_isBest_205 hl (by decide) rfl (fun ls hl => ?_)
      refine hz_iinc (v := 6) (lv' := [(14, zi 6), (13, zi ((((((0 + (flS (sA S 2 (upZ (upZ (S.2.2 2) (kN : Int) a0) (oN : Int) a1)) 0)) + (flS (sA S 2 (upZ (upZ (S.2.2 2) (kN : Int) a0) (oN : Int) a1)) 1)) + (flS (sA S 2 (upZ (upZ (S.2.2 2) (kN : Int) a0) (oN : Int) a1)) 2)) + (flS (sA S 2 (upZ (upZ (S.2.2 2) (kN : Int) a0) (oN : Int) a1)) 3)) + (flS (sA S 2 (upZ (upZ (S.2.2 2) (kN : Int) a0) (oN : Int) a1)) 4)) + (flS (sA S 2 (upZ (upZ (S.2.2 2) (kN : Int) a0) (oN : Int) a1)) 5))), (12, zi (S.2.2 2 (oN : Int))), (11, zi ((S.2.2 2) (kN : Int))), (10, zi (oN : Int)), (9, zi (kN : Int)), (8, zi 0), (7, zi ((bsS S (svZ kN oN)).2)), (6, zi ((((((0 + (flS S 0)) + (flS S 1)) + (flS S 2)) + (flS S 3)) + (flS S 4)) + (flS S 5))), (5, zi (svZ kN oN)), (4, zi (oN : Int)), (0, .ref (ah 0)), (1, .ref o0), (2, zi (kN : Int)), (3, zi bb)]) hx hb dL_isBest_207 hl (k := 1) rfl (by omega) (by decide) rfl (fun ls hl => ?_)
      refine lv_goto (tgt := 189) hx hb dL_isBest_210 (by decide) ?_
      refine lv_iload hx hb dL_isBest_189 (lv_at hl 0 rfl) ?_
      refine hz_bipush hx hb dL_isBest_191 (by decide) ?_
      refine hz_icmp_ge (tgt := 213) hx hb dL_isBest_193 (by decide) (by omega) (fun _ => ?_) (fun q => by exfalso; omega)
      refine lv_iload hx hb dL_isBest_213 (lv_at hl 6 rfl) ?_
      refine hz_if_ne (tgt := 252) hx hb dL_isBest_215 (by decide) (by omega) (fun q => by exfalso; omega) (fun _ => ?_)
      refine lv_iload hx hb dL_isBest_218 (lv_at hl 1 rfl) ?_
      refine lv_iload hx hb dL_isBest_220 (lv_at hl 7 rfl) ?_
      refine hz_icmp_ne (tgt := 252) hx hb dL_isBest_222 (by decide) (by omega) (fun q => by exfalso; omega) (fun _ => ?_)
      refine lv_aload_n hx hb dL_isBest_225 rfl (lv_at hl 11 rfl) ?_
      refine lv_iload hx hb dL_isBest_226 (lv_at hl 9 rfl) ?_
      refine hz_iconst hx hb dL_isBest_228 ?_
      refine hz_lawL (As := [.ref (ah 0), zi (svZ kN oN), zi (-1)]) (rest := []) ⟨hx, hb, hml, hown, hts⟩ (c_best l hlt G ah mi zE y _ (sF (sB (sA S 2 (upZ (upZ (S.2.2 2) (kN : Int) a0) (oN : Int) a1)) u52) u60.1 u60.2) (svZ kN oN) ((-1) : Int) (fc_F u60.1 u60.2 (fc_B u52 hI54)) hsv (by omega)) (vx_cwSW 3 hts gL_isBest_L_best rfl rfl rfl (by decide +kernel) ⟨Nat.le_of_ble_eq_true rfl, Nat.le_of_ble_eq_true rfl⟩) hP hK hD hS hA hGP hX hGN rfl hl.1 rfl (Nat.le_of_ble_eq_true rfl) dL_isBest_229 ⟨Nat.le_of_ble_eq_true rfl, Nat.le_of_ble_eq_true rfl⟩ (fun r u61 H locs hu hP hD hS => ?_)
      have hu : r = zI (brR (sA S 2 (upZ (upZ (S.2.2 2) (kN : Int) a0) (oN : Int) a1)) (svZ kN oN) ((-1) : Int)) := hu
      subst hu
      have hP : va_P G vwCl (wH ah y (sF (sB (sA S 2 (upZ (upZ (S.2.2 2) (kN : Int) a0) (oN : Int) a1)) u61) u60.1 u60.2) ++ dW o0 y d) H := hP
      have hD : va_D A (wH ah y (sF (sB (sA S 2 (upZ (upZ (S.2.2 2) (kN : Int) a0) (oN : Int) a1)) u61) u60.1 u60.2) ++ dW o0 y d) := hD
      have hbr3 : brR (sA S 2 (upZ (upZ (S.2.2 2) (kN : Int) a0) (oN : Int) a1)) (svZ kN oN) (-1) = (bsS S (svZ kN oN)).2 := by
        have q := brR_3 (S := (sA S 2 (upZ (upZ (S.2.2 2) (kN : Int) a0) (oN : Int) a1))) (sid := (svZ kN oN)) (which := -1) hok (by show -1 ≤ (-1 : Int) ∧ -1 < cntZ (svZ kN oN) (S.2.1 0); rw [hcn]; split <;> omega) (by rw [hsm2]; exact hb1)
        rw [hsm2] at q
        exact q
      refine hz_tope (z2 := (bsS S (svZ kN oN)).2) (by exact hbr3) ?_
      refine lv_iload hx hb dL_isBest_232 (lv_at hl 7 rfl) ?_
      refine hz_icmp_ne (tgt := 252) hx hb dL_isBest_234 (by decide) (by omega) (fun q => by exfalso; omega) (fun _ => ?_)
      refine lv_aload_n hx hb dL_isBest_237 rfl (lv_at hl 11 rfl) ?_
      refine lv_iload hx hb dL_isBest_238 (lv_at hl 9 rfl) ?_
      refine hz_cI (As := [zi (svZ kN oN)]) (rest := []) ⟨hx, hb, hml, hown, hts⟩ (b_bestAnew l hlt G ah zE y _ (sF (sB (sA S 2 (upZ (upZ (S.2.2 2) (kN : Int) a0) (oN : Int) a1)) u61) u60.1 u60.2) (svZ kN oN) (fc_F u60.1 u60.2 (fc_B u61 hI54)) (hsv) (hok) ((by show ¬ (bsS (sA S 2 (upZ (upZ (S.2.2 2) (kN : Int) a0) (oN : Int) a1)) (svZ kN oN)).1 = -1; rw [hsm2]; exact hb1))) (cwV 1 hts gL_isBest_X7_bestAnew rfl rfl rfl (by decide +kernel) ⟨Nat.le_of_ble_eq_true rfl, Nat.le_of_ble_eq_true rfl⟩) hP hK hD hS hA hGP 0 8 rfl rfl rfl rfl hl.1 rfl (Nat.le_of_ble_eq_true rfl) dL_isBest_240 ⟨Nat.le_of_ble_eq_true rfl, Nat.le_of_ble_eq_true rfl⟩ (fun _ => wH_fst rfl rfl rfl) (fun u62 H locs hu hP hD hS => ?_)
      have hP : va_P G vwCl (wH ah y (sF (sB (sA S 2 (upZ (upZ (S.2.2 2) (kN : Int) a0) (oN : Int) a1)) u62) u60.1 u60.2) ++ dW o0 y d) H := hP
      have hD : va_D A (wH ah y (sF (sB (sA S 2 (upZ (upZ (S.2.2 2) (kN : Int) a0) (oN : Int) a1)) u62) u60.1 u60.2) ++ dW o0 y d) := hD
      refine hz_tope (z2 := (bsS S (svZ kN oN)).2) (by exact congrArg Prod.snd hsm2) ?_
      refine lv_iload hx hb dL_isBest_243 (lv_at hl 7 rfl) ?_
      refine hz_icmp_ne (tgt := 252) hx hb dL_isBest_245 (by decide) (by omega) (fun q => by exfalso; omega) (fun _ => ?_)
      refine hz_iconst hx hb dL_isBest_248 ?_
      refine lv_goto (tgt := 253) hx hb dL_isBest_249 (by decide) ?_
      refine lv_istore (lv' := [(14, zi 1), (13, zi ((((((0 + (flS (sA S 2 (upZ (upZ (S.2.2 2) (kN : Int) a0) (oN : Int) a1)) 0)) + (flS (sA S 2 (upZ (upZ (S.2.2 2) (kN : Int) a0) (oN : Int) a1)) 1)) + (flS (sA S 2 (upZ (upZ (S.2.2 2) (kN : Int) a0) (oN : Int) a1)) 2)) + (flS (sA S 2 (upZ (upZ (S.2.2 2) (kN : Int) a0) (oN : Int) a1)) 3)) + (flS (sA S 2 (upZ (upZ (S.2.2 2) (kN : Int) a0) (oN : Int) a1)) 4)) + (flS (sA S 2 (upZ (upZ (S.2.2 2) (kN : Int) a0) (oN : Int) a1)) 5))), (12, zi (S.2.2 2 (oN : Int))), (11, zi ((S.2.2 2) (kN : Int))), (10, zi (oN : Int)), (9, zi (kN : Int)), (8, zi 0), (7, zi ((bsS S (svZ kN oN)).2)), (6, zi ((((((0 + (flS S 0)) + (flS S 1)) + (flS S 2)) + (flS S 3)) + (flS S 4)) + (flS S 5))), (5, zi (svZ kN oN)), (4, zi (oN : Int)), (0, .ref (ah 0)), (1, .ref o0), (2, zi (kN : Int)), (3, zi bb)]) hx hb dL_isBest_253 hl (by decide) rfl (fun ls hl => ?_)
      refine lv_aload_n hx hb dL_isBest_255 rfl (lv_at hl 11 rfl) ?_
      refine lv_iload hx hb dL_isBest_256 (lv_at hl 5 rfl) ?_
      refine lv_iload hx hb dL_isBest_258 (lv_at hl 3 rfl) ?_
      refine hz_cI (As := [zi (kN : Int), zi ((S.2.2 2) (kN : Int))]) (rest := []) ⟨hx, hb, hml, hown, hts⟩ (b_aim l hlt G ah zE y _ (sF (sB (sA S 2 (upZ (upZ (S.2.2 2) (kN : Int) a0) (oN : Int) a1)) u62) u60.1 u60.2) (kN : Int) ((S.2.2 2) (kN : Int)) (fc_F u60.1 u60.2 (fc_B u62 hI54)) (show 0 ≤ (kN : Int) ∧ (kN : Int) < (S.2.1 0) by omega) (show -1 ≤ ((S.2.2 2) (kN : Int)) ∧ ((S.2.2 2) (kN : Int)) ≤ 5 by omega) (show ¬ (S.2.2 5) (kN : Int) = 1 by omega)) (cwV 2 hts gL_isBest_X7_aim rfl rfl rfl (by decide +kernel) ⟨Nat.le_of_ble_eq_true rfl, Nat.le_of_ble_eq_true rfl⟩) hP hK hD hS hA hGP 0 8 rfl rfl rfl rfl hl.1 rfl (Nat.le_of_ble_eq_true rfl) dL_isBest_260 ⟨Nat.le_of_ble_eq_true rfl, Nat.le_of_ble_eq_true rfl⟩ (fun _ => wH_fst rfl rfl rfl) (fun u63 H locs hu hP hD hS => ?_)
      have hI64 : FC zE (sA S 2 (upZ (upZ (upZ (S.2.2 2) (kN : Int) a0) (oN : Int) a1) (kN : Int) ((S.2.2 2) (kN : Int)))) := (fc_aim (kN : Int) ((S.2.2 2) (kN : Int)) hI54 (by omega))
      have hP : va_P G vwCl (wH ah y (sF (sB (sA S 2 (upZ (upZ (upZ (S.2.2 2) (kN : Int) a0) (oN : Int) a1) (kN : Int) ((S.2.2 2) (kN : Int)))) u62) u60.1 u60.2) ++ dW o0 y d) H := hP
      have hD : va_D A (wH ah y (sF (sB (sA S 2 (upZ (upZ (upZ (S.2.2 2) (kN : Int) a0) (oN : Int) a1) (kN : Int) ((S.2.2 2) (kN : Int)))) u62) u60.1 u60.2) ++ dW o0 y d) := hD
      refine hz_tope (z2 := ((upZ (upZ (S.2.2 2) (kN : Int) a0) (oN : Int) a1) (kN : Int))) (by rfl) ?_
      refine lv_pop hx hb dL_isBest_263 rfl ?_
      refine lv_iload hx hb dL_isBest_264 (lv_at hl 5 rfl) ?_
      refine lv_iload hx hb dL_isBest_266 (lv_at hl 4 rfl) ?_
      refine hz_icmp_eq (tgt := 280) hx hb dL_isBest_268 (by decide) (by omega) (fun q => by exfalso; omega) (fun _ => ?_)
      refine lv_aload_n hx hb dL_isBest_271 rfl (lv_at hl 11 rfl) ?_
      refine lv_iload hx hb dL_isBest_272 (lv_at hl 4 rfl) ?_
      refine lv_iload hx hb dL_isBest_274 (lv_at hl 2 rfl) ?_
      refine hz_cI (As := [zi (oN : Int), zi (S.2.2 2 (oN : Int))]) (rest := []) ⟨hx, hb, hml, hown, hts⟩ (b_aim l hlt G ah zE y _ (sF (sB (sA S 2 (upZ (upZ (upZ (S.2.2 2) (kN : Int) a0) (oN : Int) a1) (kN : Int) ((S.2.2 2) (kN : Int)))) u62) u60.1 u60.2) (oN : Int) (S.2.2 2 (oN : Int)) (fc_F u60.1 u60.2 (fc_B u62 hI64)) (show 0 ≤ (oN : Int) ∧ (oN : Int) < (S.2.1 0) by omega) (show -1 ≤ (S.2.2 2 (oN : Int)) ∧ (S.2.2 2 (oN : Int)) ≤ 5 by omega) (show ¬ (S.2.2 5) (oN : Int) = 1 by omega)) (cwV 2 hts gL_isBest_X7_aim rfl rfl rfl (by decide +kernel) ⟨Nat.le_of_ble_eq_true rfl, Nat.le_of_ble_eq_true rfl⟩) hP hK hD hS hA hGP 0 8 rfl rfl rfl rfl hl.1 rfl (Nat.le_of_ble_eq_true rfl) dL_isBest_276 ⟨Nat.le_of_ble_eq_true rfl, Nat.le_of_ble_eq_true rfl⟩ (fun _ => wH_fst rfl rfl rfl) (fun u65 H locs hu hP hD hS => ?_)
      have hI66 : FC zE (sA S 2 (upZ (upZ (upZ (upZ (S.2.2 2) (kN : Int) a0) (oN : Int) a1) (kN : Int) ((S.2.2 2) (kN : Int))) (oN : Int) (S.2.2 2 (oN : Int)))) := (fc_aim (oN : Int) (S.2.2 2 (oN : Int)) hI64 (by omega))
      have hP : va_P G vwCl (wH ah y (sF (sB (sA S 2 (upZ (upZ (upZ (upZ (S.2.2 2) (kN : Int) a0) (oN : Int) a1) (kN : Int) ((S.2.2 2) (kN : Int))) (oN : Int) (S.2.2 2 (oN : Int)))) u62) u60.1 u60.2) ++ dW o0 y d) H := hP
      have hD : va_D A (wH ah y (sF (sB (sA S 2 (upZ (upZ (upZ (upZ (S.2.2 2) (kN : Int) a0) (oN : Int) a1) (kN : Int) ((S.2.2 2) (kN : Int))) (oN : Int) (S.2.2 2 (oN : Int)))) u62) u60.1 u60.2) ++ dW o0 y d) := hD
      refine hz_tope (z2 := ((upZ (upZ (upZ (S.2.2 2) (kN : Int) a0) (oN : Int) a1) (kN : Int) ((S.2.2 2) (kN : Int))) (oN : Int))) (by rfl) ?_
      refine lv_pop hx hb dL_isBest_279 rfl ?_
      refine lv_iload hx hb dL_isBest_280 (lv_at hl 0 rfl) ?_
      refine hz_if_eq (tgt := 303) hx hb dL_isBest_282 (by decide) (by omega) (fun q => by exfalso; omega) (fun _ => ?_)
      have hbk9 : (upZ (upZ (upZ (upZ (S.2.2 2) (kN : Int) a0) (oN : Int) a1) (kN : Int) ((S.2.2 2) (kN : Int))) (oN : Int) (S.2.2 2 (oN : Int))) = S.2.2 2 := by
        funext j
        by_cases z2 : j = (oN : Int)
        · rw [upZ_s z2, z2]
        · rw [upZ_n z2]
          by_cases z1 : j = (kN : Int)
          · rw [upZ_s z1, z1]
          · rw [upZ_n z1, upZ_n z2, upZ_n z1]
      have hsf9 : sfS (sA S 2 (upZ (upZ (upZ (upZ (S.2.2 2) (kN : Int) a0) (oN : Int) a1) (kN : Int) ((S.2.2 2) (kN : Int))) (oN : Int) (S.2.2 2 (oN : Int)))) = sfS S := by
        show sfZ (S.2.1 0) (upZ (upZ (upZ (upZ (S.2.2 2) (kN : Int) a0) (oN : Int) a1) (kN : Int) ((S.2.2 2) (kN : Int))) (oN : Int) (S.2.2 2 (oN : Int))) (S.2.2 3) (S.2.2 4) (ryS S) (S.2.2 12) = sfZ (S.2.1 0) (S.2.2 2) (S.2.2 3) (S.2.2 4) (ryS S) (S.2.2 12)
        rw [hbk9]
      refine lv_aload_n hx hb dL_isBest_285 rfl (lv_at hl 11 rfl) ?_
      refine hz_cI (As := []) (rest := []) ⟨hx, hb, hml, hown, hts⟩ (b_isSafe l G ah zE y _ (sF (sB (sA S 2 (upZ (upZ (upZ (upZ (S.2.2 2) (kN : Int) a0) (oN : Int) a1) (kN : Int) ((S.2.2 2) (kN : Int))) (oN : Int) (S.2.2 2 (oN : Int)))) u62) u60.1 u60.2)  (fc_F u60.1 u60.2 (fc_B u62 hI66)) ) (cwV 0 hts gL_isBest_X7_isSafe rfl rfl rfl (by decide +kernel) ⟨Nat.le_of_ble_eq_true rfl, Nat.le_of_ble_eq_true rfl⟩) hP hK hD hS hA hGP 0 8 rfl rfl rfl rfl hl.1 rfl (Nat.le_of_ble_eq_true rfl) dL_isBest_286 ⟨Nat.le_of_ble_eq_true rfl, Nat.le_of_ble_eq_true rfl⟩ (fun _ => wH_fst rfl rfl rfl) (fun u67 H locs hu hP hD hS => ?_)
      have hP : va_P G vwCl (wH ah y (sF (sB (sA S 2 (upZ (upZ (upZ (upZ (S.2.2 2) (kN : Int) a0) (oN : Int) a1) (kN : Int) ((S.2.2 2) (kN : Int))) (oN : Int) (S.2.2 2 (oN : Int)))) u62) u67.1 u67.2) ++ dW o0 y d) H := hP
      have hD : va_D A (wH ah y (sF (sB (sA S 2 (upZ (upZ (upZ (upZ (S.2.2 2) (kN : Int) a0) (oN : Int) a1) (kN : Int) ((S.2.2 2) (kN : Int))) (oN : Int) (S.2.2 2 (oN : Int)))) u62) u67.1 u67.2) ++ dW o0 y d) := hD
      refine hz_tope (z2 := (sfS S)) (by exact hsf9) ?_
      refine hz_if_eq (tgt := 299) hx hb dL_isBest_289 (by decide) (by omega) (fun c68 => ?_) (fun c68 => ?_)
      · refine hz_iconst hx hb dL_isBest_299 ?_
        refine lv_goto (tgt := 304) hx hb dL_isBest_300 (by decide) ?_
        exact hz_upM (Nat.le_of_ble_eq_true rfl) (Nat.le_of_ble_eq_true rfl) (W.zret (ty := .boolean) (v := zI 1) hx hb hr (zI_nb (by omega)) (fun t ht hW => ⟨⟨zI 1, ((sF (sB (sA S 2 (upZ (upZ (upZ (upZ (S.2.2 2) (kN : Int) a0) (oN : Int) a1) (kN : Int) ((S.2.2 2) (kN : Int))) (oN : Int) (S.2.2 2 (oN : Int)))) u62) u67.1 u67.2), d), rfl, ⟨rfl, (fc_F u67.1 u67.2 (fc_B u62 hI66)), hd, rfl⟩, hz_at2 hP hD ht⟩, hS.F ht⟩) hS.2.2 dL_isBest_304)
      · have qnow := bb_now (k := kN) (o := oN) hI hkn hon (by omega)
        rw [alS6] at qnow
        refine lv_iload hx hb dL_isBest_292 (lv_at hl 7 rfl) ?_
        refine lv_iload hx hb dL_isBest_294 (lv_at hl 8 rfl) ?_
        refine hz_icmp_lt (tgt := 303) hx hb dL_isBest_296 (by decide) (by omega) (fun q => by exfalso; omega) (fun _ => ?_)
        refine hz_iconst hx hb dL_isBest_299 ?_
        refine lv_goto (tgt := 304) hx hb dL_isBest_300 (by decide) ?_
        exact hz_upM (Nat.le_of_ble_eq_true rfl) (Nat.le_of_ble_eq_true rfl) (W.zret (ty := .boolean) (v := zI 1) hx hb hr (zI_nb (by omega)) (fun t ht hW => ⟨⟨zI 1, ((sF (sB (sA S 2 (upZ (upZ (upZ (upZ (S.2.2 2) (kN : Int) a0) (oN : Int) a1) (kN : Int) ((S.2.2 2) (kN : Int))) (oN : Int) (S.2.2 2 (oN : Int)))) u62) u67.1 u67.2), d), rfl, ⟨rfl, (fc_F u67.1 u67.2 (fc_B u62 hI66)), hd, rfl⟩, hz_at2 hP hD ht⟩, hS.F ht⟩) hS.2.2 dL_isBest_304)
