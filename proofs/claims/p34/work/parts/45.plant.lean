set_option maxHeartbeats 32000000 in
set_option maxRecDepth 100000 in
theorem c_isPlant (l : Launch) (hlt : l.stackTraces = false) (G : va_G) (ah : Nat → Nat) (mi zE : Nat) (y : Nat → ClassId) (o0 : Nat) (sz : Nat) (S : ST) (d : Int → Int) (k : Int) (hI : FC zE S) (hd : FD S d) (hk : 0 ≤ k ∧ k < S.2.1 0) : Met l yL_isPlant wsL_isPlant ({ frames := 8, cells := 100, slots := 600, locals := 176 }) (va_Pc [.ref (ah 0), .ref o0, zi k] (HPreL mi zE G (tyL y) (wH ah y S ++ dW o0 y d) sz)) (Q_law G ah zE y o0 S (va_A (wH ah y S ++ dW o0 y d) sz)) 100 600 (va_A (wH ah y S ++ dW o0 y d) sz) := by
  refine hz_ofWM (Qf := Q_law G ah zE y o0 S) (cc := cL_isPlant) (maxL := 9) (ret := some .boolean) (by decide) rfl (Nat.le_of_ble_eq_true rfl) ?_
  intro p e s m below meth c A ls hx hb hr hts hown hlocks hml hP hK hA hD hS hGP hX hGN hl
  have hown : s.vm.findClass RL = some m.cls := hown
  have hl : lv_has ls 9 [(0, .ref (ah 0)), (1, .ref o0), (2, zi k)] := hl
  have qN := hI.N
  have qNow := hI.Now
  have qS := hI.Salt
  have qP := hI.Pipe
  have qG := hI.Deg
  have qPD := hI.PD
  have qR := hI.Trips
  have qD1 := hd.D1
  have qD2 := hd.D2
  have qSE := hI.SE
  have qST := hI.STR
  rw [alS6] at qST
  have qp := pwS_rng hI k 0
  have qcv := cvS_01 S k
  have qsh := shS_01 S k
  have a0 := hI.SB 0 (by decide) (by decide)
  have a1 := hI.SB 1 (by decide) (by decide)
  have a2 := hI.SB 2 (by decide) (by decide)
  have a3 := hI.SB 3 (by decide) (by decide)
  have a4 := hI.SB 4 (by decide) (by decide)
  have a5 := hI.SB 5 (by decide) (by decide)
  have a6 := hI.SB 6 (by decide) (by decide)
  have a7 := hI.SB 7 (by decide) (by decide)
  have a8 := hI.SB 8 (by decide) (by decide)
  have a9 := hI.SB 9 (by decide) (by decide)
  have a10 := hI.SB 10 (by decide) (by decide)
  have a11 := hI.SB 11 (by decide) (by decide)
  have a12 := hI.SB 12 (by decide) (by decide)
  have l0 := flS_rng hI 0
  have s0 := hI.Strain 0
  have l1 := flS_rng hI 1
  have s1 := hI.Strain 1
  have l2 := flS_rng hI 2
  have s2 := hI.Strain 2
  have l3 := flS_rng hI 3
  have s3 := hI.Strain 3
  have l4 := flS_rng hI 4
  have s4 := hI.Strain 4
  have l5 := flS_rng hI 5
  have s5 := hI.Strain 5
  refine lv_aload_n hx hb dL_isPlant_0 rfl (lv_at hl 0 rfl) ?_
  refine hz_iconst hx hb dL_isPlant_1 ?_
  refine hz_cI (As := [zi 5]) (rest := []) ⟨hx, hb, hml, hown, hts⟩ (b_plantIs l hlt G ah zE y _ S (5 : Int) hI (show 0 ≤ (5 : Int) ∧ (5 : Int) ≤ 10 by omega)) (cwV 1 hts gL_isPlant_X7_plantIs rfl rfl rfl (by decide +kernel) ⟨Nat.le_of_ble_eq_true rfl, Nat.le_of_ble_eq_true rfl⟩) hP hK hD hS hA hGP 0 8 rfl rfl rfl rfl hl.1 rfl (Nat.le_of_ble_eq_true rfl) dL_isPlant_2 ⟨Nat.le_of_ble_eq_true rfl, Nat.le_of_ble_eq_true rfl⟩ (fun _ => rfl) (fun u1 H locs hu hP hD hS => ?_)
  have hP : va_P G vwCl (wH ah y S ++ dW o0 y d) H := hP
  have hD : va_D A (wH ah y S ++ dW o0 y d) := hD
  refine hz_tope (z2 := (S.2.1 6)) (by rfl) ?_
  refine lv_istore_n (lv' := [(3, zi (S.2.1 6)), (0, .ref (ah 0)), (1, .ref o0), (2, zi k)]) hx hb dL_isPlant_5 rfl hl (by decide) rfl (fun ls hl => ?_)
  refine lv_aload_n hx hb dL_isPlant_6 rfl (lv_at hl 1 rfl) ?_
  refine hz_iconst hx hb dL_isPlant_7 ?_
  refine hz_cI (As := [zi 4]) (rest := []) ⟨hx, hb, hml, hown, hts⟩ (b_plantIs l hlt G ah zE y _ S (4 : Int) hI (show 0 ≤ (4 : Int) ∧ (4 : Int) ≤ 10 by omega)) (cwV 1 hts gL_isPlant_X7_plantIs rfl rfl rfl (by decide +kernel) ⟨Nat.le_of_ble_eq_true rfl, Nat.le_of_ble_eq_true rfl⟩) hP hK hD hS hA hGP 0 8 rfl rfl rfl rfl hl.1 rfl (Nat.le_of_ble_eq_true rfl) dL_isPlant_8 ⟨Nat.le_of_ble_eq_true rfl, Nat.le_of_ble_eq_true rfl⟩ (fun _ => rfl) (fun u2 H locs hu hP hD hS => ?_)
  have hP : va_P G vwCl (wH ah y S ++ dW o0 y d) H := hP
  have hD : va_D A (wH ah y S ++ dW o0 y d) := hD
  refine hz_tope (z2 := (S.2.1 7)) (by rfl) ?_
  refine lv_istore (lv' := [(4, zi (S.2.1 7)), (3, zi (S.2.1 6)), (0, .ref (ah 0)), (1, .ref o0), (2, zi k)]) hx hb dL_isPlant_11 hl (by decide) rfl (fun ls hl => ?_)
  refine lv_iload_n hx hb dL_isPlant_13 rfl (lv_at hl 1 rfl) ?_
  have J76 : ∀ ls : Array Slot, lv_has ls 9 [(5, zi 1), (4, zi (S.2.1 7)), (3, zi (S.2.1 6)), (0, .ref (ah 0)), (1, .ref o0), (2, zi k)] → W p l e (headSpec wsL_isPlant ({ frames := 8, cells := 100, slots := 600, locals := 176 })).room s m ([.ref (ah 0), .ref o0, zi k] : List Value).toArray below meth c H locs ((0 + 1) + 1) ((0 + 6) + 6) (MQ below (Q_law G ah zE y o0 S A) ([.ref (ah 0), .ref o0, zi k] : List Value).toArray s 100 600 A) (F0 m 76 ls []) := by
    intro ls hl
    refine lv_iload hx hb dL_isPlant_76 (lv_at hl 0 rfl) ?_
    refine hz_if_eq (tgt := 239) hx hb dL_isPlant_78 (by decide) (by omega) (fun q => by exfalso; omega) (fun _ => ?_)
    refine lv_aload_n hx hb dL_isPlant_81 rfl (lv_at hl 3 rfl) ?_
    refine hz_iconst hx hb dL_isPlant_82 ?_
    refine hz_cI (As := [zi 0]) (rest := []) ⟨hx, hb, hml, hown, hts⟩ (b_plantIs l hlt G ah zE y _ S (0 : Int) hI (show 0 ≤ (0 : Int) ∧ (0 : Int) ≤ 10 by omega)) (cwV 1 hts gL_isPlant_X7_plantIs rfl rfl rfl (by decide +kernel) ⟨Nat.le_of_ble_eq_true rfl, Nat.le_of_ble_eq_true rfl⟩) hP hK hD hS hA hGP 0 8 rfl rfl rfl rfl hl.1 rfl (Nat.le_of_ble_eq_true rfl) dL_isPlant_83 ⟨Nat.le_of_ble_eq_true rfl, Nat.le_of_ble_eq_true rfl⟩ (fun _ => rfl) (fun u3 H locs hu hP hD hS => ?_)
    have hP : va_P G vwCl (wH ah y S ++ dW o0 y d) H := hP
    have hD : va_D A (wH ah y S ++ dW o0 y d) := hD
    refine hz_tope (z2 := (S.2.1 2)) (by rfl) ?_
    refine lv_aload_n hx hb dL_isPlant_86 rfl (lv_at hl 4 rfl) ?_
    refine hz_iconst hx hb dL_isPlant_87 ?_
    refine hz_dld hx hb hK hP (by omega) dL_isPlant_88 ?_
    refine hz_icmp_ne (tgt := 239) hx hb dL_isPlant_89 (by decide) (by omega) (fun q => by exfalso; omega) (fun _ => ?_)
    refine lv_aload_n hx hb dL_isPlant_92 rfl (lv_at hl 3 rfl) ?_
    refine hz_iconst hx hb dL_isPlant_93 ?_
    refine hz_cI (As := [zi 2]) (rest := []) ⟨hx, hb, hml, hown, hts⟩ (b_plantIs l hlt G ah zE y _ S (2 : Int) hI (show 0 ≤ (2 : Int) ∧ (2 : Int) ≤ 10 by omega)) (cwV 1 hts gL_isPlant_X7_plantIs rfl rfl rfl (by decide +kernel) ⟨Nat.le_of_ble_eq_true rfl, Nat.le_of_ble_eq_true rfl⟩) hP hK hD hS hA hGP 0 8 rfl rfl rfl rfl hl.1 rfl (Nat.le_of_ble_eq_true rfl) dL_isPlant_94 ⟨Nat.le_of_ble_eq_true rfl, Nat.le_of_ble_eq_true rfl⟩ (fun _ => rfl) (fun u4 H locs hu hP hD hS => ?_)
    have hP : va_P G vwCl (wH ah y S ++ dW o0 y d) H := hP
    have hD : va_D A (wH ah y S ++ dW o0 y d) := hD
    refine hz_tope (z2 := (S.2.1 4)) (by rfl) ?_
    refine lv_aload_n hx hb dL_isPlant_97 rfl (lv_at hl 3 rfl) ?_
    refine hz_iconst hx hb dL_isPlant_98 ?_
    refine hz_cI (As := [zi 3]) (rest := [zi (S.2.1 4)]) ⟨hx, hb, hml, hown, hts⟩ (b_plantIs l hlt G ah zE y _ S (3 : Int) hI (show 0 ≤ (3 : Int) ∧ (3 : Int) ≤ 10 by omega)) (cwV 1 hts gL_isPlant_X7_plantIs rfl rfl rfl (by decide +kernel) ⟨Nat.le_of_ble_eq_true rfl, Nat.le_of_ble_eq_true rfl⟩) hP hK hD hS hA hGP 0 8 rfl rfl rfl rfl hl.1 rfl (Nat.le_of_ble_eq_true rfl) dL_isPlant_99 ⟨Nat.le_of_ble_eq_true rfl, Nat.le_of_ble_eq_true rfl⟩ (fun _ => rfl) (fun u5 H locs hu hP hD hS => ?_)
    have hP : va_P G vwCl (wH ah y S ++ dW o0 y d) H := hP
    have hD : va_D A (wH ah y S ++ dW o0 y d) := hD
    refine hz_tope (z2 := (S.2.1 5)) (by rfl) ?_
    refine hz_iadd hx hb dL_isPlant_102 ?_
    refine hz_bipush hx hb dL_isPlant_103 (by decide) ?_
    refine lv_aload_n hx hb dL_isPlant_105 rfl (lv_at hl 4 rfl) ?_
    refine hz_iconst hx hb dL_isPlant_106 ?_
    refine hz_dld hx hb hK hP (by omega) dL_isPlant_107 ?_
    refine hz_iadd hx hb dL_isPlant_108 ?_
    refine hz_icmp_ne (tgt := 239) hx hb dL_isPlant_109 (by decide) (by omega) (fun q => by exfalso; omega) (fun _ => ?_)
    refine lv_aload_n hx hb dL_isPlant_112 rfl (lv_at hl 3 rfl) ?_
    refine hz_iconst hx hb dL_isPlant_113 ?_
    refine hz_cI (As := [zi 2]) (rest := []) ⟨hx, hb, hml, hown, hts⟩ (b_plantIs l hlt G ah zE y _ S (2 : Int) hI (show 0 ≤ (2 : Int) ∧ (2 : Int) ≤ 10 by omega)) (cwV 1 hts gL_isPlant_X7_plantIs rfl rfl rfl (by decide +kernel) ⟨Nat.le_of_ble_eq_true rfl, Nat.le_of_ble_eq_true rfl⟩) hP hK hD hS hA hGP 0 8 rfl rfl rfl rfl hl.1 rfl (Nat.le_of_ble_eq_true rfl) dL_isPlant_114 ⟨Nat.le_of_ble_eq_true rfl, Nat.le_of_ble_eq_true rfl⟩ (fun _ => rfl) (fun u6 H locs hu hP hD hS => ?_)
    have hP : va_P G vwCl (wH ah y S ++ dW o0 y d) H := hP
    have hD : va_D A (wH ah y S ++ dW o0 y d) := hD
    refine hz_tope (z2 := (S.2.1 4)) (by rfl) ?_
    refine hz_if_lt (tgt := 239) hx hb dL_isPlant_117 (by decide) (by omega) (fun q => by exfalso; omega) (fun _ => ?_)
    refine lv_aload_n hx hb dL_isPlant_120 rfl (lv_at hl 3 rfl) ?_
    refine hz_iconst hx hb dL_isPlant_121 ?_
    refine hz_cI (As := [zi 3]) (rest := []) ⟨hx, hb, hml, hown, hts⟩ (b_plantIs l hlt G ah zE y _ S (3 : Int) hI (show 0 ≤ (3 : Int) ∧ (3 : Int) ≤ 10 by omega)) (cwV 1 hts gL_isPlant_X7_plantIs rfl rfl rfl (by decide +kernel) ⟨Nat.le_of_ble_eq_true rfl, Nat.le_of_ble_eq_true rfl⟩) hP hK hD hS hA hGP 0 8 rfl rfl rfl rfl hl.1 rfl (Nat.le_of_ble_eq_true rfl) dL_isPlant_122 ⟨Nat.le_of_ble_eq_true rfl, Nat.le_of_ble_eq_true rfl⟩ (fun _ => rfl) (fun u7 H locs hu hP hD hS => ?_)
    have hP : va_P G vwCl (wH ah y S ++ dW o0 y d) H := hP
    have hD : va_D A (wH ah y S ++ dW o0 y d) := hD
    refine hz_tope (z2 := (S.2.1 5)) (by rfl) ?_
    refine hz_if_lt (tgt := 239) hx hb dL_isPlant_125 (by decide) (by omega) (fun q => by exfalso; omega) (fun _ => ?_)
    refine lv_aload_n hx hb dL_isPlant_128 rfl (lv_at hl 3 rfl) ?_
    refine hz_iconst hx hb dL_isPlant_129 ?_
    refine hz_cL (As := [zi 0]) (rest := []) ⟨hx, hb, hml, hown, hts⟩ (b_sum l hlt G ah zE y _ S (0 : Int) hI (show 0 ≤ (0 : Int) ∧ (0 : Int) ≤ 12 by omega)) (cwV 1 hts gL_isPlant_X7_sum rfl rfl rfl (by decide +kernel) ⟨Nat.le_of_ble_eq_true rfl, Nat.le_of_ble_eq_true rfl⟩) hP hK hD hS hA hGP 0 8 rfl rfl rfl rfl hl.1 rfl (Nat.le_of_ble_eq_true rfl) dL_isPlant_130 ⟨Nat.le_of_ble_eq_true rfl, Nat.le_of_ble_eq_true rfl⟩ (fun _ => rfl) (fun u8 H locs hu hP hD hS => ?_)
    have hP : va_P G vwCl (wH ah y S ++ dW o0 y d) H := hP
    have hD : va_D A (wH ah y S ++ dW o0 y d) := hD
    refine W.eq (g2 := F0 m 133 ls (zl ((S.2.2 16) 0) :: [])) rfl ?_
    refine lv_aload_n hx hb dL_isPlant_133 rfl (lv_at hl 3 rfl) ?_
    refine hz_iconst hx hb dL_isPlant_134 ?_
    refine hz_cL (As := [zi 1]) (rest := [zl ((S.2.2 16) 0)]) ⟨hx, hb, hml, hown, hts⟩ (b_sum l hlt G ah zE y _ S (1 : Int) hI (show 0 ≤ (1 : Int) ∧ (1 : Int) ≤ 12 by omega)) (cwV 1 hts gL_isPlant_X7_sum rfl rfl rfl (by decide +kernel) ⟨Nat.le_of_ble_eq_true rfl, Nat.le_of_ble_eq_true rfl⟩) hP hK hD hS hA hGP 0 8 rfl rfl rfl rfl hl.1 rfl (Nat.le_of_ble_eq_true rfl) dL_isPlant_135 ⟨Nat.le_of_ble_eq_true rfl, Nat.le_of_ble_eq_true rfl⟩ (fun _ => rfl) (fun u9 H locs hu hP hD hS => ?_)
    have hP : va_P G vwCl (wH ah y S ++ dW o0 y d) H := hP
    have hD : va_D A (wH ah y S ++ dW o0 y d) := hD
    refine W.eq (g2 := F0 m 138 ls (zl ((S.2.2 16) 1) :: zl ((S.2.2 16) 0) :: [])) rfl ?_
    refine lv_aload_n hx hb dL_isPlant_138 rfl (lv_at hl 3 rfl) ?_
    refine hz_iconst hx hb dL_isPlant_139 ?_
    refine hz_cL (As := [zi 2]) (rest := [zl ((S.2.2 16) 1), zl ((S.2.2 16) 0)]) ⟨hx, hb, hml, hown, hts⟩ (b_sum l hlt G ah zE y _ S (2 : Int) hI (show 0 ≤ (2 : Int) ∧ (2 : Int) ≤ 12 by omega)) (cwV 1 hts gL_isPlant_X7_sum rfl rfl rfl (by decide +kernel) ⟨Nat.le_of_ble_eq_true rfl, Nat.le_of_ble_eq_true rfl⟩) hP hK hD hS hA hGP 0 8 rfl rfl rfl rfl hl.1 rfl (Nat.le_of_ble_eq_true rfl) dL_isPlant_140 ⟨Nat.le_of_ble_eq_true rfl, Nat.le_of_ble_eq_true rfl⟩ (fun _ => rfl) (fun u10 H locs hu hP hD hS => ?_)
    have hP : va_P G vwCl (wH ah y S ++ dW o0 y d) H := hP
    have hD : va_D A (wH ah y S ++ dW o0 y d) := hD
    refine W.eq (g2 := F0 m 143 ls (zl ((S.2.2 16) 2) :: zl ((S.2.2 16) 1) :: zl ((S.2.2 16) 0) :: [])) rfl ?_
    refine hz_ladd hx hb dL_isPlant_143 ?_
    refine lv_aload_n hx hb dL_isPlant_144 rfl (lv_at hl 3 rfl) ?_
    refine hz_iconst hx hb dL_isPlant_145 ?_
    refine hz_cL (As := [zi 3]) (rest := [zl (((S.2.2 16) 1) + ((S.2.2 16) 2)), zl ((S.2.2 16) 0)]) ⟨hx, hb, hml, hown, hts⟩ (b_sum l hlt G ah zE y _ S (3 : Int) hI (show 0 ≤ (3 : Int) ∧ (3 : Int) ≤ 12 by omega)) (cwV 1 hts gL_isPlant_X7_sum rfl rfl rfl (by decide +kernel) ⟨Nat.le_of_ble_eq_true rfl, Nat.le_of_ble_eq_true rfl⟩) hP hK hD hS hA hGP 0 8 rfl rfl rfl rfl hl.1 rfl (Nat.le_of_ble_eq_true rfl) dL_isPlant_146 ⟨Nat.le_of_ble_eq_true rfl, Nat.le_of_ble_eq_true rfl⟩ (fun _ => rfl) (fun u11 H locs hu hP hD hS => ?_)
    have hP : va_P G vwCl (wH ah y S ++ dW o0 y d) H := hP
    have hD : va_D A (wH ah y S ++ dW o0 y d) := hD
    refine W.eq (g2 := F0 m 149 ls (zl ((S.2.2 16) 3) :: zl (((S.2.2 16) 1) + ((S.2.2 16) 2)) :: zl ((S.2.2 16) 0) :: [])) rfl ?_
    refine hz_ladd hx hb dL_isPlant_149 ?_
    refine hz_lcmp3 hx hb (by omega) dL_isPlant_150 ?_
    refine hz_if_ne (tgt := 239) hx hb dL_isPlant_151 (by decide) (by omega) (fun q => by exfalso; omega) (fun _ => ?_)
    refine lv_aload_n hx hb dL_isPlant_154 rfl (lv_at hl 3 rfl) ?_
    refine hz_iconst hx hb dL_isPlant_155 ?_
    refine hz_cL (As := [zi 3]) (rest := []) ⟨hx, hb, hml, hown, hts⟩ (b_sum l hlt G ah zE y _ S (3 : Int) hI (show 0 ≤ (3 : Int) ∧ (3 : Int) ≤ 12 by omega)) (cwV 1 hts gL_isPlant_X7_sum rfl rfl rfl (by decide +kernel) ⟨Nat.le_of_ble_eq_true rfl, Nat.le_of_ble_eq_true rfl⟩) hP hK hD hS hA hGP 0 8 rfl rfl rfl rfl hl.1 rfl (Nat.le_of_ble_eq_true rfl) dL_isPlant_156 ⟨Nat.le_of_ble_eq_true rfl, Nat.le_of_ble_eq_true rfl⟩ (fun _ => rfl) (fun u12 H locs hu hP hD hS => ?_)
    have hP : va_P G vwCl (wH ah y S ++ dW o0 y d) H := hP
    have hD : va_D A (wH ah y S ++ dW o0 y d) := hD
    refine W.eq (g2 := F0 m 159 ls (zl ((S.2.2 16) 3) :: [])) rfl ?_
    refine lv_aload_n hx hb dL_isPlant_159 rfl (lv_at hl 3 rfl) ?_
    refine hz_iconst hx hb dL_isPlant_160 ?_
    refine hz_cL (As := [zi 4]) (rest := [zl ((S.2.2 16) 3)]) ⟨hx, hb, hml, hown, hts⟩ (b_sum l hlt G ah zE y _ S (4 : Int) hI (show 0 ≤ (4 : Int) ∧ (4 : Int) ≤ 12 by omega)) (cwV 1 hts gL_isPlant_X7_sum rfl rfl rfl (by decide +kernel) ⟨Nat.le_of_ble_eq_true rfl, Nat.le_of_ble_eq_true rfl⟩) hP hK hD hS hA hGP 0 8 rfl rfl rfl rfl hl.1 rfl (Nat.le_of_ble_eq_true rfl) dL_isPlant_161 ⟨Nat.le_of_ble_eq_true rfl, Nat.le_of_ble_eq_true rfl⟩ (fun _ => rfl) (fun u13 H locs hu hP hD hS => ?_)
    have hP : va_P G vwCl (wH ah y S ++ dW o0 y d) H := hP
    have hD : va_D A (wH ah y S ++ dW o0 y d) := hD
    refine W.eq (g2 := F0 m 164 ls (zl ((S.2.2 16) 4) :: zl ((S.2.2 16) 3) :: [])) rfl ?_
    refine lv_ldc2 (v := zL 100) hx hb hown (hts (.constantLong RL 133 (100)) (List.mem_of_getElem? (i := 1) rfl)) dL_isPlant_164 ?_
    refine lv_aload_n hx hb dL_isPlant_167 rfl (lv_at hl 3 rfl) ?_
    refine hz_iconst hx hb dL_isPlant_168 ?_
    refine hz_cL (As := [zi 5]) (rest := [zl 100, zl ((S.2.2 16) 4), zl ((S.2.2 16) 3)]) ⟨hx, hb, hml, hown, hts⟩ (b_sum l hlt G ah zE y _ S (5 : Int) hI (show 0 ≤ (5 : Int) ∧ (5 : Int) ≤ 12 by omega)) (cwV 1 hts gL_isPlant_X7_sum rfl rfl rfl (by decide +kernel) ⟨Nat.le_of_ble_eq_true rfl, Nat.le_of_ble_eq_true rfl⟩) hP hK hD hS hA hGP 0 8 rfl rfl rfl rfl hl.1 rfl (Nat.le_of_ble_eq_true rfl) dL_isPlant_169 ⟨Nat.le_of_ble_eq_true rfl, Nat.le_of_ble_eq_true rfl⟩ (fun _ => rfl) (fun u14 H locs hu hP hD hS => ?_)
    have hP : va_P G vwCl (wH ah y S ++ dW o0 y d) H := hP
    have hD : va_D A (wH ah y S ++ dW o0 y d) := hD
    refine W.eq (g2 := F0 m 172 ls (zl ((S.2.2 16) 5) :: zl 100 :: zl ((S.2.2 16) 4) :: zl ((S.2.2 16) 3) :: [])) rfl ?_
    refine hz_lmul hx hb dL_isPlant_172 ?_
    refine hz_ladd hx hb dL_isPlant_173 ?_
    refine hz_lcmp3 hx hb (by omega) dL_isPlant_174 ?_
    refine hz_if_ne (tgt := 239) hx hb dL_isPlant_175 (by decide) (by omega) (fun q => by exfalso; omega) (fun _ => ?_)
    refine lv_aload_n hx hb dL_isPlant_178 rfl (lv_at hl 3 rfl) ?_
    refine hz_bipush hx hb dL_isPlant_179 (by decide) ?_
    refine hz_cL (As := [zi 6]) (rest := []) ⟨hx, hb, hml, hown, hts⟩ (b_sum l hlt G ah zE y _ S (6 : Int) hI (show 0 ≤ (6 : Int) ∧ (6 : Int) ≤ 12 by omega)) (cwV 1 hts gL_isPlant_X7_sum rfl rfl rfl (by decide +kernel) ⟨Nat.le_of_ble_eq_true rfl, Nat.le_of_ble_eq_true rfl⟩) hP hK hD hS hA hGP 0 8 rfl rfl rfl rfl hl.1 rfl (Nat.le_of_ble_eq_true rfl) dL_isPlant_181 ⟨Nat.le_of_ble_eq_true rfl, Nat.le_of_ble_eq_true rfl⟩ (fun _ => rfl) (fun u15 H locs hu hP hD hS => ?_)
    have hP : va_P G vwCl (wH ah y S ++ dW o0 y d) H := hP
    have hD : va_D A (wH ah y S ++ dW o0 y d) := hD
    refine W.eq (g2 := F0 m 184 ls (zl ((S.2.2 16) 6) :: [])) rfl ?_
    refine lv_aload_n hx hb dL_isPlant_184 rfl (lv_at hl 3 rfl) ?_
    refine hz_bipush hx hb dL_isPlant_185 (by decide) ?_
    refine hz_cL (As := [zi 8]) (rest := [zl ((S.2.2 16) 6)]) ⟨hx, hb, hml, hown, hts⟩ (b_sum l hlt G ah zE y _ S (8 : Int) hI (show 0 ≤ (8 : Int) ∧ (8 : Int) ≤ 12 by omega)) (cwV 1 hts gL_isPlant_X7_sum rfl rfl rfl (by decide +kernel) ⟨Nat.le_of_ble_eq_true rfl, Nat.le_of_ble_eq_true rfl⟩) hP hK hD hS hA hGP 0 8 rfl rfl rfl rfl hl.1 rfl (Nat.le_of_ble_eq_true rfl) dL_isPlant_187 ⟨Nat.le_of_ble_eq_true rfl, Nat.le_of_ble_eq_true rfl⟩ (fun _ => rfl) (fun u16 H locs hu hP hD hS => ?_)
    have hP : va_P G vwCl (wH ah y S ++ dW o0 y d) H := hP
    have hD : va_D A (wH ah y S ++ dW o0 y d) := hD
    refine W.eq (g2 := F0 m 190 ls (zl ((S.2.2 16) 8) :: zl ((S.2.2 16) 6) :: [])) rfl ?_
    refine hz_ladd hx hb dL_isPlant_190 ?_
    refine lv_aload_n hx hb dL_isPlant_191 rfl (lv_at hl 3 rfl) ?_
    refine hz_bipush hx hb dL_isPlant_192 (by decide) ?_
    refine hz_cL (As := [zi 7]) (rest := [zl (((S.2.2 16) 6) + ((S.2.2 16) 8))]) ⟨hx, hb, hml, hown, hts⟩ (b_sum l hlt G ah zE y _ S (7 : Int) hI (show 0 ≤ (7 : Int) ∧ (7 : Int) ≤ 12 by omega)) (cwV 1 hts gL_isPlant_X7_sum rfl rfl rfl (by decide +kernel) ⟨Nat.le_of_ble_eq_true rfl, Nat.le_of_ble_eq_true rfl⟩) hP hK hD hS hA hGP 0 8 rfl rfl rfl rfl hl.1 rfl (Nat.le_of_ble_eq_true rfl) dL_isPlant_194 ⟨Nat.le_of_ble_eq_true rfl, Nat.le_of_ble_eq_true rfl⟩ (fun _ => rfl) (fun u17 H locs hu hP hD hS => ?_)
    have hP : va_P G vwCl (wH ah y S ++ dW o0 y d) H := hP
    have hD : va_D A (wH ah y S ++ dW o0 y d) := hD
    refine W.eq (g2 := F0 m 197 ls (zl ((S.2.2 16) 7) :: zl (((S.2.2 16) 6) + ((S.2.2 16) 8)) :: [])) rfl ?_
    refine lv_aload_n hx hb dL_isPlant_197 rfl (lv_at hl 3 rfl) ?_
    refine hz_bipush hx hb dL_isPlant_198 (by decide) ?_
    refine hz_cL (As := [zi 9]) (rest := [zl ((S.2.2 16) 7), zl (((S.2.2 16) 6) + ((S.2.2 16) 8))]) ⟨hx, hb, hml, hown, hts⟩ (b_sum l hlt G ah zE y _ S (9 : Int) hI (show 0 ≤ (9 : Int) ∧ (9 : Int) ≤ 12 by omega)) (cwV 1 hts gL_isPlant_X7_sum rfl rfl rfl (by decide +kernel) ⟨Nat.le_of_ble_eq_true rfl, Nat.le_of_ble_eq_true rfl⟩) hP hK hD hS hA hGP 0 8 rfl rfl rfl rfl hl.1 rfl (Nat.le_of_ble_eq_true rfl) dL_isPlant_200 ⟨Nat.le_of_ble_eq_true rfl, Nat.le_of_ble_eq_true rfl⟩ (fun _ => rfl) (fun u18 H locs hu hP hD hS => ?_)
    have hP : va_P G vwCl (wH ah y S ++ dW o0 y d) H := hP
    have hD : va_D A (wH ah y S ++ dW o0 y d) := hD
    refine W.eq (g2 := F0 m 203 ls (zl ((S.2.2 16) 9) :: zl ((S.2.2 16) 7) :: zl (((S.2.2 16) 6) + ((S.2.2 16) 8)) :: [])) rfl ?_
    refine hz_ladd hx hb dL_isPlant_203 ?_
    refine lv_aload_n hx hb dL_isPlant_204 rfl (lv_at hl 3 rfl) ?_
    refine hz_bipush hx hb dL_isPlant_205 (by decide) ?_
    refine hz_cL (As := [zi 11]) (rest := [zl (((S.2.2 16) 7) + ((S.2.2 16) 9)), zl (((S.2.2 16) 6) + ((S.2.2 16) 8))]) ⟨hx, hb, hml, hown, hts⟩ (b_sum l hlt G ah zE y _ S (11 : Int) hI (show 0 ≤ (11 : Int) ∧ (11 : Int) ≤ 12 by omega)) (cwV 1 hts gL_isPlant_X7_sum rfl rfl rfl (by decide +kernel) ⟨Nat.le_of_ble_eq_true rfl, Nat.le_of_ble_eq_true rfl⟩) hP hK hD hS hA hGP 0 8 rfl rfl rfl rfl hl.1 rfl (Nat.le_of_ble_eq_true rfl) dL_isPlant_207 ⟨Nat.le_of_ble_eq_true rfl, Nat.le_of_ble_eq_true rfl⟩ (fun _ => rfl) (fun u19 H locs hu hP hD hS => ?_)
    have hP : va_P G vwCl (wH ah y S ++ dW o0 y d) H := hP
    have hD : va_D A (wH ah y S ++ dW o0 y d) := hD
    refine W.eq (g2 := F0 m 210 ls (zl ((S.2.2 16) 11) :: zl (((S.2.2 16) 7) + ((S.2.2 16) 9)) :: zl (((S.2.2 16) 6) + ((S.2.2 16) 8)) :: [])) rfl ?_
    refine hz_ladd hx hb dL_isPlant_210 ?_
    refine hz_lcmp3 hx hb (by omega) dL_isPlant_211 ?_
    refine hz_if_ne (tgt := 239) hx hb dL_isPlant_212 (by decide) (by omega) (fun q => by exfalso; omega) (fun _ => ?_)
    refine lv_aload_n hx hb dL_isPlant_215 rfl (lv_at hl 3 rfl) ?_
    refine hz_bipush hx hb dL_isPlant_216 (by decide) ?_
    refine hz_cL (As := [zi 12]) (rest := []) ⟨hx, hb, hml, hown, hts⟩ (b_sum l hlt G ah zE y _ S (12 : Int) hI (show 0 ≤ (12 : Int) ∧ (12 : Int) ≤ 12 by omega)) (cwV 1 hts gL_isPlant_X7_sum rfl rfl rfl (by decide +kernel) ⟨Nat.le_of_ble_eq_true rfl, Nat.le_of_ble_eq_true rfl⟩) hP hK hD hS hA hGP 0 8 rfl rfl rfl rfl hl.1 rfl (Nat.le_of_ble_eq_true rfl) dL_isPlant_218 ⟨Nat.le_of_ble_eq_true rfl, Nat.le_of_ble_eq_true rfl⟩ (fun _ => rfl) (fun u20 H locs hu hP hD hS => ?_)
    have hP : va_P G vwCl (wH ah y S ++ dW o0 y d) H := hP
    have hD : va_D A (wH ah y S ++ dW o0 y d) := hD
    refine W.eq (g2 := F0 m 221 ls (zl ((S.2.2 16) 12) :: [])) rfl ?_
    refine lv_ldc2 (v := zL 99) hx hb hown (hts (.constantLong RL 135 (99)) (List.mem_of_getElem? (i := 2) rfl)) dL_isPlant_221 ?_
    refine lv_aload_n hx hb dL_isPlant_224 rfl (lv_at hl 3 rfl) ?_
    refine hz_bipush hx hb dL_isPlant_225 (by decide) ?_
    refine hz_cL (As := [zi 11]) (rest := [zl 99, zl ((S.2.2 16) 12)]) ⟨hx, hb, hml, hown, hts⟩ (b_sum l hlt G ah zE y _ S (11 : Int) hI (show 0 ≤ (11 : Int) ∧ (11 : Int) ≤ 12 by omega)) (cwV 1 hts gL_isPlant_X7_sum rfl rfl rfl (by decide +kernel) ⟨Nat.le_of_ble_eq_true rfl, Nat.le_of_ble_eq_true rfl⟩) hP hK hD hS hA hGP 0 8 rfl rfl rfl rfl hl.1 rfl (Nat.le_of_ble_eq_true rfl) dL_isPlant_227 ⟨Nat.le_of_ble_eq_true rfl, Nat.le_of_ble_eq_true rfl⟩ (fun _ => rfl) (fun u21 H locs hu hP hD hS => ?_)
    have hP : va_P G vwCl (wH ah y S ++ dW o0 y d) H := hP
    have hD : va_D A (wH ah y S ++ dW o0 y d) := hD
    refine W.eq (g2 := F0 m 230 ls (zl ((S.2.2 16) 11) :: zl 99 :: zl ((S.2.2 16) 12) :: [])) rfl ?_
    refine hz_lmul hx hb dL_isPlant_230 ?_
    refine hz_lcmp3 hx hb (by omega) dL_isPlant_231 ?_
    refine hz_if_gt (tgt := 239) hx hb dL_isPlant_232 (by decide) (by omega) (fun q => by exfalso; omega) (fun _ => ?_)
    refine hz_iconst hx hb dL_isPlant_235 ?_
    refine lv_goto (tgt := 240) hx hb dL_isPlant_236 (by decide) ?_
    refine lv_istore (lv' := [(6, zi 1), (5, zi 1), (4, zi (S.2.1 7)), (3, zi (S.2.1 6)), (0, .ref (ah 0)), (1, .ref o0), (2, zi k)]) hx hb dL_isPlant_240 hl (by decide) rfl (fun ls hl => ?_)
    refine hz_iconst hx hb dL_isPlant_242 ?_
    refine lv_istore (lv' := [(7, zi 0), (6, zi 1), (5, zi 1), (4, zi (S.2.1 7)), (3, zi (S.2.1 6)), (0, .ref (ah 0)), (1, .ref o0), (2, zi k)]) hx hb dL_isPlant_243 hl (by decide) rfl (fun ls hl => ?_)
    refine hz_iconst hx hb dL_isPlant_245 ?_
    refine lv_istore (lv' := [(8, zi 0), (7, zi 0), (6, zi 1), (5, zi 1), (4, zi (S.2.1 7)), (3, zi (S.2.1 6)), (0, .ref (ah 0)), (1, .ref o0), (2, zi k)]) hx hb dL_isPlant_246 hl (by decide) rfl (fun ls hl => ?_)
    refine lv_iload hx hb dL_isPlant_248 (lv_at hl 0 rfl) ?_
    refine hz_bipush hx hb dL_isPlant_250 (by decide) ?_
    refine hz_icmp_ge (tgt := 299) hx hb dL_isPlant_252 (by decide) (by omega) (fun q => by exfalso; omega) (fun _ => ?_)
    refine lv_iload hx hb dL_isPlant_255 (lv_at hl 2 rfl) ?_
    refine hz_if_eq (tgt := 299) hx hb dL_isPlant_257 (by decide) (by omega) (fun q => by exfalso; omega) (fun _ => ?_)
    refine lv_iload hx hb dL_isPlant_260 (lv_at hl 1 rfl) ?_
    refine lv_aload_n hx hb dL_isPlant_262 rfl (lv_at hl 6 rfl) ?_
    refine lv_iload hx hb dL_isPlant_263 (lv_at hl 0 rfl) ?_
    refine hz_cI (As := [zi 0]) (rest := [zi 0]) ⟨hx, hb, hml, hown, hts⟩ (b_strain l hlt G ah zE y _ S (0 : Int) hI (show 0 ≤ (0 : Int) ∧ (0 : Int) ≤ 5 by omega)) (cwV 1 hts gL_isPlant_X7_strain rfl rfl rfl (by decide +kernel) ⟨Nat.le_of_ble_eq_true rfl, Nat.le_of_ble_eq_true rfl⟩) hP hK hD hS hA hGP 0 8 rfl rfl rfl rfl hl.1 rfl (Nat.le_of_ble_eq_true rfl) dL_isPlant_265 ⟨Nat.le_of_ble_eq_true rfl, Nat.le_of_ble_eq_true rfl⟩ (fun _ => rfl) (fun u22 H locs hu hP hD hS => ?_)
    have hP : va_P G vwCl (wH ah y S ++ dW o0 y d) H := hP
    have hD : va_D A (wH ah y S ++ dW o0 y d) := hD
    refine hz_tope (z2 := ((S.2.2 13) 0)) (by rfl) ?_
    refine hz_iadd hx hb dL_isPlant_268 ?_
    refine lv_istore (lv' := [(7, zi (0 + ((S.2.2 13) 0))), (8, zi 0), (6, zi 1), (5, zi 1), (4, zi (S.2.1 7)), (3, zi (S.2.1 6)), (0, .ref (ah 0)), (1, .ref o0), (2, zi k)]) hx hb dL_isPlant_269 hl (by decide) rfl (fun ls hl => ?_)
    refine lv_aload_n hx hb dL_isPlant_271 rfl (lv_at hl 6 rfl) ?_
    refine lv_iload hx hb dL_isPlant_272 (lv_at hl 1 rfl) ?_
    refine hz_cI (As := [zi 0]) (rest := []) ⟨hx, hb, hml, hown, hts⟩ (b_flux l hlt G ah zE y _ S (0 : Int) hI (show 0 ≤ (0 : Int) ∧ (0 : Int) ≤ 5 by omega)) (cwV 1 hts gL_isPlant_X7_flux rfl rfl rfl (by decide +kernel) ⟨Nat.le_of_ble_eq_true rfl, Nat.le_of_ble_eq_true rfl⟩) hP hK hD hS hA hGP 0 8 rfl rfl rfl rfl hl.1 rfl (Nat.le_of_ble_eq_true rfl) dL_isPlant_274 ⟨Nat.le_of_ble_eq_true rfl, Nat.le_of_ble_eq_true rfl⟩ (fun _ => wH_fst rfl rfl rfl) (fun u23 H locs hu hP hD hS => ?_)
    have hP : va_P G vwCl (wH ah y (sF S u23.1 u23.2) ++ dW o0 y d) H := hP
    have hD : va_D A (wH ah y (sF S u23.1 u23.2) ++ dW o0 y d) := hD
    refine hz_tope (z2 := (flS S 0)) (by rfl) ?_
    refine lv_aload_n hx hb dL_isPlant_277 rfl (lv_at hl 6 rfl) ?_
    refine lv_iload hx hb dL_isPlant_278 (lv_at hl 1 rfl) ?_
    refine hz_cI (As := [zi 0]) (rest := [zi (flS S 0)]) ⟨hx, hb, hml, hown, hts⟩ (b_fluxAnew l hlt G ah zE y _ (sF S u23.1 u23.2) (0 : Int) (fc_F u23.1 u23.2 hI) (show 0 ≤ (0 : Int) ∧ (0 : Int) ≤ 5 by omega)) (cwV 1 hts gL_isPlant_X7_fluxAnew rfl rfl rfl (by decide +kernel) ⟨Nat.le_of_ble_eq_true rfl, Nat.le_of_ble_eq_true rfl⟩) hP hK hD hS hA hGP 0 8 rfl rfl rfl rfl hl.1 rfl (Nat.le_of_ble_eq_true rfl) dL_isPlant_280 ⟨Nat.le_of_ble_eq_true rfl, Nat.le_of_ble_eq_true rfl⟩ (fun _ => rfl) (fun u24 H locs hu hP hD hS => ?_)
    have hP : va_P G vwCl (wH ah y (sF S u23.1 u23.2) ++ dW o0 y d) H := hP
    have hD : va_D A (wH ah y (sF S u23.1 u23.2) ++ dW o0 y d) := hD
    refine hz_tope (z2 := (flS S 0)) (by rfl) ?_
    refine hz_icmp_ne (tgt := 290) hx hb dL_isPlant_283 (by decide) (by omega) (fun q => by exfalso; omega) (fun _ => ?_)
    refine hz_iconst hx hb dL_isPlant_286 ?_
    refine lv_goto (tgt := 291) hx hb dL_isPlant_287 (by decide) ?_
    refine lv_istore (lv' := [(6, zi 1), (7, zi (0 + ((S.2.2 13) 0))), (8, zi 0), (5, zi 1), (4, zi (S.2.1 7)), (3, zi (S.2.1 6)), (0, .ref (ah 0)), (1, .ref o0), (2, zi k)]) hx hb dL_isPlant_291 hl (by decide) rfl (fun ls hl => ?_)
    refine hz_iinc (v := 1) (lv' := [(8, zi 1), (6, zi 1), (7, zi (0 + ((S.2.2 13) 0))), (5, zi 1), (4, zi (S.2.1 7)), (3, zi (S.2.1 6)), (0, .ref (ah 0)), (1, .ref o0), (2, zi k)]) hx hb dL_isPlant_293 hl (k := 2) rfl (by omega) (by decide) rfl (fun ls hl => ?_)
    refine lv_goto (tgt := 248) hx hb dL_isPlant_296 (by decide) ?_
    refine lv_iload hx hb dL_isPlant_248 (lv_at hl 0 rfl) ?_
    refine hz_bipush hx hb dL_isPlant_250 (by decide) ?_
    refine hz_icmp_ge (tgt := 299) hx hb dL_isPlant_252 (by decide) (by omega) (fun q => by exfalso; omega) (fun _ => ?_)
    refine lv_iload hx hb dL_isPlant_255 (lv_at hl 1 rfl) ?_
    refine hz_if_eq (tgt := 299) hx hb dL_isPlant_257 (by decide) (by omega) (fun q => by exfalso; omega) (fun _ => ?_)
    refine lv_iload hx hb dL_isPlant_260 (lv_at hl 2 rfl) ?_
    refine lv_aload_n hx hb dL_isPlant_262 rfl (lv_at hl 6 rfl) ?_
    refine lv_iload hx hb dL_isPlant_263 (lv_at hl 0 rfl) ?_
    refine hz_cI (As := [zi 1]) (rest := [zi (0 + ((S.2.2 13) 0))]) ⟨hx, hb, hml, hown, hts⟩ (b_strain l hlt G ah zE y _ (sF S u23.1 u23.2) (1 : Int) (fc_F u23.1 u23.2 hI) (show 0 ≤ (1 : Int) ∧ (1 : Int) ≤ 5 by omega)) (cwV 1 hts gL_isPlant_X7_strain rfl rfl rfl (by decide +kernel) ⟨Nat.le_of_ble_eq_true rfl, Nat.le_of_ble_eq_true rfl⟩) hP hK hD hS hA hGP 0 8 rfl rfl rfl rfl hl.1 rfl (Nat.le_of_ble_eq_true rfl) dL_isPlant_265 ⟨Nat.le_of_ble_eq_true rfl, Nat.le_of_ble_eq_true rfl⟩ (fun _ => rfl) (fun u25 H locs hu hP hD hS => ?_)
    have hP : va_P G vwCl (wH ah y (sF S u23.1 u23.2) ++ dW o0 y d) H := hP
    have hD : va_D A (wH ah y (sF S u23.1 u23.2) ++ dW o0 y d) := hD
    refine hz_tope (z2 := ((S.2.2 13) 1)) (by rfl) ?_
    refine hz_iadd hx hb dL_isPlant_268 ?_
    refine lv_istore (lv' := [(7, zi ((0 + ((S.2.2 13) 0)) + ((S.2.2 13) 1))), (8, zi 1), (6, zi 1), (5, zi 1), (4, zi (S.2.1 7)), (3, zi (S.2.1 6)), (0, .ref (ah 0)), (1, .ref o0), (2, zi k)]) hx hb dL_isPlant_269 hl (by decide) rfl (fun ls hl => ?_)
    refine lv_aload_n hx hb dL_isPlant_271 rfl (lv_at hl 6 rfl) ?_
    refine lv_iload hx hb dL_isPlant_272 (lv_at hl 1 rfl) ?_
    refine hz_cI (As := [zi 1]) (rest := []) ⟨hx, hb, hml, hown, hts⟩ (b_flux l hlt G ah zE y _ (sF S u23.1 u23.2) (1 : Int) (fc_F u23.1 u23.2 hI) (show 0 ≤ (1 : Int) ∧ (1 : Int) ≤ 5 by omega)) (cwV 1 hts gL_isPlant_X7_flux rfl rfl rfl (by decide +kernel) ⟨Nat.le_of_ble_eq_true rfl, Nat.le_of_ble_eq_true rfl⟩) hP hK hD hS hA hGP 0 8 rfl rfl rfl rfl hl.1 rfl (Nat.le_of_ble_eq_true rfl) dL_isPlant_274 ⟨Nat.le_of_ble_eq_true rfl, Nat.le_of_ble_eq_true rfl⟩ (fun _ => wH_fst rfl rfl rfl) (fun u26 H locs hu hP hD hS => ?_)
    have hP : va_P G vwCl (wH ah y (sF S u26.1 u26.2) ++ dW o0 y d) H := hP
    have hD : va_D A (wH ah y (sF S u26.1 u26.2) ++ dW o0 y d) := hD
    refine hz_tope (z2 := (flS S 1)) (by rfl) ?_
    refine lv_aload_n hx hb dL_isPlant_277 rfl (lv_at hl 6 rfl) ?_
    refine lv_iload hx hb dL_isPlant_278 (lv_at hl 1 rfl) ?_
    refine hz_cI (As := [zi 1]) (rest := [zi (flS S 1)]) ⟨hx, hb, hml, hown, hts⟩ (b_fluxAnew l hlt G ah zE y _ (sF S u26.1 u26.2) (1 : Int) (fc_F u26.1 u26.2 hI) (show 0 ≤ (1 : Int) ∧ (1 : Int) ≤ 5 by omega)) (cwV 1 hts gL_isPlant_X7_fluxAnew rfl rfl rfl (by decide +kernel) ⟨Nat.le_of_ble_eq_true rfl, Nat.le_of_ble_eq_true rfl⟩) hP hK hD hS hA hGP 0 8 rfl rfl rfl rfl hl.1 rfl (Nat.le_of_ble_eq_true rfl) dL_isPlant_280 ⟨Nat.le_of_ble_eq_true rfl, Nat.le_of_ble_eq_true rfl⟩ (fun _ => rfl) (fun u27 H locs hu hP hD hS => ?_)
    have hP : va_P G vwCl (wH ah y (sF S u26.1 u26.2) ++ dW o0 y d) H := hP
    have hD : va_D A (wH ah y (sF S u26.1 u26.2) ++ dW o0 y d) := hD
    refine hz_tope (z2 := (flS S 1)) (by rfl) ?_
    refine hz_icmp_ne (tgt := 290) hx hb dL_isPlant_283 (by decide) (by omega) (fun q => by exfalso; omega) (fun _ => ?_)
    refine hz_iconst hx hb dL_isPlant_286 ?_
    refine lv_goto (tgt := 291) hx hb dL_isPlant_287 (by decide) ?_
    refine lv_istore (lv' := [(6, zi 1), (7, zi ((0 + ((S.2.2 13) 0)) + ((S.2.2 13) 1))), (8, zi 1), (5, zi 1), (4, zi (S.2.1 7)), (3, zi (S.2.1 6)), (0, .ref (ah 0)), (1, .ref o0), (2, zi k)]) hx hb dL_isPlant_291 hl (by decide) rfl (fun ls hl => ?_)
    refine hz_iinc (v := 2) (lv' := [(8, zi 2), (6, zi 1), (7, zi ((0 + ((S.2.2 13) 0)) + ((S.2.2 13) 1))), (5, zi 1), (4, zi (S.2.1 7)), (3, zi (S.2.1 6)), (0, .ref (ah 0)), (1, .ref o0), (2, zi k)]) hx hb dL_isPlant_293 hl (k := 2) rfl (by omega) (by decide) rfl (fun ls hl => ?_)
    refine lv_goto (tgt := 248) hx hb dL_isPlant_296 (by decide) ?_
    refine lv_iload hx hb dL_isPlant_248 (lv_at hl 0 rfl) ?_
    refine hz_bipush hx hb dL_isPlant_250 (by decide) ?_
    refine hz_icmp_ge (tgt := 299) hx hb dL_isPlant_252 (by decide) (by omega) (fun q => by exfalso; omega) (fun _ => ?_)
    refine lv_iload hx hb dL_isPlant_255 (lv_at hl 1 rfl) ?_
    refine hz_if_eq (tgt := 299) hx hb dL_isPlant_257 (by decide) (by omega) (fun q => by exfalso; omega) (fun _ => ?_)
    refine lv_iload hx hb dL_isPlant_260 (lv_at hl 2 rfl) ?_
    refine lv_aload_n hx hb dL_isPlant_262 rfl (lv_at hl 6 rfl) ?_
    refine lv_iload hx hb dL_isPlant_263 (lv_at hl 0 rfl) ?_
    refine hz_cI (As := [zi 2]) (rest := [zi ((0 + ((S.2.2 13) 0)) + ((S.2.2 13) 1))]) ⟨hx, hb, hml, hown, hts⟩ (b_strain l hlt G ah zE y _ (sF S u26.1 u26.2) (2 : Int) (fc_F u26.1 u26.2 hI) (show 0 ≤ (2 : Int) ∧ (2 : Int) ≤ 5 by omega)) (cwV 1 hts gL_isPlant_X7_strain rfl rfl rfl (by decide +kernel) ⟨Nat.le_of_ble_eq_true rfl, Nat.le_of_ble_eq_true rfl⟩) hP hK hD hS hA hGP 0 8 rfl rfl rfl rfl hl.1 rfl (Nat.le_of_ble_eq_true rfl) dL_isPlant_265 ⟨Nat.le_of_ble_eq_true rfl, Nat.le_of_ble_eq_true rfl⟩ (fun _ => rfl) (fun u28 H locs hu hP hD hS => ?_)
    have hP : va_P G vwCl (wH ah y (sF S u26.1 u26.2) ++ dW o0 y d) H := hP
    have hD : va_D A (wH ah y (sF S u26.1 u26.2) ++ dW o0 y d) := hD
    refine hz_tope (z2 := ((S.2.2 13) 2)) (by rfl) ?_
    refine hz_iadd hx hb dL_isPlant_268 ?_
    refine lv_istore (lv' := [(7, zi (((0 + ((S.2.2 13) 0)) + ((S.2.2 13) 1)) + ((S.2.2 13) 2))), (8, zi 2), (6, zi 1), (5, zi 1), (4, zi (S.2.1 7)), (3, zi (S.2.1 6)), (0, .ref (ah 0)), (1, .ref o0), (2, zi k)]) hx hb dL_isPlant_269 hl (by decide) rfl (fun ls hl => ?_)
    refine lv_aload_n hx hb dL_isPlant_271 rfl (lv_at hl 6 rfl) ?_
    refine lv_iload hx hb dL_isPlant_272 (lv_at hl 1 rfl) ?_
    refine hz_cI (As := [zi 2]) (rest := []) ⟨hx, hb, hml, hown, hts⟩ (b_flux l hlt G ah zE y _ (sF S u26.1 u26.2) (2 : Int) (fc_F u26.1 u26.2 hI) (show 0 ≤ (2 : Int) ∧ (2 : Int) ≤ 5 by omega)) (cwV 1 hts gL_isPlant_X7_flux rfl rfl rfl (by decide +kernel) ⟨Nat.le_of_ble_eq_true rfl, Nat.le_of_ble_eq_true rfl⟩) hP hK hD hS hA hGP 0 8 rfl rfl rfl rfl hl.1 rfl (Nat.le_of_ble_eq_true rfl) dL_isPlant_274 ⟨Nat.le_of_ble_eq_true rfl, Nat.le_of_ble_eq_true rfl⟩ (fun _ => wH_fst rfl rfl rfl) (fun u29 H locs hu hP hD hS => ?_)
    have hP : va_P G vwCl (wH ah y (sF S u29.1 u29.2) ++ dW o0 y d) H := hP
    have hD : va_D A (wH ah y (sF S u29.1 u29.2) ++ dW o0 y d) := hD
    refine hz_tope (z2 := (flS S 2)) (by rfl) ?_
    refine lv_aload_n hx hb dL_isPlant_277 rfl (lv_at hl 6 rfl) ?_
    refine lv_iload hx hb dL_isPlant_278 (lv_at hl 1 rfl) ?_
    refine hz_cI (As := [zi 2]) (rest := [zi (flS S 2)]) ⟨hx, hb, hml, hown, hts⟩ (b_fluxAnew l hlt G ah zE y _ (sF S u29.1 u29.2) (2 : Int) (fc_F u29.1 u29.2 hI) (show 0 ≤ (2 : Int) ∧ (2 : Int) ≤ 5 by omega)) (cwV 1 hts gL_isPlant_X7_fluxAnew rfl rfl rfl (by decide +kernel) ⟨Nat.le_of_ble_eq_true rfl, Nat.le_of_ble_eq_true rfl⟩) hP hK hD hS hA hGP 0 8 rfl rfl rfl rfl hl.1 rfl (Nat.le_of_ble_eq_true rfl) dL_isPlant_280 ⟨Nat.le_of_ble_eq_true rfl, Nat.le_of_ble_eq_true rfl⟩ (fun _ => rfl) (fun u30 H locs hu hP hD hS => ?_)
    have hP : va_P G vwCl (wH ah y (sF S u29.1 u29.2) ++ dW o0 y d) H := hP
    have hD : va_D A (wH ah y (sF S u29.1 u29.2) ++ dW o0 y d) := hD
    refine hz_tope (z2 := (flS S 2)) (by rfl) ?_
    refine hz_icmp_ne (tgt := 290) hx hb dL_isPlant_283 (by decide) (by omega) (fun q => by exfalso; omega) (fun _ => ?_)
    refine hz_iconst hx hb dL_isPlant_286 ?_
    refine lv_goto (tgt := 291) hx hb dL_isPlant_287 (by decide) ?_
    refine lv_istore (lv' := [(6, zi 1), (7, zi (((0 + ((S.2.2 13) 0)) + ((S.2.2 13) 1)) + ((S.2.2 13) 2))), (8, zi 2), (5, zi 1), (4, zi (S.2.1 7)), (3, zi (S.2.1 6)), (0, .ref (ah 0)), (1, .ref o0), (2, zi k)]) hx hb dL_isPlant_291 hl (by decide) rfl (fun ls hl => ?_)
    refine hz_iinc (v := 3) (lv' := [(8, zi 3), (6, zi 1), (7, zi (((0 + ((S.2.2 13) 0)) + ((S.2.2 13) 1)) + ((S.2.2 13) 2))), (5, zi 1), (4, zi (S.2.1 7)), (3, zi (S.2.1 6)), (0, .ref (ah 0)), (1, .ref o0), (2, zi k)]) hx hb dL_isPlant_293 hl (k := 2) rfl (by omega) (by decide) rfl (fun ls hl => ?_)
    refine lv_goto (tgt := 248) hx hb dL_isPlant_296 (by decide) ?_
    refine lv_iload hx hb dL_isPlant_248 (lv_at hl 0 rfl) ?_
    refine hz_bipush hx hb dL_isPlant_250 (by decide) ?_
    refine hz_icmp_ge (tgt := 299) hx hb dL_isPlant_252 (by decide) (by omega) (fun q => by exfalso; omega) (fun _ => ?_)
    refine lv_iload hx hb dL_isPlant_255 (lv_at hl 1 rfl) ?_
    refine hz_if_eq (tgt := 299) hx hb dL_isPlant_257 (by decide) (by omega) (fun q => by exfalso; omega) (fun _ => ?_)
    refine lv_iload hx hb dL_isPlant_260 (lv_at hl 2 rfl) ?_
    refine lv_aload_n hx hb dL_isPlant_262 rfl (lv_at hl 6 rfl) ?_
    refine lv_iload hx hb dL_isPlant_263 (lv_at hl 0 rfl) ?_
    refine hz_cI (As := [zi 3]) (rest := [zi (((0 + ((S.2.2 13) 0)) + ((S.2.2 13) 1)) + ((S.2.2 13) 2))]) ⟨hx, hb, hml, hown, hts⟩ (b_strain l hlt G ah zE y _ (sF S u29.1 u29.2) (3 : Int) (fc_F u29.1 u29.2 hI) (show 0 ≤ (3 : Int) ∧ (3 : Int) ≤ 5 by omega)) (cwV 1 hts gL_isPlant_X7_strain rfl rfl rfl (by decide +kernel) ⟨Nat.le_of_ble_eq_true rfl, Nat.le_of_ble_eq_true rfl⟩) hP hK hD hS hA hGP 0 8 rfl rfl rfl rfl hl.1 rfl (Nat.le_of_ble_eq_true rfl) dL_isPlant_265 ⟨Nat.le_of_ble_eq_true rfl, Nat.le_of_ble_eq_true rfl⟩ (fun _ => rfl) (fun u31 H locs hu hP hD hS => ?_)
    have hP : va_P G vwCl (wH ah y (sF S u29.1 u29.2) ++ dW o0 y d) H := hP
    have hD : va_D A (wH ah y (sF S u29.1 u29.2) ++ dW o0 y d) := hD
    refine hz_tope (z2 := ((S.2.2 13) 3)) (by rfl) ?_
    refine hz_iadd hx hb dL_isPlant_268 ?_
    refine lv_istore (lv' := [(7, zi ((((0 + ((S.2.2 13) 0)) + ((S.2.2 13) 1)) + ((S.2.2 13) 2)) + ((S.2.2 13) 3))), (8, zi 3), (6, zi 1), (5, zi 1), (4, zi (S.2.1 7)), (3, zi (S.2.1 6)), (0, .ref (ah 0)), (1, .ref o0), (2, zi k)]) hx hb dL_isPlant_269 hl (by decide) rfl (fun ls hl => ?_)
    refine lv_aload_n hx hb dL_isPlant_271 rfl (lv_at hl 6 rfl) ?_
    refine lv_iload hx hb dL_isPlant_272 (lv_at hl 1 rfl) ?_
    refine hz_cI (As := [zi 3]) (rest := []) ⟨hx, hb, hml, hown, hts⟩ (b_flux l hlt G ah zE y _ (sF S u29.1 u29.2) (3 : Int) (fc_F u29.1 u29.2 hI) (show 0 ≤ (3 : Int) ∧ (3 : Int) ≤ 5 by omega)) (cwV 1 hts gL_isPlant_X7_flux rfl rfl rfl (by decide +kernel) ⟨Nat.le_of_ble_eq_true rfl, Nat.le_of_ble_eq_true rfl⟩) hP hK hD hS hA hGP 0 8 rfl rfl rfl rfl hl.1 rfl (Nat.le_of_ble_eq_true rfl) dL_isPlant_274 ⟨Nat.le_of_ble_eq_true rfl, Nat.le_of_ble_eq_true rfl⟩ (fun _ => wH_fst rfl rfl rfl) (fun u32 H locs hu hP hD hS => ?_)
    have hP : va_P G vwCl (wH ah y (sF S u32.1 u32.2) ++ dW o0 y d) H := hP
    have hD : va_D A (wH ah y (sF S u32.1 u32.2) ++ dW o0 y d) := hD
    refine hz_tope (z2 := (flS S 3)) (by rfl) ?_
    refine lv_aload_n hx hb dL_isPlant_277 rfl (lv_at hl 6 rfl) ?_
    refine lv_iload hx hb dL_isPlant_278 (lv_at hl 1 rfl) ?_
    refine hz_cI (As := [zi 3]) (rest := [zi (flS S 3)]) ⟨hx, hb, hml, hown, hts⟩ (b_fluxAnew l hlt G ah zE y _ (sF S u32.1 u32.2) (3 : Int) (fc_F u32.1 u32.2 hI) (show 0 ≤ (3 : Int) ∧ (3 : Int) ≤ 5 by omega)) (cwV 1 hts gL_isPlant_X7_fluxAnew rfl rfl rfl (by decide +kernel) ⟨Nat.le_of_ble_eq_true rfl, Nat.le_of_ble_eq_true rfl⟩) hP hK hD hS hA hGP 0 8 rfl rfl rfl rfl hl.1 rfl (Nat.le_of_ble_eq_true rfl) dL_isPlant_280 ⟨Nat.le_of_ble_eq_true rfl, Nat.le_of_ble_eq_true rfl⟩ (fun _ => rfl) (fun u33 H locs hu hP hD hS => ?_)
    have hP : va_P G vwCl (wH ah y (sF S u32.1 u32.2) ++ dW o0 y d) H := hP
    have hD : va_D A (wH ah y (sF S u32.1 u32.2) ++ dW o0 y d) := hD
    refine hz_tope (z2 := (flS S 3)) (by rfl) ?_
    refine hz_icmp_ne (tgt := 290) hx hb dL_isPlant_283 (by decide) (by omega) (fun q => by exfalso; omega) (fun _ => ?_)
    refine hz_iconst hx hb dL_isPlant_286 ?_
    refine lv_goto (tgt := 291) hx hb dL_isPlant_287 (by decide) ?_
    refine lv_istore (lv' := [(6, zi 1), (7, zi ((((0 + ((S.2.2 13) 0)) + ((S.2.2 13) 1)) + ((S.2.2 13) 2)) + ((S.2.2 13) 3))), (8, zi 3), (5, zi 1), (4, zi (S.2.1 7)), (3, zi (S.2.1 6)), (0, .ref (ah 0)), (1, .ref o0), (2, zi k)]) hx hb dL_isPlant_291 hl (by decide) rfl (fun ls hl => ?_)
    refine hz_iinc (v := 4) (lv' := [(8, zi 4), (6, zi 1), (7, zi ((((0 + ((S.2.2 13) 0)) + ((S.2.2 13) 1)) + ((S.2.2 13) 2)) + ((S.2.2 13) 3))), (5, zi 1), (4, zi (S.2.1 7)), (3, zi (S.2.1 6)), (0, .ref (ah 0)), (1, .ref o0), (2, zi k)]) hx hb dL_isPlant_293 hl (k := 2) rfl (by omega) (by decide) rfl (fun ls hl => ?_)
    refine lv_goto (tgt := 248) hx hb dL_isPlant_296 (by decide) ?_
    refine lv_iload hx hb dL_isPlant_248 (lv_at hl 0 rfl) ?_
    refine hz_bipush hx hb dL_isPlant_250 (by decide) ?_
    refine hz_icmp_ge (tgt := 299) hx hb dL_isPlant_252 (by decide) (by omega) (fun q => by exfalso; omega) (fun _ => ?_)
    refine lv_iload hx hb dL_isPlant_255 (lv_at hl 1 rfl) ?_
    refine hz_if_eq (tgt := 299) hx hb dL_isPlant_257 (by decide) (by omega) (fun q => by exfalso; omega) (fun _ => ?_)
    refine lv_iload hx hb dL_isPlant_260 (lv_at hl 2 rfl) ?_
    refine lv_aload_n hx hb dL_isPlant_262 rfl (lv_at hl 6 rfl) ?_
    refine lv_iload hx hb dL_isPlant_263 (lv_at hl 0 rfl) ?_
    refine hz_cI (As := [zi 4]) (rest := [zi ((((0 + ((S.2.2 13) 0)) + ((S.2.2 13) 1)) + ((S.2.2 13) 2)) + ((S.2.2 13) 3))]) ⟨hx, hb, hml, hown, hts⟩ (b_strain l hlt G ah zE y _ (sF S u32.1 u32.2) (4 : Int) (fc_F u32.1 u32.2 hI) (show 0 ≤ (4 : Int) ∧ (4 : Int) ≤ 5 by omega)) (cwV 1 hts gL_isPlant_X7_strain rfl rfl rfl (by decide +kernel) ⟨Nat.le_of_ble_eq_true rfl, Nat.le_of_ble_eq_true rfl⟩) hP hK hD hS hA hGP 0 8 rfl rfl rfl rfl hl.1 rfl (Nat.le_of_ble_eq_true rfl) dL_isPlant_265 ⟨Nat.le_of_ble_eq_true rfl, Nat.le_of_ble_eq_true rfl⟩ (fun _ => rfl) (fun u34 H locs hu hP hD hS => ?_)
    have hP : va_P G vwCl (wH ah y (sF S u32.1 u32.2) ++ dW o0 y d) H := hP
    have hD : va_D A (wH ah y (sF S u32.1 u32.2) ++ dW o0 y d) := hD
    refine hz_tope (z2 := ((S.2.2 13) 4)) (by rfl) ?_
    refine hz_iadd hx hb dL_isPlant_268 ?_
    refine lv_istore (lv' := [(7, zi (((((0 + ((S.2.2 13) 0)) + ((S.2.2 13) 1)) + ((S.2.2 13) 2)) + ((S.2.2 13) 3)) + ((S.2.2 13) 4))), (8, zi 4), (6, zi 1), (5, zi 1), (4, zi (S.2.1 7)), (3, zi (S.2.1 6)), (0, .ref (ah 0)), (1, .ref o0), (2, zi k)]) hx hb dL_isPlant_269 hl (by decide) rfl (fun ls hl => ?_)
    refine lv_aload_n hx hb dL_isPlant_271 rfl (lv_at hl 6 rfl) ?_
    refine lv_iload hx hb dL_isPlant_272 (lv_at hl 1 rfl) ?_
    refine hz_cI (As := [zi 4]) (rest := []) ⟨hx, hb, hml, hown, hts⟩ (b_flux l hlt G ah zE y _ (sF S u32.1 u32.2) (4 : Int) (fc_F u32.1 u32.2 hI) (show 0 ≤ (4 : Int) ∧ (4 : Int) ≤ 5 by omega)) (cwV 1 hts gL_isPlant_X7_flux rfl rfl rfl (by decide +kernel) ⟨Nat.le_of_ble_eq_true rfl, Nat.le_of_ble_eq_true rfl⟩) hP hK hD hS hA hGP 0 8 rfl rfl rfl rfl hl.1 rfl (Nat.le_of_ble_eq_true rfl) dL_isPlant_274 ⟨Nat.le_of_ble_eq_true rfl, Nat.le_of_ble_eq_true rfl⟩ (fun _ => wH_fst rfl rfl rfl) (fun u35 H locs hu hP hD hS => ?_)
    have hP : va_P G vwCl (wH ah y (sF S u35.1 u35.2) ++ dW o0 y d) H := hP
    have hD : va_D A (wH ah y (sF S u35.1 u35.2) ++ dW o0 y d) := hD
    refine hz_tope (z2 := (flS S 4)) (by rfl) ?_
    refine lv_aload_n hx hb dL_isPlant_277 rfl (lv_at hl 6 rfl) ?_
    refine lv_iload hx hb dL_isPlant_278 (lv_at hl 1 rfl) ?_
    refine hz_cI (As := [zi 4]) (rest := [zi (flS S 4)]) ⟨hx, hb, hml, hown, hts⟩ (b_fluxAnew l hlt G ah zE y _ (sF S u35.1 u35.2) (4 : Int) (fc_F u35.1 u35.2 hI) (show 0 ≤ (4 : Int) ∧ (4 : Int) ≤ 5 by omega)) (cwV 1 hts gL_isPlant_X7_fluxAnew rfl rfl rfl (by decide +kernel) ⟨Nat.le_of_ble_eq_true rfl, Nat.le_of_ble_eq_true rfl⟩) hP hK hD hS hA hGP 0 8 rfl rfl rfl rfl hl.1 rfl (Nat.le_of_ble_eq_true rfl) dL_isPlant_280 ⟨Nat.le_of_ble_eq_true rfl, Nat.le_of_ble_eq_true rfl⟩ (fun _ => rfl) (fun u36 H locs hu hP hD hS => ?_)
    have hP : va_P G vwCl (wH ah y (sF S u35.1 u35.2) ++ dW o0 y d) H := hP
    have hD : va_D A (wH ah y (sF S u35.1 u35.2) ++ dW o0 y d) := hD
    refine hz_tope (z2 := (flS S 4)) (by rfl) ?_
    refine hz_icmp_ne (tgt := 290) hx hb dL_isPlant_283 (by decide) (by omega) (fun q => by exfalso; omega) (fun _ => ?_)
    refine hz_iconst hx hb dL_isPlant_286 ?_
    refine lv_goto (tgt := 291) hx hb dL_isPlant_287 (by decide) ?_
    refine lv_istore (lv' := [(6, zi 1), (7, zi (((((0 + ((S.2.2 13) 0)) + ((S.2.2 13) 1)) + ((S.2.2 13) 2)) + ((S.2.2 13) 3)) + ((S.2.2 13) 4))), (8, zi 4), (5, zi 1), (4, zi (S.2.1 7)), (3, zi (S.2.1 6)), (0, .ref (ah 0)), (1, .ref o0), (2, zi k)]) hx hb dL_isPlant_291 hl (by decide) rfl (fun ls hl => ?_)
    refine hz_iinc (v := 5) (lv' := [(8, zi 5), (6, zi 1), (7, zi (((((0 + ((S.2.2 13) 0)) + ((S.2.2 13) 1)) + ((S.2.2 13) 2)) + ((S.2.2 13) 3)) + ((S.2.2 13) 4))), (5, zi 1), (4, zi (S.2.1 7)), (3, zi (S.2.1 6)), (0, .ref (ah 0)), (1, .ref o0), (2, zi k)]) hx hb dL_isPlant_293 hl (k := 2) rfl (by omega) (by decide) rfl (fun ls hl => ?_)
    refine lv_goto (tgt := 248) hx hb dL_isPlant_296 (by decide) ?_
    refine lv_iload hx hb dL_isPlant_248 (lv_at hl 0 rfl) ?_
    refine hz_bipush hx hb dL_isPlant_250 (by decide) ?_
    refine hz_icmp_ge (tgt := 299) hx hb dL_isPlant_252 (by decide) (by omega) (fun q => by exfalso; omega) (fun _ => ?_)
    refine lv_iload hx hb dL_isPlant_255 (lv_at hl 1 rfl) ?_
    refine hz_if_eq (tgt := 299) hx hb dL_isPlant_257 (by decide) (by omega) (fun q => by exfalso; omega) (fun _ => ?_)
    refine lv_iload hx hb dL_isPlant_260 (lv_at hl 2 rfl) ?_
    refine lv_aload_n hx hb dL_isPlant_262 rfl (lv_at hl 6 rfl) ?_
    refine lv_iload hx hb dL_isPlant_263 (lv_at hl 0 rfl) ?_
    refine hz_cI (As := [zi 5]) (rest := [zi (((((0 + ((S.2.2 13) 0)) + ((S.2.2 13) 1)) + ((S.2.2 13) 2)) + ((S.2.2 13) 3)) + ((S.2.2 13) 4))]) ⟨hx, hb, hml, hown, hts⟩ (b_strain l hlt G ah zE y _ (sF S u35.1 u35.2) (5 : Int) (fc_F u35.1 u35.2 hI) (show 0 ≤ (5 : Int) ∧ (5 : Int) ≤ 5 by omega)) (cwV 1 hts gL_isPlant_X7_strain rfl rfl rfl (by decide +kernel) ⟨Nat.le_of_ble_eq_true rfl, Nat.le_of_ble_eq_true rfl⟩) hP hK hD hS hA hGP 0 8 rfl rfl rfl rfl hl.1 rfl (Nat.le_of_ble_eq_true rfl) dL_isPlant_265 ⟨Nat.le_of_ble_eq_true rfl, Nat.le_of_ble_eq_true rfl⟩ (fun _ => rfl) (fun u37 H locs hu hP hD hS => ?_)
    have hP : va_P G vwCl (wH ah y (sF S u35.1 u35.2) ++ dW o0 y d) H := hP
    have hD : va_D A (wH ah y (sF S u35.1 u35.2) ++ dW o0 y d) := hD
    refine hz_tope (z2 := ((S.2.2 13) 5)) (by rfl) ?_
    refine hz_iadd hx hb dL_isPlant_268 ?_
    refine lv_istore (lv' := [(7, zi ((((((0 + ((S.2.2 13) 0)) + ((S.2.2 13) 1)) + ((S.2.2 13) 2)) + ((S.2.2 13) 3)) + ((S.2.2 13) 4)) + ((S.2.2 13) 5))), (8, zi 5), (6, zi 1), (5, zi 1), (4, zi (S.2.1 7)), (3, zi (S.2.1 6)), (0, .ref (ah 0)), (1, .ref o0), (2, zi k)]) hx hb dL_isPlant_269 hl (by decide) rfl (fun ls hl => ?_)
    refine lv_aload_n hx hb dL_isPlant_271 rfl (lv_at hl 6 rfl) ?_
    refine lv_iload hx hb dL_isPlant_272 (lv_at hl 1 rfl) ?_
    refine hz_cI (As := [zi 5]) (rest := []) ⟨hx, hb, hml, hown, hts⟩ (b_flux l hlt G ah zE y _ (sF S u35.1 u35.2) (5 : Int) (fc_F u35.1 u35.2 hI) (show 0 ≤ (5 : Int) ∧ (5 : Int) ≤ 5 by omega)) (cwV 1 hts gL_isPlant_X7_flux rfl rfl rfl (by decide +kernel) ⟨Nat.le_of_ble_eq_true rfl, Nat.le_of_ble_eq_true rfl⟩) hP hK hD hS hA hGP 0 8 rfl rfl rfl rfl hl.1 rfl (Nat.le_of_ble_eq_true rfl) dL_isPlant_274 ⟨Nat.le_of_ble_eq_true rfl, Nat.le_of_ble_eq_true rfl⟩ (fun _ => wH_fst rfl rfl rfl) (fun u38 H locs hu hP hD hS => ?_)
    have hP : va_P G vwCl (wH ah y (sF S u38.1 u38.2) ++ dW o0 y d) H := hP
    have hD : va_D A (wH ah y (sF S u38.1 u38.2) ++ dW o0 y d) := hD
    refine hz_tope (z2 := (flS S 5)) (by rfl) ?_
    refine lv_aload_n hx hb dL_isPlant_277 rfl (lv_at hl 6 rfl) ?_
    refine lv_iload hx hb dL_isPlant_278 (lv_at hl 1 rfl) ?_
    refine hz_cI (As := [zi 5]) (rest := [zi (flS S 5)]) ⟨hx, hb, hml, hown, hts⟩ (b_fluxAnew l hlt G ah zE y _ (sF S u38.1 u38.2) (5 : Int) (fc_F u38.1 u38.2 hI) (show 0 ≤ (5 : Int) ∧ (5 : Int) ≤ 5 by omega)) (cwV 1 hts gL_isPlant_X7_fluxAnew rfl rfl rfl (by decide +kernel) ⟨Nat.le_of_ble_eq_true rfl, Nat.le_of_ble_eq_true rfl⟩) hP hK hD hS hA hGP 0 8 rfl rfl rfl rfl hl.1 rfl (Nat.le_of_ble_eq_true rfl) dL_isPlant_280 ⟨Nat.le_of_ble_eq_true rfl, Nat.le_of_ble_eq_true rfl⟩ (fun _ => rfl) (fun u39 H locs hu hP hD hS => ?_)
    have hP : va_P G vwCl (wH ah y (sF S u38.1 u38.2) ++ dW o0 y d) H := hP
    have hD : va_D A (wH ah y (sF S u38.1 u38.2) ++ dW o0 y d) := hD
    refine hz_tope (z2 := (flS S 5)) (by rfl) ?_
    refine hz_icmp_ne (tgt := 290) hx hb dL_isPlant_283 (by decide) (by omega) (fun q => by exfalso; omega) (fun _ => ?_)
    refine hz_iconst hx hb dL_isPlant_286 ?_
    refine lv_goto (tgt := 291) hx hb dL_isPlant_287 (by decide) ?_
    refine lv_istore (lv' := [(6, zi 1), (7, zi ((((((0 + ((S.2.2 13) 0)) + ((S.2.2 13) 1)) + ((S.2.2 13) 2)) + ((S.2.2 13) 3)) + ((S.2.2 13) 4)) + ((S.2.2 13) 5))), (8, zi 5), (5, zi 1), (4, zi (S.2.1 7)), (3, zi (S.2.1 6)), (0, .ref (ah 0)), (1, .ref o0), (2, zi k)]) hx hb dL_isPlant_291 hl (by decide) rfl (fun ls hl => ?_)
    refine hz_iinc (v := 6) (lv' := [(8, zi 6), (6, zi 1), (7, zi ((((((0 + ((S.2.2 13) 0)) + ((S.2.2 13) 1)) + ((S.2.2 13) 2)) + ((S.2.2 13) 3)) + ((S.2.2 13) 4)) + ((S.2.2 13) 5))), (5, zi 1), (4, zi (S.2.1 7)), (3, zi (S.2.1 6)), (0, .ref (ah 0)), (1, .ref o0), (2, zi k)]) hx hb dL_isPlant_293 hl (k := 2) rfl (by omega) (by decide) rfl (fun ls hl => ?_)
    refine lv_goto (tgt := 248) hx hb dL_isPlant_296 (by decide) ?_
    refine lv_iload hx hb dL_isPlant_248 (lv_at hl 0 rfl) ?_
    refine hz_bipush hx hb dL_isPlant_250 (by decide) ?_
    refine hz_icmp_ge (tgt := 299) hx hb dL_isPlant_252 (by decide) (by omega) (fun _ => ?_) (fun q => by exfalso; omega)
    refine lv_iload hx hb dL_isPlant_299 (lv_at hl 1 rfl) ?_
    refine hz_if_eq (tgt := 388) hx hb dL_isPlant_301 (by decide) (by omega) (fun q => by exfalso; omega) (fun _ => ?_)
    refine lv_iload hx hb dL_isPlant_304 (lv_at hl 2 rfl) ?_
    refine lv_aload_n hx hb dL_isPlant_306 rfl (lv_at hl 6 rfl) ?_
    refine hz_bipush hx hb dL_isPlant_307 (by decide) ?_
    refine hz_cI (As := [zi 10]) (rest := [zi ((((((0 + ((S.2.2 13) 0)) + ((S.2.2 13) 1)) + ((S.2.2 13) 2)) + ((S.2.2 13) 3)) + ((S.2.2 13) 4)) + ((S.2.2 13) 5))]) ⟨hx, hb, hml, hown, hts⟩ (b_plantIs l hlt G ah zE y _ (sF S u38.1 u38.2) (10 : Int) (fc_F u38.1 u38.2 hI) (show 0 ≤ (10 : Int) ∧ (10 : Int) ≤ 10 by omega)) (cwV 1 hts gL_isPlant_X7_plantIs rfl rfl rfl (by decide +kernel) ⟨Nat.le_of_ble_eq_true rfl, Nat.le_of_ble_eq_true rfl⟩) hP hK hD hS hA hGP 0 8 rfl rfl rfl rfl hl.1 rfl (Nat.le_of_ble_eq_true rfl) dL_isPlant_309 ⟨Nat.le_of_ble_eq_true rfl, Nat.le_of_ble_eq_true rfl⟩ (fun _ => rfl) (fun u40 H locs hu hP hD hS => ?_)
    have hP : va_P G vwCl (wH ah y (sF S u38.1 u38.2) ++ dW o0 y d) H := hP
    have hD : va_D A (wH ah y (sF S u38.1 u38.2) ++ dW o0 y d) := hD
    refine hz_tope (z2 := (S.2.1 14)) (by rfl) ?_
    refine hz_icmp_lt (tgt := 388) hx hb dL_isPlant_312 (by decide) (by omega) (fun q => by exfalso; omega) (fun _ => ?_)
    refine lv_iload hx hb dL_isPlant_315 (lv_at hl 2 rfl) ?_
    refine hz_bipush hx hb dL_isPlant_317 (by decide) ?_
    refine lv_aload_n hx hb dL_isPlant_319 rfl (lv_at hl 6 rfl) ?_
    refine hz_bipush hx hb dL_isPlant_320 (by decide) ?_
    refine hz_cI (As := [zi 10]) (rest := [zi 6, zi ((((((0 + ((S.2.2 13) 0)) + ((S.2.2 13) 1)) + ((S.2.2 13) 2)) + ((S.2.2 13) 3)) + ((S.2.2 13) 4)) + ((S.2.2 13) 5))]) ⟨hx, hb, hml, hown, hts⟩ (b_plantIs l hlt G ah zE y _ (sF S u38.1 u38.2) (10 : Int) (fc_F u38.1 u38.2 hI) (show 0 ≤ (10 : Int) ∧ (10 : Int) ≤ 10 by omega)) (cwV 1 hts gL_isPlant_X7_plantIs rfl rfl rfl (by decide +kernel) ⟨Nat.le_of_ble_eq_true rfl, Nat.le_of_ble_eq_true rfl⟩) hP hK hD hS hA hGP 0 8 rfl rfl rfl rfl hl.1 rfl (Nat.le_of_ble_eq_true rfl) dL_isPlant_322 ⟨Nat.le_of_ble_eq_true rfl, Nat.le_of_ble_eq_true rfl⟩ (fun _ => rfl) (fun u41 H locs hu hP hD hS => ?_)
    have hP : va_P G vwCl (wH ah y (sF S u38.1 u38.2) ++ dW o0 y d) H := hP
    have hD : va_D A (wH ah y (sF S u38.1 u38.2) ++ dW o0 y d) := hD
    refine hz_tope (z2 := (S.2.1 14)) (by rfl) ?_
    refine hz_imul hx hb dL_isPlant_325 ?_
    refine hz_icmp_gt (tgt := 388) hx hb dL_isPlant_326 (by decide) (by omega) (fun q => by exfalso; omega) (fun _ => ?_)
    refine lv_aload_n hx hb dL_isPlant_329 rfl (lv_at hl 6 rfl) ?_
    refine hz_cF (As := []) (rest := []) ⟨hx, hb, hml, hown, hts⟩ (b_kept l G ah zE y _ (sF S u38.1 u38.2)  (fc_F u38.1 u38.2 hI) ) (cwV 0 hts gL_isPlant_X7_kept rfl rfl rfl (by decide +kernel) ⟨Nat.le_of_ble_eq_true rfl, Nat.le_of_ble_eq_true rfl⟩) hP hK hD hS hA hGP 0 8 rfl rfl rfl rfl hl.1 rfl (Nat.le_of_ble_eq_true rfl) dL_isPlant_330 ⟨Nat.le_of_ble_eq_true rfl, Nat.le_of_ble_eq_true rfl⟩ (fun _ => rfl) (fun u42 H locs hu hP hD hS => ?_)
    have hP : va_P G vwCl (wH ah y (sF S u38.1 u38.2) ++ dW o0 y d) H := hP
    have hD : va_D A (wH ah y (sF S u38.1 u38.2) ++ dW o0 y d) := hD
    refine W.eq (g2 := F0 m 333 ls (.float (kpL (zL ((S.2.2 16) 3)) (zL ((S.2.2 16) 4))) :: [])) rfl ?_
    refine lv_fconst0 hx hb dL_isPlant_333 ?_
    refine lv_fcmp hx hb dL_isPlant_334 ?_
    obtain ⟨fv43, hfv43, efv43⟩ := kp_lo (b := (S.2.2 16) 3) (x := (S.2.2 16) 4) ⟨by omega, by omega, by omega⟩
    rw [efv43]
    refine hz_if_lt (tgt := 388) hx hb dL_isPlant_335 (by decide) (by omega) (fun q => by exfalso; omega) (fun _ => ?_)
    refine lv_aload_n hx hb dL_isPlant_338 rfl (lv_at hl 6 rfl) ?_
    refine hz_cF (As := []) (rest := []) ⟨hx, hb, hml, hown, hts⟩ (b_kept l G ah zE y _ (sF S u38.1 u38.2)  (fc_F u38.1 u38.2 hI) ) (cwV 0 hts gL_isPlant_X7_kept rfl rfl rfl (by decide +kernel) ⟨Nat.le_of_ble_eq_true rfl, Nat.le_of_ble_eq_true rfl⟩) hP hK hD hS hA hGP 0 8 rfl rfl rfl rfl hl.1 rfl (Nat.le_of_ble_eq_true rfl) dL_isPlant_339 ⟨Nat.le_of_ble_eq_true rfl, Nat.le_of_ble_eq_true rfl⟩ (fun _ => rfl) (fun u44 H locs hu hP hD hS => ?_)
    have hP : va_P G vwCl (wH ah y (sF S u38.1 u38.2) ++ dW o0 y d) H := hP
    have hD : va_D A (wH ah y (sF S u38.1 u38.2) ++ dW o0 y d) := hD
    refine W.eq (g2 := F0 m 342 ls (.float (kpL (zL ((S.2.2 16) 3)) (zL ((S.2.2 16) 4))) :: [])) rfl ?_
    refine lv_fconst1 hx hb dL_isPlant_342 ?_
    refine lv_fcmp hx hb dL_isPlant_343 ?_
    obtain ⟨fv45, hfv45, efv45⟩ := kp_hi (b := (S.2.2 16) 3) (x := (S.2.2 16) 4) ⟨by omega, by omega, by omega⟩
    rw [efv45]
    refine hz_if_gt (tgt := 388) hx hb dL_isPlant_344 (by decide) (by omega) (fun q => by exfalso; omega) (fun _ => ?_)
    refine lv_aload_n hx hb dL_isPlant_347 rfl (lv_at hl 6 rfl) ?_
    refine lv_iload_n hx hb dL_isPlant_348 rfl (lv_at hl 8 rfl) ?_
    refine hz_iconst hx hb dL_isPlant_349 ?_
    refine hz_cI (As := [zi k, zi 0]) (rest := []) ⟨hx, hb, hml, hown, hts⟩ (b_power l hlt G ah zE y _ (sF S u38.1 u38.2) k (0 : Int) (fc_F u38.1 u38.2 hI) (show 0 ≤ k ∧ k < (S.2.1 0) by omega) (show 0 ≤ (0 : Int) ∧ (0 : Int) ≤ 24 by omega)) (cwV 2 hts gL_isPlant_X7_power rfl rfl rfl (by decide +kernel) ⟨Nat.le_of_ble_eq_true rfl, Nat.le_of_ble_eq_true rfl⟩) hP hK hD hS hA hGP 0 8 rfl rfl rfl rfl hl.1 rfl (Nat.le_of_ble_eq_true rfl) dL_isPlant_350 ⟨Nat.le_of_ble_eq_true rfl, Nat.le_of_ble_eq_true rfl⟩ (fun _ => rfl) (fun u46 H locs hu hP hD hS => ?_)
    have hP : va_P G vwCl (wH ah y (sF S u38.1 u38.2) ++ dW o0 y d) H := hP
    have hD : va_D A (wH ah y (sF S u38.1 u38.2) ++ dW o0 y d) := hD
    refine hz_tope (z2 := (pwS S k 0)) (by rfl) ?_
    refine hz_if_lt (tgt := 388) hx hb dL_isPlant_353 (by decide) (by omega) (fun q => by exfalso; omega) (fun _ => ?_)
    refine lv_aload_n hx hb dL_isPlant_356 rfl (lv_at hl 6 rfl) ?_
    refine lv_iload_n hx hb dL_isPlant_357 rfl (lv_at hl 8 rfl) ?_
    refine hz_iconst hx hb dL_isPlant_358 ?_
    refine hz_cI (As := [zi k, zi 5]) (rest := []) ⟨hx, hb, hml, hown, hts⟩ (b_mirrorIs l hlt G ah zE y _ (sF S u38.1 u38.2) k (5 : Int) (fc_F u38.1 u38.2 hI) (show 0 ≤ k ∧ k < (S.2.1 0) by omega) (show 0 ≤ (5 : Int) ∧ (5 : Int) ≤ 7 by omega)) (cwV 2 hts gL_isPlant_X7_mirrorIs rfl rfl rfl (by decide +kernel) ⟨Nat.le_of_ble_eq_true rfl, Nat.le_of_ble_eq_true rfl⟩) hP hK hD hS hA hGP 0 8 rfl rfl rfl rfl hl.1 rfl (Nat.le_of_ble_eq_true rfl) dL_isPlant_359 ⟨Nat.le_of_ble_eq_true rfl, Nat.le_of_ble_eq_true rfl⟩ (fun _ => rfl) (fun u47 H locs hu hP hD hS => ?_)
    have hP : va_P G vwCl (wH ah y (sF S u38.1 u38.2) ++ dW o0 y d) H := hP
    have hD : va_D A (wH ah y (sF S u38.1 u38.2) ++ dW o0 y d) := hD
    refine hz_tope (z2 := (cvS S k)) (by rfl) ?_
    refine hz_if_ne (tgt := 375) hx hb dL_isPlant_362 (by decide) (by omega) (fun c48 => ?_) (fun c48 => ?_)
    · have kz : pwS S k 0 = 0 := pwS_0 (Or.inl (by omega))
      refine lv_aload_n hx hb dL_isPlant_375 rfl (lv_at hl 6 rfl) ?_
      refine lv_iload_n hx hb dL_isPlant_376 rfl (lv_at hl 8 rfl) ?_
      refine hz_iconst hx hb dL_isPlant_377 ?_
      refine hz_cI (As := [zi k, zi 0]) (rest := []) ⟨hx, hb, hml, hown, hts⟩ (b_power l hlt G ah zE y _ (sF S u38.1 u38.2) k (0 : Int) (fc_F u38.1 u38.2 hI) (show 0 ≤ k ∧ k < (S.2.1 0) by omega) (show 0 ≤ (0 : Int) ∧ (0 : Int) ≤ 24 by omega)) (cwV 2 hts gL_isPlant_X7_power rfl rfl rfl (by decide +kernel) ⟨Nat.le_of_ble_eq_true rfl, Nat.le_of_ble_eq_true rfl⟩) hP hK hD hS hA hGP 0 8 rfl rfl rfl rfl hl.1 rfl (Nat.le_of_ble_eq_true rfl) dL_isPlant_378 ⟨Nat.le_of_ble_eq_true rfl, Nat.le_of_ble_eq_true rfl⟩ (fun _ => rfl) (fun u49 H locs hu hP hD hS => ?_)
      have hP : va_P G vwCl (wH ah y (sF S u38.1 u38.2) ++ dW o0 y d) H := hP
      have hD : va_D A (wH ah y (sF S u38.1 u38.2) ++ dW o0 y d) := hD
      refine hz_tope (z2 := (pwS S k 0)) (by rfl) ?_
      refine hz_if_ne (tgt := 388) hx hb dL_isPlant_381 (by decide) (by omega) (fun q => by exfalso; omega) (fun _ => ?_)
      refine hz_iconst hx hb dL_isPlant_384 ?_
      refine lv_goto (tgt := 389) hx hb dL_isPlant_385 (by decide) ?_
      exact hz_upM (Nat.le_of_ble_eq_true rfl) (Nat.le_of_ble_eq_true rfl) (W.zret (ty := .boolean) (v := zI 1) hx hb hr (zI_nb (by omega)) (fun t ht hW => ⟨⟨zI 1, ((sF S u38.1 u38.2), d), rfl, ⟨rfl, (fc_F u38.1 u38.2 hI), hd, rfl⟩, hz_at2 hP hD ht⟩, hS.F ht⟩) hS.2.2 dL_isPlant_389)
    · refine lv_aload_n hx hb dL_isPlant_365 rfl (lv_at hl 6 rfl) ?_
      refine lv_iload_n hx hb dL_isPlant_366 rfl (lv_at hl 8 rfl) ?_
      refine hz_bipush hx hb dL_isPlant_367 (by decide) ?_
      refine hz_cI (As := [zi k, zi 6]) (rest := []) ⟨hx, hb, hml, hown, hts⟩ (b_mirrorIs l hlt G ah zE y _ (sF S u38.1 u38.2) k (6 : Int) (fc_F u38.1 u38.2 hI) (show 0 ≤ k ∧ k < (S.2.1 0) by omega) (show 0 ≤ (6 : Int) ∧ (6 : Int) ≤ 7 by omega)) (cwV 2 hts gL_isPlant_X7_mirrorIs rfl rfl rfl (by decide +kernel) ⟨Nat.le_of_ble_eq_true rfl, Nat.le_of_ble_eq_true rfl⟩) hP hK hD hS hA hGP 0 8 rfl rfl rfl rfl hl.1 rfl (Nat.le_of_ble_eq_true rfl) dL_isPlant_369 ⟨Nat.le_of_ble_eq_true rfl, Nat.le_of_ble_eq_true rfl⟩ (fun _ => rfl) (fun u50 H locs hu hP hD hS => ?_)
      have hP : va_P G vwCl (wH ah y (sF S u38.1 u38.2) ++ dW o0 y d) H := hP
      have hD : va_D A (wH ah y (sF S u38.1 u38.2) ++ dW o0 y d) := hD
      refine hz_tope (z2 := (shS S k)) (by rfl) ?_
      refine hz_if_eq (tgt := 384) hx hb dL_isPlant_372 (by decide) (by omega) (fun c51 => ?_) (fun c51 => ?_)
      · refine hz_iconst hx hb dL_isPlant_384 ?_
        refine lv_goto (tgt := 389) hx hb dL_isPlant_385 (by decide) ?_
        exact hz_upM (Nat.le_of_ble_eq_true rfl) (Nat.le_of_ble_eq_true rfl) (W.zret (ty := .boolean) (v := zI 1) hx hb hr (zI_nb (by omega)) (fun t ht hW => ⟨⟨zI 1, ((sF S u38.1 u38.2), d), rfl, ⟨rfl, (fc_F u38.1 u38.2 hI), hd, rfl⟩, hz_at2 hP hD ht⟩, hS.F ht⟩) hS.2.2 dL_isPlant_389)
      · have kz : pwS S k 0 = 0 := pwS_0 (Or.inr (by omega))
        refine lv_aload_n hx hb dL_isPlant_375 rfl (lv_at hl 6 rfl) ?_
        refine lv_iload_n hx hb dL_isPlant_376 rfl (lv_at hl 8 rfl) ?_
        refine hz_iconst hx hb dL_isPlant_377 ?_
        refine hz_cI (As := [zi k, zi 0]) (rest := []) ⟨hx, hb, hml, hown, hts⟩ (b_power l hlt G ah zE y _ (sF S u38.1 u38.2) k (0 : Int) (fc_F u38.1 u38.2 hI) (show 0 ≤ k ∧ k < (S.2.1 0) by omega) (show 0 ≤ (0 : Int) ∧ (0 : Int) ≤ 24 by omega)) (cwV 2 hts gL_isPlant_X7_power rfl rfl rfl (by decide +kernel) ⟨Nat.le_of_ble_eq_true rfl, Nat.le_of_ble_eq_true rfl⟩) hP hK hD hS hA hGP 0 8 rfl rfl rfl rfl hl.1 rfl (Nat.le_of_ble_eq_true rfl) dL_isPlant_378 ⟨Nat.le_of_ble_eq_true rfl, Nat.le_of_ble_eq_true rfl⟩ (fun _ => rfl) (fun u52 H locs hu hP hD hS => ?_)
        have hP : va_P G vwCl (wH ah y (sF S u38.1 u38.2) ++ dW o0 y d) H := hP
        have hD : va_D A (wH ah y (sF S u38.1 u38.2) ++ dW o0 y d) := hD
        refine hz_tope (z2 := (pwS S k 0)) (by rfl) ?_
        refine hz_if_ne (tgt := 388) hx hb dL_isPlant_381 (by decide) (by omega) (fun q => by exfalso; omega) (fun _ => ?_)
        refine hz_iconst hx hb dL_isPlant_384 ?_
        refine lv_goto (tgt := 389) hx hb dL_isPlant_385 (by decide) ?_
        exact hz_upM (Nat.le_of_ble_eq_true rfl) (Nat.le_of_ble_eq_true rfl) (W.zret (ty := .boolean) (v := zI 1) hx hb hr (zI_nb (by omega)) (fun t ht hW => ⟨⟨zI 1, ((sF S u38.1 u38.2), d), rfl, ⟨rfl, (fc_F u38.1 u38.2 hI), hd, rfl⟩, hz_at2 hP hD ht⟩, hS.F ht⟩) hS.2.2 dL_isPlant_389)
  refine hz_if_ne (tgt := 30) hx hb dL_isPlant_14 (by decide) (by omega) (fun c53 => ?_) (fun c53 => ?_)
  · refine lv_iload_n hx hb dL_isPlant_30 rfl (lv_at hl 1 rfl) ?_
    refine hz_iconst hx hb dL_isPlant_31 ?_
    refine hz_icmp_ne (tgt := 57) hx hb dL_isPlant_32 (by decide) (by omega) (fun c54 => ?_) (fun c54 => ?_)
    · refine lv_iload hx hb dL_isPlant_57 (lv_at hl 0 rfl) ?_
      refine hz_if_le (tgt := 73) hx hb dL_isPlant_59 (by decide) (by omega) (fun q => by exfalso; omega) (fun _ => ?_)
      refine lv_iload hx hb dL_isPlant_62 (lv_at hl 0 rfl) ?_
      refine hz_bipush hx hb dL_isPlant_64 (by decide) ?_
      refine hz_icmp_ge (tgt := 73) hx hb dL_isPlant_66 (by decide) (by omega) (fun q => by exfalso; omega) (fun _ => ?_)
      refine hz_iconst hx hb dL_isPlant_69 ?_
      refine lv_goto (tgt := 74) hx hb dL_isPlant_70 (by decide) ?_
      refine lv_istore (lv' := [(5, zi 1), (4, zi (S.2.1 7)), (3, zi (S.2.1 6)), (0, .ref (ah 0)), (1, .ref o0), (2, zi k)]) hx hb dL_isPlant_74 hl (by decide) rfl (fun ls hl => ?_)
      exact J76 ls (lv_sub hl [0, 1, 2, 3, 4, 5] rfl)
    · refine lv_iload hx hb dL_isPlant_35 (lv_at hl 0 rfl) ?_
      refine hz_bipush hx hb dL_isPlant_37 (by decide) ?_
      refine hz_icmp_le (tgt := 53) hx hb dL_isPlant_39 (by decide) (by omega) (fun q => by exfalso; omega) (fun _ => ?_)
      refine lv_iload hx hb dL_isPlant_42 (lv_at hl 0 rfl) ?_
      refine hz_bipush hx hb dL_isPlant_44 (by decide) ?_
      refine hz_icmp_ge (tgt := 53) hx hb dL_isPlant_46 (by decide) (by omega) (fun q => by exfalso; omega) (fun _ => ?_)
      refine hz_iconst hx hb dL_isPlant_49 ?_
      refine lv_goto (tgt := 74) hx hb dL_isPlant_50 (by decide) ?_
      refine lv_istore (lv' := [(5, zi 1), (4, zi (S.2.1 7)), (3, zi (S.2.1 6)), (0, .ref (ah 0)), (1, .ref o0), (2, zi k)]) hx hb dL_isPlant_74 hl (by decide) rfl (fun ls hl => ?_)
      exact J76 ls (lv_sub hl [0, 1, 2, 3, 4, 5] rfl)
  · refine lv_iload hx hb dL_isPlant_17 (lv_at hl 0 rfl) ?_
    refine hz_if_ne (tgt := 26) hx hb dL_isPlant_19 (by decide) (by omega) (fun q => by exfalso; omega) (fun _ => ?_)
    refine hz_iconst hx hb dL_isPlant_22 ?_
    refine lv_goto (tgt := 74) hx hb dL_isPlant_23 (by decide) ?_
    refine lv_istore (lv' := [(5, zi 1), (4, zi (S.2.1 7)), (3, zi (S.2.1 6)), (0, .ref (ah 0)), (1, .ref o0), (2, zi k)]) hx hb dL_isPlant_74 hl (by decide) rfl (fun ls hl => ?_)
    exact J76 ls (lv_sub hl [0, 1, 2, 3, 4, 5] rfl)
