set_option maxHeartbeats 32000000 in
set_option maxRecDepth 100000 in
theorem st_salt {p : Program} {l : Launch} {e : Env} {s : State} {m : MethodId} {below : List Frame} {meth : Method} {c : Code} {A : Nat → Prop} {G : va_G} {mi zE : Nat} {y : Nat → ClassId} {ah : Nat → Nat} {o0 : Nat} {S : ST} {d : Int → Int} {what a bb : Int} {k : Int} (hQ : LC p l s m meth c A G mi zE y 33 cL_step wsL_step [.ref (ah 0), .ref o0, zi what, zi a, zi bb] (some .boolean)) (hI : FC zE S) (hd : FD S d) (ha : 0 ≤ a ∧ a < 2147483648) (hbb : 0 ≤ bb ∧ bb < 2147483648) (hk : 0 ≤ k ∧ k < S.2.1 0) (hP : va_P G vwCl (wH ah y S ++ dW o0 y d) s.heap) (hD : va_D A (wH ah y S ++ dW o0 y d)) : ∀ ls : Array Slot, lv_has ls 33 [(5, zi k), (0, .ref (ah 0)), (1, .ref o0), (2, zi what), (3, zi a), (4, zi bb)] → W p l e (headSpec wsL_step ({ frames := 15, cells := 1250, slots := 7500, locals := 620 })).room s m ([.ref (ah 0), .ref o0, zi what, zi a, zi bb] : List Value).toArray below meth c s.heap [] 0 0 (MQ below (Q_step G ah zE y o0 A) ([.ref (ah 0), .ref o0, zi what, zi a, zi bb] : List Value).toArray s 1250 7500 A) (F0 m 970 ls []) := by
  intro ls hl
  obtain ⟨hx, hb, hr, hts, hown, hlocks, hml, hK, hA, hGP, hX, hGN, hlt⟩ := hQ
  have hS : va_S A s.heap s.heap [] := va_S.rf
  have qN := hI.N
  have qC := hI.C
  have qNow := hI.Now
  have qHz := hI.Haze
  have qS := hI.Salt
  have qP := hI.Pipe
  have qTc := hI.Trc
  have qTb := hI.Turb
  have qLd := hI.Load
  have qTL := hI.TL
  have qW := hI.Water
  have qD0 := hd.D0
  have qD1 := hd.D1
  have qD2 := hd.D2
  have qD3 := hd.D3
  have qst := strZ_rng (S.2.1 2)
  have kE := hI.Err k
  have kC := hI.Cor k
  have kA := hI.Aim k
  have kB := hI.Brk k
  have kD := hI.Dirt k
  have kP := pwS_rng hI k 0
  have kL := hI.Cell k
  refine hz_iconst hx hb dL_step_970 ?_
  refine lv_iload hx hb dL_step_971 (lv_at hl 5 rfl) ?_
  refine lv_iload hx hb dL_step_973 (lv_at hl 5 rfl) ?_
  refine hz_bipush hx hb dL_step_975 (by decide) ?_
  refine hz_irem hx hb dL_step_977 (by omega) ?_
  refine hz_if_ne (tgt := 987) hx hb dL_step_978 (by decide) (by omega) (fun c1 => ?_) (fun c1 => ?_)
  · refine hz_bipush hx hb dL_step_987 (by decide) ?_
    refine hz_irem hx hb dL_step_989 (by omega) ?_
    refine hz_iadd hx hb dL_step_990 ?_
    refine lv_istore (lv' := [(20, zi (1 + (bb % 50))), (5, zi k), (0, .ref (ah 0)), (1, .ref o0), (2, zi what), (3, zi a), (4, zi bb)]) hx hb dL_step_991 hl (by decide) rfl (fun ls hl => ?_)
    refine lv_aload_n hx hb dL_step_993 rfl (lv_at hl 2 rfl) ?_
    refine lv_iload hx hb dL_step_994 (lv_at hl 0 rfl) ?_
    refine hz_iconst hx hb dL_step_996 ?_
    refine hz_bipush hx hb dL_step_997 (by decide) ?_
    refine hz_lawL (As := [.ref (ah 0), zi (1 + (bb % 50)), zi 0, zi 6]) (rest := []) ⟨hx, hb, hml, hown, hts⟩ (c_acts6 l hlt G ah mi zE y _ S (1 + (bb % 50)) (0 : Int) hI (show 1 ≤ (1 + (bb % 50)) ∧ (1 + (bb % 50)) ≤ 500 by omega)) (vx_cwSW 4 hts gL_step_L_acts rfl rfl rfl (by decide +kernel) ⟨Nat.le_of_ble_eq_true rfl, Nat.le_of_ble_eq_true rfl⟩) hP hK hD hS hA hGP hX hGN rfl hl.1 rfl (Nat.le_of_ble_eq_true rfl) dL_step_999 ⟨Nat.le_of_ble_eq_true rfl, Nat.le_of_ble_eq_true rfl⟩ (fun r u2 H locs hu hP hD hS => ?_)
    rcases hu with ⟨rfl, hc3, rfl⟩ | ⟨rfl, hc3, rfl⟩
    · have hc3 : (if ¬ (1 ≤ (1 + (bb % 50)) ∧ (1 + (bb % 50)) ≤ 500) then (1 : Int) else if 1000 < ((S.2.1 4)) + ((S.2.1 5)) + (1 + (bb % 50)) then 2 else 0) = 0 := hc3
      have hI6 : FC zE (sI S 4 ((S.2.1 4) + (1 + (bb % 50)))) := (fc_salt (1 + (bb % 50)) hI (by omega) (show ¬ 1000 < (S.2.1 4) + (S.2.1 5) + (1 + (bb % 50)) by omega))
      have hP : va_P G vwCl (wH ah y (sI S 4 ((S.2.1 4) + (1 + (bb % 50)))) ++ dW o0 y d) H := hP
      have hD : va_D A (wH ah y (sI S 4 ((S.2.1 4) + (1 + (bb % 50)))) ++ dW o0 y d) := hD
      refine hz_tope (z2 := ((S.2.1 4) + (1 + (bb % 50)))) (by rfl) ?_
      refine lv_istore (lv' := [(21, zi ((S.2.1 4) + (1 + (bb % 50)))), (20, zi (1 + (bb % 50))), (5, zi k), (0, .ref (ah 0)), (1, .ref o0), (2, zi what), (3, zi a), (4, zi bb)]) hx hb dL_step_1002 hl (by decide) rfl (fun ls hl => ?_)
      refine lv_aload_n hx hb dL_step_1004 rfl (lv_at hl 4 rfl) ?_
      refine hz_iconst hx hb dL_step_1005 ?_
      refine lv_dup2_11 hx hb dL_step_1006 rfl rfl ?_
      refine hz_dld hx hb hK hP (by omega) dL_step_1007 ?_
      refine lv_iload hx hb dL_step_1008 (lv_at hl 0 rfl) ?_
      refine hz_if_ge (tgt := 1017) hx hb dL_step_1010 (by decide) (by omega) (fun _ => ?_) (fun q => by exfalso; omega)
      refine lv_iload hx hb dL_step_1017 (lv_at hl 1 rfl) ?_
      refine hz_iadd hx hb dL_step_1019 ?_
      refine hz_dst hx hb hK hP hD hS (by omega) dL_step_1020 (fun H locs hP hD hS => ?_)
      have hP : va_P G vwCl (wH ah y (sI S 4 ((S.2.1 4) + (1 + (bb % 50)))) ++ dW o0 y (upZ d 2 ((d 2) + (1 + (bb % 50))))) H := hP
      have hD : va_D A (wH ah y (sI S 4 ((S.2.1 4) + (1 + (bb % 50)))) ++ dW o0 y (upZ d 2 ((d 2) + (1 + (bb % 50))))) := hD
      refine lv_iload hx hb dL_step_1021 (lv_at hl 0 rfl) ?_
      refine hz_sipush hx hb dL_step_1023 (by decide) ?_
      refine hz_icmp_ne (tgt := 1049) hx hb dL_step_1026 (by decide) (by omega) (fun _ => ?_) (fun q => by exfalso; omega)
      refine lv_iload hx hb dL_step_1049 (lv_at hl 0 rfl) ?_
      refine lv_aload_n hx hb dL_step_1051 rfl (lv_at hl 3 rfl) ?_
      refine hz_iconst hx hb dL_step_1052 ?_
      refine hz_cI (As := [zi 2]) (rest := [zi ((S.2.1 4) + (1 + (bb % 50)))]) ⟨hx, hb, hml, hown, hts⟩ (b_plantIs l hlt G ah zE y _ (sI S 4 ((S.2.1 4) + (1 + (bb % 50)))) (2 : Int) hI6 (show 0 ≤ (2 : Int) ∧ (2 : Int) ≤ 10 by omega)) (cwV 1 hts gL_step_X7_plantIs rfl rfl rfl (by decide +kernel) ⟨Nat.le_of_ble_eq_true rfl, Nat.le_of_ble_eq_true rfl⟩) hP hK hD hS hA hGP 0 8 rfl rfl rfl rfl hl.1 rfl (Nat.le_of_ble_eq_true rfl) dL_step_1053 ⟨Nat.le_of_ble_eq_true rfl, Nat.le_of_ble_eq_true rfl⟩ (fun _ => rfl) (fun u7 H locs hu hP hD hS => ?_)
      have hP : va_P G vwCl (wH ah y (sI S 4 ((S.2.1 4) + (1 + (bb % 50)))) ++ dW o0 y (upZ d 2 ((d 2) + (1 + (bb % 50))))) H := hP
      have hD : va_D A (wH ah y (sI S 4 ((S.2.1 4) + (1 + (bb % 50)))) ++ dW o0 y (upZ d 2 ((d 2) + (1 + (bb % 50))))) := hD
      refine hz_tope (z2 := ((S.2.1 4) + (1 + (bb % 50)))) (by rfl) ?_
      refine hz_icmp_ne (tgt := 1072) hx hb dL_step_1056 (by decide) (by omega) (fun q => by exfalso; omega) (fun _ => ?_)
      refine lv_aload_n hx hb dL_step_1059 rfl (lv_at hl 4 rfl) ?_
      refine hz_iconst hx hb dL_step_1060 ?_
      refine hz_dld hx hb hK hP (by omega) dL_step_1061 ?_
      refine hz_tope (z2 := ((d 2) + (1 + (bb % 50)))) (by first | rfl | exact upZ_s rfl | simp [upZ]) ?_
      refine hz_sipush hx hb dL_step_1062 (by decide) ?_
      refine hz_icmp_gt (tgt := 1072) hx hb dL_step_1065 (by decide) (by omega) (fun q => by exfalso; omega) (fun _ => ?_)
      refine hz_iconst hx hb dL_step_1068 ?_
      refine lv_goto (tgt := 1073) hx hb dL_step_1069 (by decide) ?_
      exact hz_upM (Nat.le_of_ble_eq_true rfl) (Nat.le_of_ble_eq_true rfl) (W.zret (ty := .boolean) (v := zI 1) hx hb hr (zI_nb (by omega)) (fun t ht hW => ⟨⟨zI 1, ((sI S 4 ((S.2.1 4) + (1 + (bb % 50)))), (upZ d 2 ((d 2) + (1 + (bb % 50))))), rfl, ⟨rfl, hI6, (fd_2 hd rfl rfl (show 0 ≤ _ ∧ ((S.2.1 4) + (1 + (bb % 50))) + S.2.1 5 = 100 + _ by omega) rfl rfl rfl), (show 1 ≤ (S.2.1 0) by omega)⟩, hz_at2 hP hD ht⟩, hS.F ht⟩) hS.2.2 dL_step_1073)
    · have hc3 : (if ¬ (1 ≤ (1 + (bb % 50)) ∧ (1 + (bb % 50)) ≤ 500) then (1 : Int) else if 1000 < ((S.2.1 4)) + ((S.2.1 5)) + (1 + (bb % 50)) then 2 else 0) = 2 := hc3
      have hP : va_P G vwCl (wH ah y S ++ dW o0 y d) H := hP
      have hD : va_D A (wH ah y S ++ dW o0 y d) := hD
      refine lv_istore (lv' := [(21, zi (-200)), (20, zi (1 + (bb % 50))), (5, zi k), (0, .ref (ah 0)), (1, .ref o0), (2, zi what), (3, zi a), (4, zi bb)]) hx hb dL_step_1002 hl (by decide) rfl (fun ls hl => ?_)
      refine lv_aload_n hx hb dL_step_1004 rfl (lv_at hl 4 rfl) ?_
      refine hz_iconst hx hb dL_step_1005 ?_
      refine lv_dup2_11 hx hb dL_step_1006 rfl rfl ?_
      refine hz_dld hx hb hK hP (by omega) dL_step_1007 ?_
      refine lv_iload hx hb dL_step_1008 (lv_at hl 0 rfl) ?_
      refine hz_if_ge (tgt := 1017) hx hb dL_step_1010 (by decide) (by omega) (fun q => by exfalso; omega) (fun _ => ?_)
      refine hz_iconst hx hb dL_step_1013 ?_
      refine lv_goto (tgt := 1019) hx hb dL_step_1014 (by decide) ?_
      refine hz_iadd hx hb dL_step_1019 ?_
      refine hz_dst hx hb hK hP hD hS (by omega) dL_step_1020 (fun H locs hP hD hS => ?_)
      have hP : va_P G vwCl (wH ah y S ++ dW o0 y (upZ d 2 ((d 2) + 0))) H := hP
      have hD : va_D A (wH ah y S ++ dW o0 y (upZ d 2 ((d 2) + 0))) := hD
      refine lv_iload hx hb dL_step_1021 (lv_at hl 0 rfl) ?_
      refine hz_sipush hx hb dL_step_1023 (by decide) ?_
      refine hz_icmp_ne (tgt := 1049) hx hb dL_step_1026 (by decide) (by omega) (fun q => by exfalso; omega) (fun _ => ?_)
      refine lv_aload_n hx hb dL_step_1029 rfl (lv_at hl 4 rfl) ?_
      refine hz_iconst hx hb dL_step_1030 ?_
      refine hz_dld hx hb hK hP (by omega) dL_step_1031 ?_
      refine hz_tope (z2 := ((d 2) + 0)) (by first | rfl | exact upZ_s rfl | simp [upZ]) ?_
      refine lv_iload hx hb dL_step_1032 (lv_at hl 1 rfl) ?_
      refine hz_iadd hx hb dL_step_1034 ?_
      refine hz_sipush hx hb dL_step_1035 (by decide) ?_
      refine hz_icmp_le (tgt := 1045) hx hb dL_step_1038 (by decide) (by omega) (fun q => by exfalso; omega) (fun _ => ?_)
      refine hz_iconst hx hb dL_step_1041 ?_
      refine lv_goto (tgt := 1073) hx hb dL_step_1042 (by decide) ?_
      exact hz_upM (Nat.le_of_ble_eq_true rfl) (Nat.le_of_ble_eq_true rfl) (W.zret (ty := .boolean) (v := zI 1) hx hb hr (zI_nb (by omega)) (fun t ht hW => ⟨⟨zI 1, (S, (upZ d 2 ((d 2) + 0))), rfl, ⟨rfl, hI, (fd_2 hd rfl rfl (show 0 ≤ _ ∧ (S.2.1 4) + S.2.1 5 = 100 + _ by omega) rfl rfl rfl), (show 1 ≤ (S.2.1 0) by omega)⟩, hz_at2 hP hD ht⟩, hS.F ht⟩) hS.2.2 dL_step_1073)
  · refine hz_sipush hx hb dL_step_981 (by decide) ?_
    refine lv_goto (tgt := 989) hx hb dL_step_984 (by decide) ?_
    refine hz_irem hx hb dL_step_989 (by omega) ?_
    refine hz_iadd hx hb dL_step_990 ?_
    refine lv_istore (lv' := [(20, zi (1 + (bb % 500))), (5, zi k), (0, .ref (ah 0)), (1, .ref o0), (2, zi what), (3, zi a), (4, zi bb)]) hx hb dL_step_991 hl (by decide) rfl (fun ls hl => ?_)
    refine lv_aload_n hx hb dL_step_993 rfl (lv_at hl 2 rfl) ?_
    refine lv_iload hx hb dL_step_994 (lv_at hl 0 rfl) ?_
    refine hz_iconst hx hb dL_step_996 ?_
    refine hz_bipush hx hb dL_step_997 (by decide) ?_
    refine hz_lawL (As := [.ref (ah 0), zi (1 + (bb % 500)), zi 0, zi 6]) (rest := []) ⟨hx, hb, hml, hown, hts⟩ (c_acts6 l hlt G ah mi zE y _ S (1 + (bb % 500)) (0 : Int) hI (show 1 ≤ (1 + (bb % 500)) ∧ (1 + (bb % 500)) ≤ 500 by omega)) (vx_cwSW 4 hts gL_step_L_acts rfl rfl rfl (by decide +kernel) ⟨Nat.le_of_ble_eq_true rfl, Nat.le_of_ble_eq_true rfl⟩) hP hK hD hS hA hGP hX hGN rfl hl.1 rfl (Nat.le_of_ble_eq_true rfl) dL_step_999 ⟨Nat.le_of_ble_eq_true rfl, Nat.le_of_ble_eq_true rfl⟩ (fun r u8 H locs hu hP hD hS => ?_)
    rcases hu with ⟨rfl, hc9, rfl⟩ | ⟨rfl, hc9, rfl⟩
    · have hc9 : (if ¬ (1 ≤ (1 + (bb % 500)) ∧ (1 + (bb % 500)) ≤ 500) then (1 : Int) else if 1000 < ((S.2.1 4)) + ((S.2.1 5)) + (1 + (bb % 500)) then 2 else 0) = 0 := hc9
      have hI12 : FC zE (sI S 4 ((S.2.1 4) + (1 + (bb % 500)))) := (fc_salt (1 + (bb % 500)) hI (by omega) (show ¬ 1000 < (S.2.1 4) + (S.2.1 5) + (1 + (bb % 500)) by omega))
      have hP : va_P G vwCl (wH ah y (sI S 4 ((S.2.1 4) + (1 + (bb % 500)))) ++ dW o0 y d) H := hP
      have hD : va_D A (wH ah y (sI S 4 ((S.2.1 4) + (1 + (bb % 500)))) ++ dW o0 y d) := hD
      refine hz_tope (z2 := ((S.2.1 4) + (1 + (bb % 500)))) (by rfl) ?_
      refine lv_istore (lv' := [(21, zi ((S.2.1 4) + (1 + (bb % 500)))), (20, zi (1 + (bb % 500))), (5, zi k), (0, .ref (ah 0)), (1, .ref o0), (2, zi what), (3, zi a), (4, zi bb)]) hx hb dL_step_1002 hl (by decide) rfl (fun ls hl => ?_)
      refine lv_aload_n hx hb dL_step_1004 rfl (lv_at hl 4 rfl) ?_
      refine hz_iconst hx hb dL_step_1005 ?_
      refine lv_dup2_11 hx hb dL_step_1006 rfl rfl ?_
      refine hz_dld hx hb hK hP (by omega) dL_step_1007 ?_
      refine lv_iload hx hb dL_step_1008 (lv_at hl 0 rfl) ?_
      refine hz_if_ge (tgt := 1017) hx hb dL_step_1010 (by decide) (by omega) (fun _ => ?_) (fun q => by exfalso; omega)
      refine lv_iload hx hb dL_step_1017 (lv_at hl 1 rfl) ?_
      refine hz_iadd hx hb dL_step_1019 ?_
      refine hz_dst hx hb hK hP hD hS (by omega) dL_step_1020 (fun H locs hP hD hS => ?_)
      have hP : va_P G vwCl (wH ah y (sI S 4 ((S.2.1 4) + (1 + (bb % 500)))) ++ dW o0 y (upZ d 2 ((d 2) + (1 + (bb % 500))))) H := hP
      have hD : va_D A (wH ah y (sI S 4 ((S.2.1 4) + (1 + (bb % 500)))) ++ dW o0 y (upZ d 2 ((d 2) + (1 + (bb % 500))))) := hD
      refine lv_iload hx hb dL_step_1021 (lv_at hl 0 rfl) ?_
      refine hz_sipush hx hb dL_step_1023 (by decide) ?_
      refine hz_icmp_ne (tgt := 1049) hx hb dL_step_1026 (by decide) (by omega) (fun _ => ?_) (fun q => by exfalso; omega)
      refine lv_iload hx hb dL_step_1049 (lv_at hl 0 rfl) ?_
      refine lv_aload_n hx hb dL_step_1051 rfl (lv_at hl 3 rfl) ?_
      refine hz_iconst hx hb dL_step_1052 ?_
      refine hz_cI (As := [zi 2]) (rest := [zi ((S.2.1 4) + (1 + (bb % 500)))]) ⟨hx, hb, hml, hown, hts⟩ (b_plantIs l hlt G ah zE y _ (sI S 4 ((S.2.1 4) + (1 + (bb % 500)))) (2 : Int) hI12 (show 0 ≤ (2 : Int) ∧ (2 : Int) ≤ 10 by omega)) (cwV 1 hts gL_step_X7_plantIs rfl rfl rfl (by decide +kernel) ⟨Nat.le_of_ble_eq_true rfl, Nat.le_of_ble_eq_true rfl⟩) hP hK hD hS hA hGP 0 8 rfl rfl rfl rfl hl.1 rfl (Nat.le_of_ble_eq_true rfl) dL_step_1053 ⟨Nat.le_of_ble_eq_true rfl, Nat.le_of_ble_eq_true rfl⟩ (fun _ => rfl) (fun u13 H locs hu hP hD hS => ?_)
      have hP : va_P G vwCl (wH ah y (sI S 4 ((S.2.1 4) + (1 + (bb % 500)))) ++ dW o0 y (upZ d 2 ((d 2) + (1 + (bb % 500))))) H := hP
      have hD : va_D A (wH ah y (sI S 4 ((S.2.1 4) + (1 + (bb % 500)))) ++ dW o0 y (upZ d 2 ((d 2) + (1 + (bb % 500))))) := hD
      refine hz_tope (z2 := ((S.2.1 4) + (1 + (bb % 500)))) (by rfl) ?_
      refine hz_icmp_ne (tgt := 1072) hx hb dL_step_1056 (by decide) (by omega) (fun q => by exfalso; omega) (fun _ => ?_)
      refine lv_aload_n hx hb dL_step_1059 rfl (lv_at hl 4 rfl) ?_
      refine hz_iconst hx hb dL_step_1060 ?_
      refine hz_dld hx hb hK hP (by omega) dL_step_1061 ?_
      refine hz_tope (z2 := ((d 2) + (1 + (bb % 500)))) (by first | rfl | exact upZ_s rfl | simp [upZ]) ?_
      refine hz_sipush hx hb dL_step_1062 (by decide) ?_
      refine hz_icmp_gt (tgt := 1072) hx hb dL_step_1065 (by decide) (by omega) (fun q => by exfalso; omega) (fun _ => ?_)
      refine hz_iconst hx hb dL_step_1068 ?_
      refine lv_goto (tgt := 1073) hx hb dL_step_1069 (by decide) ?_
      exact hz_upM (Nat.le_of_ble_eq_true rfl) (Nat.le_of_ble_eq_true rfl) (W.zret (ty := .boolean) (v := zI 1) hx hb hr (zI_nb (by omega)) (fun t ht hW => ⟨⟨zI 1, ((sI S 4 ((S.2.1 4) + (1 + (bb % 500)))), (upZ d 2 ((d 2) + (1 + (bb % 500))))), rfl, ⟨rfl, hI12, (fd_2 hd rfl rfl (show 0 ≤ _ ∧ ((S.2.1 4) + (1 + (bb % 500))) + S.2.1 5 = 100 + _ by omega) rfl rfl rfl), (show 1 ≤ (S.2.1 0) by omega)⟩, hz_at2 hP hD ht⟩, hS.F ht⟩) hS.2.2 dL_step_1073)
    · have hc9 : (if ¬ (1 ≤ (1 + (bb % 500)) ∧ (1 + (bb % 500)) ≤ 500) then (1 : Int) else if 1000 < ((S.2.1 4)) + ((S.2.1 5)) + (1 + (bb % 500)) then 2 else 0) = 2 := hc9
      have hP : va_P G vwCl (wH ah y S ++ dW o0 y d) H := hP
      have hD : va_D A (wH ah y S ++ dW o0 y d) := hD
      refine lv_istore (lv' := [(21, zi (-200)), (20, zi (1 + (bb % 500))), (5, zi k), (0, .ref (ah 0)), (1, .ref o0), (2, zi what), (3, zi a), (4, zi bb)]) hx hb dL_step_1002 hl (by decide) rfl (fun ls hl => ?_)
      refine lv_aload_n hx hb dL_step_1004 rfl (lv_at hl 4 rfl) ?_
      refine hz_iconst hx hb dL_step_1005 ?_
      refine lv_dup2_11 hx hb dL_step_1006 rfl rfl ?_
      refine hz_dld hx hb hK hP (by omega) dL_step_1007 ?_
      refine lv_iload hx hb dL_step_1008 (lv_at hl 0 rfl) ?_
      refine hz_if_ge (tgt := 1017) hx hb dL_step_1010 (by decide) (by omega) (fun q => by exfalso; omega) (fun _ => ?_)
      refine hz_iconst hx hb dL_step_1013 ?_
      refine lv_goto (tgt := 1019) hx hb dL_step_1014 (by decide) ?_
      refine hz_iadd hx hb dL_step_1019 ?_
      refine hz_dst hx hb hK hP hD hS (by omega) dL_step_1020 (fun H locs hP hD hS => ?_)
      have hP : va_P G vwCl (wH ah y S ++ dW o0 y (upZ d 2 ((d 2) + 0))) H := hP
      have hD : va_D A (wH ah y S ++ dW o0 y (upZ d 2 ((d 2) + 0))) := hD
      refine lv_iload hx hb dL_step_1021 (lv_at hl 0 rfl) ?_
      refine hz_sipush hx hb dL_step_1023 (by decide) ?_
      refine hz_icmp_ne (tgt := 1049) hx hb dL_step_1026 (by decide) (by omega) (fun q => by exfalso; omega) (fun _ => ?_)
      refine lv_aload_n hx hb dL_step_1029 rfl (lv_at hl 4 rfl) ?_
      refine hz_iconst hx hb dL_step_1030 ?_
      refine hz_dld hx hb hK hP (by omega) dL_step_1031 ?_
      refine hz_tope (z2 := ((d 2) + 0)) (by first | rfl | exact upZ_s rfl | simp [upZ]) ?_
      refine lv_iload hx hb dL_step_1032 (lv_at hl 1 rfl) ?_
      refine hz_iadd hx hb dL_step_1034 ?_
      refine hz_sipush hx hb dL_step_1035 (by decide) ?_
      refine hz_icmp_le (tgt := 1045) hx hb dL_step_1038 (by decide) (by omega) (fun q => by exfalso; omega) (fun _ => ?_)
      refine hz_iconst hx hb dL_step_1041 ?_
      refine lv_goto (tgt := 1073) hx hb dL_step_1042 (by decide) ?_
      exact hz_upM (Nat.le_of_ble_eq_true rfl) (Nat.le_of_ble_eq_true rfl) (W.zret (ty := .boolean) (v := zI 1) hx hb hr (zI_nb (by omega)) (fun t ht hW => ⟨⟨zI 1, (S, (upZ d 2 ((d 2) + 0))), rfl, ⟨rfl, hI, (fd_2 hd rfl rfl (show 0 ≤ _ ∧ (S.2.1 4) + S.2.1 5 = 100 + _ by omega) rfl rfl rfl), (show 1 ≤ (S.2.1 0) by omega)⟩, hz_at2 hP hD ht⟩, hS.F ht⟩) hS.2.2 dL_step_1073)
set_option maxHeartbeats 32000000 in
set_option maxRecDepth 100000 in
theorem st_pipe {p : Program} {l : Launch} {e : Env} {s : State} {m : MethodId} {below : List Frame} {meth : Method} {c : Code} {A : Nat → Prop} {G : va_G} {mi zE : Nat} {y : Nat → ClassId} {ah : Nat → Nat} {o0 : Nat} {S : ST} {d : Int → Int} {what a bb : Int} {k : Int} (hQ : LC p l s m meth c A G mi zE y 33 cL_step wsL_step [.ref (ah 0), .ref o0, zi what, zi a, zi bb] (some .boolean)) (hI : FC zE S) (hd : FD S d) (ha : 0 ≤ a ∧ a < 2147483648) (hbb : 0 ≤ bb ∧ bb < 2147483648) (hk : 0 ≤ k ∧ k < S.2.1 0) (hP : va_P G vwCl (wH ah y S ++ dW o0 y d) s.heap) (hD : va_D A (wH ah y S ++ dW o0 y d)) : ∀ ls : Array Slot, lv_has ls 33 [(5, zi k), (0, .ref (ah 0)), (1, .ref o0), (2, zi what), (3, zi a), (4, zi bb)] → W p l e (headSpec wsL_step ({ frames := 15, cells := 1250, slots := 7500, locals := 620 })).room s m ([.ref (ah 0), .ref o0, zi what, zi a, zi bb] : List Value).toArray below meth c s.heap [] 0 0 (MQ below (Q_step G ah zE y o0 A) ([.ref (ah 0), .ref o0, zi what, zi a, zi bb] : List Value).toArray s 1250 7500 A) (F0 m 1074 ls []) := by
  intro ls hl
  obtain ⟨hx, hb, hr, hts, hown, hlocks, hml, hK, hA, hGP, hX, hGN, hlt⟩ := hQ
  have hS : va_S A s.heap s.heap [] := va_S.rf
  have qN := hI.N
  have qC := hI.C
  have qNow := hI.Now
  have qHz := hI.Haze
  have qS := hI.Salt
  have qP := hI.Pipe
  have qTc := hI.Trc
  have qTb := hI.Turb
  have qLd := hI.Load
  have qTL := hI.TL
  have qW := hI.Water
  have qD0 := hd.D0
  have qD1 := hd.D1
  have qD2 := hd.D2
  have qD3 := hd.D3
  have qst := strZ_rng (S.2.1 2)
  have kE := hI.Err k
  have kC := hI.Cor k
  have kA := hI.Aim k
  have kB := hI.Brk k
  have kD := hI.Dirt k
  have kP := pwS_rng hI k 0
  have kL := hI.Cell k
  refine lv_aload_n hx hb dL_step_1074 rfl (lv_at hl 1 rfl) ?_
  refine hz_iconst hx hb dL_step_1075 ?_
  refine hz_cI (As := [zi 5]) (rest := []) ⟨hx, hb, hml, hown, hts⟩ (b_plantIs l hlt G ah zE y _ S (5 : Int) hI (show 0 ≤ (5 : Int) ∧ (5 : Int) ≤ 10 by omega)) (cwV 1 hts gL_step_X7_plantIs rfl rfl rfl (by decide +kernel) ⟨Nat.le_of_ble_eq_true rfl, Nat.le_of_ble_eq_true rfl⟩) hP hK hD hS hA hGP 0 8 rfl rfl rfl rfl hl.1 rfl (Nat.le_of_ble_eq_true rfl) dL_step_1076 ⟨Nat.le_of_ble_eq_true rfl, Nat.le_of_ble_eq_true rfl⟩ (fun _ => rfl) (fun u1 H locs hu hP hD hS => ?_)
  have hP : va_P G vwCl (wH ah y S ++ dW o0 y d) H := hP
  have hD : va_D A (wH ah y S ++ dW o0 y d) := hD
  refine hz_tope (z2 := (S.2.1 6)) (by rfl) ?_
  refine lv_istore (lv' := [(22, zi (S.2.1 6)), (5, zi k), (0, .ref (ah 0)), (1, .ref o0), (2, zi what), (3, zi a), (4, zi bb)]) hx hb dL_step_1079 hl (by decide) rfl (fun ls hl => ?_)
  refine lv_iload hx hb dL_step_1081 (lv_at hl 6 rfl) ?_
  refine hz_iconst hx hb dL_step_1083 ?_
  refine hz_irem hx hb dL_step_1084 (by omega) ?_
  refine hz_if_le (tgt := 1092) hx hb dL_step_1085 (by decide) (by omega) (fun c2 => ?_) (fun c2 => ?_)
  · refine hz_iconst hx hb dL_step_1092 ?_
    refine lv_istore (lv' := [(23, zi 0), (22, zi (S.2.1 6)), (5, zi k), (0, .ref (ah 0)), (1, .ref o0), (2, zi what), (3, zi a), (4, zi bb)]) hx hb dL_step_1093 hl (by decide) rfl (fun ls hl => ?_)
    refine lv_aload_n hx hb dL_step_1095 rfl (lv_at hl 3 rfl) ?_
    refine lv_iload hx hb dL_step_1096 (lv_at hl 0 rfl) ?_
    refine hz_if_eq (tgt := 1105) hx hb dL_step_1098 (by decide) (by omega) (fun _ => ?_) (fun q => by exfalso; omega)
    refine hz_iconst hx hb dL_step_1105 ?_
    refine hz_iconst hx hb dL_step_1106 ?_
    refine hz_iconst hx hb dL_step_1107 ?_
    refine hz_lawL (As := [.ref (ah 0), zi 0, zi 0, zi 4]) (rest := []) ⟨hx, hb, hml, hown, hts⟩ (c_acts4_0 l hlt G ah mi zE y _ S (0 : Int) hI ) (vx_cwSW 4 hts gL_step_L_acts rfl rfl rfl (by decide +kernel) ⟨Nat.le_of_ble_eq_true rfl, Nat.le_of_ble_eq_true rfl⟩) hP hK hD hS hA hGP hX hGN rfl hl.1 rfl (Nat.le_of_ble_eq_true rfl) dL_step_1108 ⟨Nat.le_of_ble_eq_true rfl, Nat.le_of_ble_eq_true rfl⟩ (fun r u3 H locs hu hP hD hS => ?_)
    rcases hu with ⟨rfl, hc4, rfl⟩ | ⟨rfl, hc4, rfl⟩
    · have hc4 : (if ((S.2.1 6)) = 2 ∨ ((0 : Int) = 1 ∧ ((S.2.1 6)) = 1) ∨ ((0 : Int) = 0 ∧ ¬ ((S.2.1 6)) = 1) then (1 : Int) else 0) = 0 := hc4
      have hI7 : FC zE (sI (sI S 6 0) 7 0) := (fc_pipe 0 0 hI (by omega))
      have hP : va_P G vwCl (wH ah y (sI (sI S 6 0) 7 0) ++ dW o0 y d) H := hP
      have hD : va_D A (wH ah y (sI (sI S 6 0) 7 0) ++ dW o0 y d) := hD
      refine hz_tope (z2 := 0) (by rfl) ?_
      refine lv_istore (lv' := [(24, zi 0), (23, zi 0), (22, zi (S.2.1 6)), (5, zi k), (0, .ref (ah 0)), (1, .ref o0), (2, zi what), (3, zi a), (4, zi bb)]) hx hb dL_step_1111 hl (by decide) rfl (fun ls hl => ?_)
      refine lv_iload hx hb dL_step_1113 (lv_at hl 0 rfl) ?_
      refine hz_sipush hx hb dL_step_1115 (by decide) ?_
      refine hz_icmp_ne (tgt := 1151) hx hb dL_step_1118 (by decide) (by omega) (fun _ => ?_) (fun q => by exfalso; omega)
      refine lv_iload hx hb dL_step_1151 (lv_at hl 0 rfl) ?_
      refine lv_iload hx hb dL_step_1153 (lv_at hl 1 rfl) ?_
      refine hz_if_eq (tgt := 1163) hx hb dL_step_1155 (by decide) (by omega) (fun _ => ?_) (fun q => by exfalso; omega)
      refine hz_iconst hx hb dL_step_1163 ?_
      refine hz_icmp_ne (tgt := 1199) hx hb dL_step_1164 (by decide) (by omega) (fun q => by exfalso; omega) (fun _ => ?_)
      refine lv_aload_n hx hb dL_step_1167 rfl (lv_at hl 4 rfl) ?_
      refine hz_iconst hx hb dL_step_1168 ?_
      refine hz_cI (As := [zi 5]) (rest := []) ⟨hx, hb, hml, hown, hts⟩ (b_plantIs l hlt G ah zE y _ (sI (sI S 6 0) 7 0) (5 : Int) hI7 (show 0 ≤ (5 : Int) ∧ (5 : Int) ≤ 10 by omega)) (cwV 1 hts gL_step_X7_plantIs rfl rfl rfl (by decide +kernel) ⟨Nat.le_of_ble_eq_true rfl, Nat.le_of_ble_eq_true rfl⟩) hP hK hD hS hA hGP 0 8 rfl rfl rfl rfl hl.1 rfl (Nat.le_of_ble_eq_true rfl) dL_step_1169 ⟨Nat.le_of_ble_eq_true rfl, Nat.le_of_ble_eq_true rfl⟩ (fun _ => rfl) (fun u8 H locs hu hP hD hS => ?_)
      have hP : va_P G vwCl (wH ah y (sI (sI S 6 0) 7 0) ++ dW o0 y d) H := hP
      have hD : va_D A (wH ah y (sI (sI S 6 0) 7 0) ++ dW o0 y d) := hD
      refine hz_tope (z2 := 0) (by rfl) ?_
      refine lv_iload hx hb dL_step_1172 (lv_at hl 1 rfl) ?_
      refine hz_if_eq (tgt := 1181) hx hb dL_step_1174 (by decide) (by omega) (fun _ => ?_) (fun q => by exfalso; omega)
      refine hz_iconst hx hb dL_step_1181 ?_
      refine hz_icmp_ne (tgt := 1199) hx hb dL_step_1182 (by decide) (by omega) (fun q => by exfalso; omega) (fun _ => ?_)
      refine lv_aload_n hx hb dL_step_1185 rfl (lv_at hl 4 rfl) ?_
      refine hz_iconst hx hb dL_step_1186 ?_
      refine hz_cI (As := [zi 4]) (rest := []) ⟨hx, hb, hml, hown, hts⟩ (b_plantIs l hlt G ah zE y _ (sI (sI S 6 0) 7 0) (4 : Int) hI7 (show 0 ≤ (4 : Int) ∧ (4 : Int) ≤ 10 by omega)) (cwV 1 hts gL_step_X7_plantIs rfl rfl rfl (by decide +kernel) ⟨Nat.le_of_ble_eq_true rfl, Nat.le_of_ble_eq_true rfl⟩) hP hK hD hS hA hGP 0 8 rfl rfl rfl rfl hl.1 rfl (Nat.le_of_ble_eq_true rfl) dL_step_1187 ⟨Nat.le_of_ble_eq_true rfl, Nat.le_of_ble_eq_true rfl⟩ (fun _ => rfl) (fun u9 H locs hu hP hD hS => ?_)
      have hP : va_P G vwCl (wH ah y (sI (sI S 6 0) 7 0) ++ dW o0 y d) H := hP
      have hD : va_D A (wH ah y (sI (sI S 6 0) 7 0) ++ dW o0 y d) := hD
      refine hz_tope (z2 := 0) (by rfl) ?_
      refine lv_iload hx hb dL_step_1190 (lv_at hl 0 rfl) ?_
      refine hz_icmp_ne (tgt := 1199) hx hb dL_step_1192 (by decide) (by omega) (fun q => by exfalso; omega) (fun _ => ?_)
      refine hz_iconst hx hb dL_step_1195 ?_
      refine lv_goto (tgt := 1200) hx hb dL_step_1196 (by decide) ?_
      exact hz_upM (Nat.le_of_ble_eq_true rfl) (Nat.le_of_ble_eq_true rfl) (W.zret (ty := .boolean) (v := zI 1) hx hb hr (zI_nb (by omega)) (fun t ht hW => ⟨⟨zI 1, ((sI (sI S 6 0) 7 0), d), rfl, ⟨rfl, hI7, hd, (show 1 ≤ (S.2.1 0) by omega)⟩, hz_at2 hP hD ht⟩, hS.F ht⟩) hS.2.2 dL_step_1200)
    · have hc4 : (if ((S.2.1 6)) = 2 ∨ ((0 : Int) = 1 ∧ ((S.2.1 6)) = 1) ∨ ((0 : Int) = 0 ∧ ¬ ((S.2.1 6)) = 1) then (1 : Int) else 0) = 1 := hc4
      have hP : va_P G vwCl (wH ah y S ++ dW o0 y d) H := hP
      have hD : va_D A (wH ah y S ++ dW o0 y d) := hD
      refine lv_istore (lv' := [(24, zi (-200)), (23, zi 0), (22, zi (S.2.1 6)), (5, zi k), (0, .ref (ah 0)), (1, .ref o0), (2, zi what), (3, zi a), (4, zi bb)]) hx hb dL_step_1111 hl (by decide) rfl (fun ls hl => ?_)
      refine lv_iload hx hb dL_step_1113 (lv_at hl 0 rfl) ?_
      refine hz_sipush hx hb dL_step_1115 (by decide) ?_
      refine hz_icmp_ne (tgt := 1151) hx hb dL_step_1118 (by decide) (by omega) (fun q => by exfalso; omega) (fun _ => ?_)
      refine lv_iload hx hb dL_step_1121 (lv_at hl 2 rfl) ?_
      refine hz_iconst hx hb dL_step_1123 ?_
      refine hz_icmp_eq (tgt := 1143) hx hb dL_step_1124 (by decide) (by omega) (fun c10 => ?_) (fun c10 => ?_)
      · refine hz_iconst hx hb dL_step_1143 ?_
        refine lv_goto (tgt := 1200) hx hb dL_step_1144 (by decide) ?_
        exact hz_upM (Nat.le_of_ble_eq_true rfl) (Nat.le_of_ble_eq_true rfl) (W.zret (ty := .boolean) (v := zI 1) hx hb hr (zI_nb (by omega)) (fun t ht hW => ⟨⟨zI 1, (S, d), rfl, ⟨rfl, hI, hd, (show 1 ≤ (S.2.1 0) by omega)⟩, hz_at2 hP hD ht⟩, hS.F ht⟩) hS.2.2 dL_step_1200)
      · refine lv_iload hx hb dL_step_1127 (lv_at hl 1 rfl) ?_
        refine lv_iload hx hb dL_step_1129 (lv_at hl 2 rfl) ?_
        refine hz_iconst hx hb dL_step_1131 ?_
        refine hz_icmp_ne (tgt := 1139) hx hb dL_step_1132 (by decide) (by omega) (fun _ => ?_) (fun q => by exfalso; omega)
        refine hz_iconst hx hb dL_step_1139 ?_
        refine hz_icmp_ne (tgt := 1147) hx hb dL_step_1140 (by decide) (by omega) (fun q => by exfalso; omega) (fun _ => ?_)
        refine hz_iconst hx hb dL_step_1143 ?_
        refine lv_goto (tgt := 1200) hx hb dL_step_1144 (by decide) ?_
        exact hz_upM (Nat.le_of_ble_eq_true rfl) (Nat.le_of_ble_eq_true rfl) (W.zret (ty := .boolean) (v := zI 1) hx hb hr (zI_nb (by omega)) (fun t ht hW => ⟨⟨zI 1, (S, d), rfl, ⟨rfl, hI, hd, (show 1 ≤ (S.2.1 0) by omega)⟩, hz_at2 hP hD ht⟩, hS.F ht⟩) hS.2.2 dL_step_1200)
  · refine hz_iconst hx hb dL_step_1088 ?_
    refine lv_goto (tgt := 1093) hx hb dL_step_1089 (by decide) ?_
    refine lv_istore (lv' := [(23, zi 1), (22, zi (S.2.1 6)), (5, zi k), (0, .ref (ah 0)), (1, .ref o0), (2, zi what), (3, zi a), (4, zi bb)]) hx hb dL_step_1093 hl (by decide) rfl (fun ls hl => ?_)
    refine lv_aload_n hx hb dL_step_1095 rfl (lv_at hl 3 rfl) ?_
    refine lv_iload hx hb dL_step_1096 (lv_at hl 0 rfl) ?_
    refine hz_if_eq (tgt := 1105) hx hb dL_step_1098 (by decide) (by omega) (fun q => by exfalso; omega) (fun _ => ?_)
    refine hz_iconst hx hb dL_step_1101 ?_
    refine lv_goto (tgt := 1106) hx hb dL_step_1102 (by decide) ?_
    refine hz_iconst hx hb dL_step_1106 ?_
    refine hz_iconst hx hb dL_step_1107 ?_
    refine hz_lawL (As := [.ref (ah 0), zi 1, zi 0, zi 4]) (rest := []) ⟨hx, hb, hml, hown, hts⟩ (c_acts4_1 l hlt G ah mi zE y _ S (0 : Int) hI ) (vx_cwSW 4 hts gL_step_L_acts rfl rfl rfl (by decide +kernel) ⟨Nat.le_of_ble_eq_true rfl, Nat.le_of_ble_eq_true rfl⟩) hP hK hD hS hA hGP hX hGN rfl hl.1 rfl (Nat.le_of_ble_eq_true rfl) dL_step_1108 ⟨Nat.le_of_ble_eq_true rfl, Nat.le_of_ble_eq_true rfl⟩ (fun r u11 H locs hu hP hD hS => ?_)
    rcases hu with ⟨rfl, hc12, rfl⟩ | ⟨rfl, hc12, rfl⟩
    · have hc12 : (if ((S.2.1 6)) = 2 ∨ ((1 : Int) = 1 ∧ ((S.2.1 6)) = 1) ∨ ((1 : Int) = 0 ∧ ¬ ((S.2.1 6)) = 1) then (1 : Int) else 0) = 0 := hc12
      have hI15 : FC zE (sI (sI S 6 1) 7 30) := (fc_pipe 1 30 hI (by omega))
      have hP : va_P G vwCl (wH ah y (sI (sI S 6 1) 7 30) ++ dW o0 y d) H := hP
      have hD : va_D A (wH ah y (sI (sI S 6 1) 7 30) ++ dW o0 y d) := hD
      refine hz_tope (z2 := 30) (by rfl) ?_
      refine lv_istore (lv' := [(24, zi 30), (23, zi 1), (22, zi (S.2.1 6)), (5, zi k), (0, .ref (ah 0)), (1, .ref o0), (2, zi what), (3, zi a), (4, zi bb)]) hx hb dL_step_1111 hl (by decide) rfl (fun ls hl => ?_)
      refine lv_iload hx hb dL_step_1113 (lv_at hl 0 rfl) ?_
      refine hz_sipush hx hb dL_step_1115 (by decide) ?_
      refine hz_icmp_ne (tgt := 1151) hx hb dL_step_1118 (by decide) (by omega) (fun _ => ?_) (fun q => by exfalso; omega)
      refine lv_iload hx hb dL_step_1151 (lv_at hl 0 rfl) ?_
      refine lv_iload hx hb dL_step_1153 (lv_at hl 1 rfl) ?_
      refine hz_if_eq (tgt := 1163) hx hb dL_step_1155 (by decide) (by omega) (fun q => by exfalso; omega) (fun _ => ?_)
      refine hz_bipush hx hb dL_step_1158 (by decide) ?_
      refine lv_goto (tgt := 1164) hx hb dL_step_1160 (by decide) ?_
      refine hz_icmp_ne (tgt := 1199) hx hb dL_step_1164 (by decide) (by omega) (fun q => by exfalso; omega) (fun _ => ?_)
      refine lv_aload_n hx hb dL_step_1167 rfl (lv_at hl 4 rfl) ?_
      refine hz_iconst hx hb dL_step_1168 ?_
      refine hz_cI (As := [zi 5]) (rest := []) ⟨hx, hb, hml, hown, hts⟩ (b_plantIs l hlt G ah zE y _ (sI (sI S 6 1) 7 30) (5 : Int) hI15 (show 0 ≤ (5 : Int) ∧ (5 : Int) ≤ 10 by omega)) (cwV 1 hts gL_step_X7_plantIs rfl rfl rfl (by decide +kernel) ⟨Nat.le_of_ble_eq_true rfl, Nat.le_of_ble_eq_true rfl⟩) hP hK hD hS hA hGP 0 8 rfl rfl rfl rfl hl.1 rfl (Nat.le_of_ble_eq_true rfl) dL_step_1169 ⟨Nat.le_of_ble_eq_true rfl, Nat.le_of_ble_eq_true rfl⟩ (fun _ => rfl) (fun u16 H locs hu hP hD hS => ?_)
      have hP : va_P G vwCl (wH ah y (sI (sI S 6 1) 7 30) ++ dW o0 y d) H := hP
      have hD : va_D A (wH ah y (sI (sI S 6 1) 7 30) ++ dW o0 y d) := hD
      refine hz_tope (z2 := 1) (by rfl) ?_
      refine lv_iload hx hb dL_step_1172 (lv_at hl 1 rfl) ?_
      refine hz_if_eq (tgt := 1181) hx hb dL_step_1174 (by decide) (by omega) (fun q => by exfalso; omega) (fun _ => ?_)
      refine hz_iconst hx hb dL_step_1177 ?_
      refine lv_goto (tgt := 1182) hx hb dL_step_1178 (by decide) ?_
      refine hz_icmp_ne (tgt := 1199) hx hb dL_step_1182 (by decide) (by omega) (fun q => by exfalso; omega) (fun _ => ?_)
      refine lv_aload_n hx hb dL_step_1185 rfl (lv_at hl 4 rfl) ?_
      refine hz_iconst hx hb dL_step_1186 ?_
      refine hz_cI (As := [zi 4]) (rest := []) ⟨hx, hb, hml, hown, hts⟩ (b_plantIs l hlt G ah zE y _ (sI (sI S 6 1) 7 30) (4 : Int) hI15 (show 0 ≤ (4 : Int) ∧ (4 : Int) ≤ 10 by omega)) (cwV 1 hts gL_step_X7_plantIs rfl rfl rfl (by decide +kernel) ⟨Nat.le_of_ble_eq_true rfl, Nat.le_of_ble_eq_true rfl⟩) hP hK hD hS hA hGP 0 8 rfl rfl rfl rfl hl.1 rfl (Nat.le_of_ble_eq_true rfl) dL_step_1187 ⟨Nat.le_of_ble_eq_true rfl, Nat.le_of_ble_eq_true rfl⟩ (fun _ => rfl) (fun u17 H locs hu hP hD hS => ?_)
      have hP : va_P G vwCl (wH ah y (sI (sI S 6 1) 7 30) ++ dW o0 y d) H := hP
      have hD : va_D A (wH ah y (sI (sI S 6 1) 7 30) ++ dW o0 y d) := hD
      refine hz_tope (z2 := 30) (by rfl) ?_
      refine lv_iload hx hb dL_step_1190 (lv_at hl 0 rfl) ?_
      refine hz_icmp_ne (tgt := 1199) hx hb dL_step_1192 (by decide) (by omega) (fun q => by exfalso; omega) (fun _ => ?_)
      refine hz_iconst hx hb dL_step_1195 ?_
      refine lv_goto (tgt := 1200) hx hb dL_step_1196 (by decide) ?_
      exact hz_upM (Nat.le_of_ble_eq_true rfl) (Nat.le_of_ble_eq_true rfl) (W.zret (ty := .boolean) (v := zI 1) hx hb hr (zI_nb (by omega)) (fun t ht hW => ⟨⟨zI 1, ((sI (sI S 6 1) 7 30), d), rfl, ⟨rfl, hI15, hd, (show 1 ≤ (S.2.1 0) by omega)⟩, hz_at2 hP hD ht⟩, hS.F ht⟩) hS.2.2 dL_step_1200)
    · have hc12 : (if ((S.2.1 6)) = 2 ∨ ((1 : Int) = 1 ∧ ((S.2.1 6)) = 1) ∨ ((1 : Int) = 0 ∧ ¬ ((S.2.1 6)) = 1) then (1 : Int) else 0) = 1 := hc12
      have hP : va_P G vwCl (wH ah y S ++ dW o0 y d) H := hP
      have hD : va_D A (wH ah y S ++ dW o0 y d) := hD
      refine lv_istore (lv' := [(24, zi (-200)), (23, zi 1), (22, zi (S.2.1 6)), (5, zi k), (0, .ref (ah 0)), (1, .ref o0), (2, zi what), (3, zi a), (4, zi bb)]) hx hb dL_step_1111 hl (by decide) rfl (fun ls hl => ?_)
      refine lv_iload hx hb dL_step_1113 (lv_at hl 0 rfl) ?_
      refine hz_sipush hx hb dL_step_1115 (by decide) ?_
      refine hz_icmp_ne (tgt := 1151) hx hb dL_step_1118 (by decide) (by omega) (fun q => by exfalso; omega) (fun _ => ?_)
      refine lv_iload hx hb dL_step_1121 (lv_at hl 2 rfl) ?_
      refine hz_iconst hx hb dL_step_1123 ?_
      refine hz_icmp_eq (tgt := 1143) hx hb dL_step_1124 (by decide) (by omega) (fun c18 => ?_) (fun c18 => ?_)
      · refine hz_iconst hx hb dL_step_1143 ?_
        refine lv_goto (tgt := 1200) hx hb dL_step_1144 (by decide) ?_
        exact hz_upM (Nat.le_of_ble_eq_true rfl) (Nat.le_of_ble_eq_true rfl) (W.zret (ty := .boolean) (v := zI 1) hx hb hr (zI_nb (by omega)) (fun t ht hW => ⟨⟨zI 1, (S, d), rfl, ⟨rfl, hI, hd, (show 1 ≤ (S.2.1 0) by omega)⟩, hz_at2 hP hD ht⟩, hS.F ht⟩) hS.2.2 dL_step_1200)
      · refine lv_iload hx hb dL_step_1127 (lv_at hl 1 rfl) ?_
        refine lv_iload hx hb dL_step_1129 (lv_at hl 2 rfl) ?_
        refine hz_iconst hx hb dL_step_1131 ?_
        refine hz_icmp_ne (tgt := 1139) hx hb dL_step_1132 (by decide) (by omega) (fun q => by exfalso; omega) (fun _ => ?_)
        refine hz_iconst hx hb dL_step_1135 ?_
        refine lv_goto (tgt := 1140) hx hb dL_step_1136 (by decide) ?_
        refine hz_icmp_ne (tgt := 1147) hx hb dL_step_1140 (by decide) (by omega) (fun q => by exfalso; omega) (fun _ => ?_)
        refine hz_iconst hx hb dL_step_1143 ?_
        refine lv_goto (tgt := 1200) hx hb dL_step_1144 (by decide) ?_
        exact hz_upM (Nat.le_of_ble_eq_true rfl) (Nat.le_of_ble_eq_true rfl) (W.zret (ty := .boolean) (v := zI 1) hx hb hr (zI_nb (by omega)) (fun t ht hW => ⟨⟨zI 1, (S, d), rfl, ⟨rfl, hI, hd, (show 1 ≤ (S.2.1 0) by omega)⟩, hz_at2 hP hD ht⟩, hS.F ht⟩) hS.2.2 dL_step_1200)
set_option maxHeartbeats 32000000 in
set_option maxRecDepth 100000 in
theorem st_trace {p : Program} {l : Launch} {e : Env} {s : State} {m : MethodId} {below : List Frame} {meth : Method} {c : Code} {A : Nat → Prop} {G : va_G} {mi zE : Nat} {y : Nat → ClassId} {ah : Nat → Nat} {o0 : Nat} {S : ST} {d : Int → Int} {what a bb : Int} {k : Int} (hQ : LC p l s m meth c A G mi zE y 33 cL_step wsL_step [.ref (ah 0), .ref o0, zi what, zi a, zi bb] (some .boolean)) (hI : FC zE S) (hd : FD S d) (ha : 0 ≤ a ∧ a < 2147483648) (hbb : 0 ≤ bb ∧ bb < 2147483648) (hk : 0 ≤ k ∧ k < S.2.1 0) (hP : va_P G vwCl (wH ah y S ++ dW o0 y d) s.heap) (hD : va_D A (wH ah y S ++ dW o0 y d)) : ∀ ls : Array Slot, lv_has ls 33 [(5, zi k), (0, .ref (ah 0)), (1, .ref o0), (2, zi what), (3, zi a), (4, zi bb)] → W p l e (headSpec wsL_step ({ frames := 15, cells := 1250, slots := 7500, locals := 620 })).room s m ([.ref (ah 0), .ref o0, zi what, zi a, zi bb] : List Value).toArray below meth c s.heap [] 0 0 (MQ below (Q_step G ah zE y o0 A) ([.ref (ah 0), .ref o0, zi what, zi a, zi bb] : List Value).toArray s 1250 7500 A) (F0 m 1201 ls []) := by
  intro ls hl
  obtain ⟨hx, hb, hr, hts, hown, hlocks, hml, hK, hA, hGP, hX, hGN, hlt⟩ := hQ
  have hS : va_S A s.heap s.heap [] := va_S.rf
  have qN := hI.N
  have qC := hI.C
  have qNow := hI.Now
  have qHz := hI.Haze
  have qS := hI.Salt
  have qP := hI.Pipe
  have qTc := hI.Trc
  have qTb := hI.Turb
  have qLd := hI.Load
  have qTL := hI.TL
  have qW := hI.Water
  have qD0 := hd.D0
  have qD1 := hd.D1
  have qD2 := hd.D2
  have qD3 := hd.D3
  have qst := strZ_rng (S.2.1 2)
  have kE := hI.Err k
  have kC := hI.Cor k
  have kA := hI.Aim k
  have kB := hI.Brk k
  have kD := hI.Dirt k
  have kP := pwS_rng hI k 0
  have kL := hI.Cell k
  refine lv_aload_n hx hb dL_step_1201 rfl (lv_at hl 1 rfl) ?_
  refine lv_iload hx hb dL_step_1202 (lv_at hl 5 rfl) ?_
  refine hz_iconst hx hb dL_step_1204 ?_
  refine hz_irem hx hb dL_step_1205 (by omega) ?_
  refine hz_if_ne (tgt := 1213) hx hb dL_step_1206 (by decide) (by omega) (fun c1 => ?_) (fun c1 => ?_)
  · refine hz_iconst hx hb dL_step_1213 ?_
    refine hz_cI (As := [zi 0]) (rest := []) ⟨hx, hb, hml, hown, hts⟩ (b_trace l G ah zE y _ S (0 : Int) hI (show (0 : Int) = 0 ∨ (0 : Int) = 1 by omega)) (cwV 1 hts gL_step_X7_trace rfl rfl rfl (by decide +kernel) ⟨Nat.le_of_ble_eq_true rfl, Nat.le_of_ble_eq_true rfl⟩) hP hK hD hS hA hGP 0 8 rfl rfl rfl rfl hl.1 rfl (Nat.le_of_ble_eq_true rfl) dL_step_1214 ⟨Nat.le_of_ble_eq_true rfl, Nat.le_of_ble_eq_true rfl⟩ (fun _ => wH_fst rfl rfl rfl) (fun u2 H locs hu hP hD hS => ?_)
    have hI3 : FC zE (sI S 9 0) := (fc_trace (0 : Int) hI (by omega))
    have hP : va_P G vwCl (wH ah y (sI S 9 0) ++ dW o0 y d) H := hP
    have hD : va_D A (wH ah y (sI S 9 0) ++ dW o0 y d) := hD
    refine hz_tope (z2 := (S.2.1 9)) (by rfl) ?_
    refine hz_if_eq (tgt := 1249) hx hb dL_step_1217 (by decide) (by omega) (fun c4 => ?_) (fun c4 => ?_)
    · refine lv_aload_n hx hb dL_step_1249 rfl (lv_at hl 1 rfl) ?_
      refine hz_bipush hx hb dL_step_1250 (by decide) ?_
      refine hz_cI (As := [zi 6]) (rest := []) ⟨hx, hb, hml, hown, hts⟩ (b_plantIs l hlt G ah zE y _ (sI S 9 0) (6 : Int) hI3 (show 0 ≤ (6 : Int) ∧ (6 : Int) ≤ 10 by omega)) (cwV 1 hts gL_step_X7_plantIs rfl rfl rfl (by decide +kernel) ⟨Nat.le_of_ble_eq_true rfl, Nat.le_of_ble_eq_true rfl⟩) hP hK hD hS hA hGP 0 8 rfl rfl rfl rfl hl.1 rfl (Nat.le_of_ble_eq_true rfl) dL_step_1252 ⟨Nat.le_of_ble_eq_true rfl, Nat.le_of_ble_eq_true rfl⟩ (fun _ => rfl) (fun u5 H locs hu hP hD hS => ?_)
      have hP : va_P G vwCl (wH ah y (sI S 9 0) ++ dW o0 y d) H := hP
      have hD : va_D A (wH ah y (sI S 9 0) ++ dW o0 y d) := hD
      refine hz_tope (z2 := 0) (by rfl) ?_
      refine lv_iload hx hb dL_step_1255 (lv_at hl 5 rfl) ?_
      refine hz_iconst hx hb dL_step_1257 ?_
      refine hz_irem hx hb dL_step_1258 (by omega) ?_
      refine hz_if_ne (tgt := 1266) hx hb dL_step_1259 (by decide) (by omega) (fun _ => ?_) (fun q => by exfalso; omega)
      refine hz_iconst hx hb dL_step_1266 ?_
      refine hz_icmp_ne (tgt := 1274) hx hb dL_step_1267 (by decide) (by omega) (fun q => by exfalso; omega) (fun _ => ?_)
      refine hz_iconst hx hb dL_step_1270 ?_
      refine lv_goto (tgt := 1275) hx hb dL_step_1271 (by decide) ?_
      exact hz_upM (Nat.le_of_ble_eq_true rfl) (Nat.le_of_ble_eq_true rfl) (W.zret (ty := .boolean) (v := zI 1) hx hb hr (zI_nb (by omega)) (fun t ht hW => ⟨⟨zI 1, ((sI S 9 0), d), rfl, ⟨rfl, hI3, hd, (show 1 ≤ (S.2.1 0) by omega)⟩, hz_at2 hP hD ht⟩, hS.F ht⟩) hS.2.2 dL_step_1275)
    · refine lv_aload_n hx hb dL_step_1220 rfl (lv_at hl 1 rfl) ?_
      refine hz_bipush hx hb dL_step_1221 (by decide) ?_
      refine hz_cI (As := [zi 6]) (rest := []) ⟨hx, hb, hml, hown, hts⟩ (b_plantIs l hlt G ah zE y _ (sI S 9 0) (6 : Int) hI3 (show 0 ≤ (6 : Int) ∧ (6 : Int) ≤ 10 by omega)) (cwV 1 hts gL_step_X7_plantIs rfl rfl rfl (by decide +kernel) ⟨Nat.le_of_ble_eq_true rfl, Nat.le_of_ble_eq_true rfl⟩) hP hK hD hS hA hGP 0 8 rfl rfl rfl rfl hl.1 rfl (Nat.le_of_ble_eq_true rfl) dL_step_1223 ⟨Nat.le_of_ble_eq_true rfl, Nat.le_of_ble_eq_true rfl⟩ (fun _ => rfl) (fun u6 H locs hu hP hD hS => ?_)
      have hP : va_P G vwCl (wH ah y (sI S 9 0) ++ dW o0 y d) H := hP
      have hD : va_D A (wH ah y (sI S 9 0) ++ dW o0 y d) := hD
      refine hz_tope (z2 := 0) (by rfl) ?_
      refine lv_iload hx hb dL_step_1226 (lv_at hl 5 rfl) ?_
      refine hz_iconst hx hb dL_step_1228 ?_
      refine hz_irem hx hb dL_step_1229 (by omega) ?_
      refine hz_if_ne (tgt := 1237) hx hb dL_step_1230 (by decide) (by omega) (fun _ => ?_) (fun q => by exfalso; omega)
      refine hz_iconst hx hb dL_step_1237 ?_
      refine hz_icmp_ne (tgt := 1245) hx hb dL_step_1238 (by decide) (by omega) (fun q => by exfalso; omega) (fun _ => ?_)
      refine hz_iconst hx hb dL_step_1241 ?_
      refine lv_goto (tgt := 1275) hx hb dL_step_1242 (by decide) ?_
      exact hz_upM (Nat.le_of_ble_eq_true rfl) (Nat.le_of_ble_eq_true rfl) (W.zret (ty := .boolean) (v := zI 1) hx hb hr (zI_nb (by omega)) (fun t ht hW => ⟨⟨zI 1, ((sI S 9 0), d), rfl, ⟨rfl, hI3, hd, (show 1 ≤ (S.2.1 0) by omega)⟩, hz_at2 hP hD ht⟩, hS.F ht⟩) hS.2.2 dL_step_1275)
  · refine hz_iconst hx hb dL_step_1209 ?_
    refine lv_goto (tgt := 1214) hx hb dL_step_1210 (by decide) ?_
    refine hz_cI (As := [zi 1]) (rest := []) ⟨hx, hb, hml, hown, hts⟩ (b_trace l G ah zE y _ S (1 : Int) hI (show (1 : Int) = 0 ∨ (1 : Int) = 1 by omega)) (cwV 1 hts gL_step_X7_trace rfl rfl rfl (by decide +kernel) ⟨Nat.le_of_ble_eq_true rfl, Nat.le_of_ble_eq_true rfl⟩) hP hK hD hS hA hGP 0 8 rfl rfl rfl rfl hl.1 rfl (Nat.le_of_ble_eq_true rfl) dL_step_1214 ⟨Nat.le_of_ble_eq_true rfl, Nat.le_of_ble_eq_true rfl⟩ (fun _ => wH_fst rfl rfl rfl) (fun u7 H locs hu hP hD hS => ?_)
    have hI8 : FC zE (sI S 9 1) := (fc_trace (1 : Int) hI (by omega))
    have hP : va_P G vwCl (wH ah y (sI S 9 1) ++ dW o0 y d) H := hP
    have hD : va_D A (wH ah y (sI S 9 1) ++ dW o0 y d) := hD
    refine hz_tope (z2 := (S.2.1 9)) (by rfl) ?_
    refine hz_if_eq (tgt := 1249) hx hb dL_step_1217 (by decide) (by omega) (fun c9 => ?_) (fun c9 => ?_)
    · refine lv_aload_n hx hb dL_step_1249 rfl (lv_at hl 1 rfl) ?_
      refine hz_bipush hx hb dL_step_1250 (by decide) ?_
      refine hz_cI (As := [zi 6]) (rest := []) ⟨hx, hb, hml, hown, hts⟩ (b_plantIs l hlt G ah zE y _ (sI S 9 1) (6 : Int) hI8 (show 0 ≤ (6 : Int) ∧ (6 : Int) ≤ 10 by omega)) (cwV 1 hts gL_step_X7_plantIs rfl rfl rfl (by decide +kernel) ⟨Nat.le_of_ble_eq_true rfl, Nat.le_of_ble_eq_true rfl⟩) hP hK hD hS hA hGP 0 8 rfl rfl rfl rfl hl.1 rfl (Nat.le_of_ble_eq_true rfl) dL_step_1252 ⟨Nat.le_of_ble_eq_true rfl, Nat.le_of_ble_eq_true rfl⟩ (fun _ => rfl) (fun u10 H locs hu hP hD hS => ?_)
      have hP : va_P G vwCl (wH ah y (sI S 9 1) ++ dW o0 y d) H := hP
      have hD : va_D A (wH ah y (sI S 9 1) ++ dW o0 y d) := hD
      refine hz_tope (z2 := 1) (by rfl) ?_
      refine lv_iload hx hb dL_step_1255 (lv_at hl 5 rfl) ?_
      refine hz_iconst hx hb dL_step_1257 ?_
      refine hz_irem hx hb dL_step_1258 (by omega) ?_
      refine hz_if_ne (tgt := 1266) hx hb dL_step_1259 (by decide) (by omega) (fun q => by exfalso; omega) (fun _ => ?_)
      refine hz_iconst hx hb dL_step_1262 ?_
      refine lv_goto (tgt := 1267) hx hb dL_step_1263 (by decide) ?_
      refine hz_icmp_ne (tgt := 1274) hx hb dL_step_1267 (by decide) (by omega) (fun q => by exfalso; omega) (fun _ => ?_)
      refine hz_iconst hx hb dL_step_1270 ?_
      refine lv_goto (tgt := 1275) hx hb dL_step_1271 (by decide) ?_
      exact hz_upM (Nat.le_of_ble_eq_true rfl) (Nat.le_of_ble_eq_true rfl) (W.zret (ty := .boolean) (v := zI 1) hx hb hr (zI_nb (by omega)) (fun t ht hW => ⟨⟨zI 1, ((sI S 9 1), d), rfl, ⟨rfl, hI8, hd, (show 1 ≤ (S.2.1 0) by omega)⟩, hz_at2 hP hD ht⟩, hS.F ht⟩) hS.2.2 dL_step_1275)
    · refine lv_aload_n hx hb dL_step_1220 rfl (lv_at hl 1 rfl) ?_
      refine hz_bipush hx hb dL_step_1221 (by decide) ?_
      refine hz_cI (As := [zi 6]) (rest := []) ⟨hx, hb, hml, hown, hts⟩ (b_plantIs l hlt G ah zE y _ (sI S 9 1) (6 : Int) hI8 (show 0 ≤ (6 : Int) ∧ (6 : Int) ≤ 10 by omega)) (cwV 1 hts gL_step_X7_plantIs rfl rfl rfl (by decide +kernel) ⟨Nat.le_of_ble_eq_true rfl, Nat.le_of_ble_eq_true rfl⟩) hP hK hD hS hA hGP 0 8 rfl rfl rfl rfl hl.1 rfl (Nat.le_of_ble_eq_true rfl) dL_step_1223 ⟨Nat.le_of_ble_eq_true rfl, Nat.le_of_ble_eq_true rfl⟩ (fun _ => rfl) (fun u11 H locs hu hP hD hS => ?_)
      have hP : va_P G vwCl (wH ah y (sI S 9 1) ++ dW o0 y d) H := hP
      have hD : va_D A (wH ah y (sI S 9 1) ++ dW o0 y d) := hD
      refine hz_tope (z2 := 1) (by rfl) ?_
      refine lv_iload hx hb dL_step_1226 (lv_at hl 5 rfl) ?_
      refine hz_iconst hx hb dL_step_1228 ?_
      refine hz_irem hx hb dL_step_1229 (by omega) ?_
      refine hz_if_ne (tgt := 1237) hx hb dL_step_1230 (by decide) (by omega) (fun q => by exfalso; omega) (fun _ => ?_)
      refine hz_iconst hx hb dL_step_1233 ?_
      refine lv_goto (tgt := 1238) hx hb dL_step_1234 (by decide) ?_
      refine hz_icmp_ne (tgt := 1245) hx hb dL_step_1238 (by decide) (by omega) (fun q => by exfalso; omega) (fun _ => ?_)
      refine hz_iconst hx hb dL_step_1241 ?_
      refine lv_goto (tgt := 1275) hx hb dL_step_1242 (by decide) ?_
      exact hz_upM (Nat.le_of_ble_eq_true rfl) (Nat.le_of_ble_eq_true rfl) (W.zret (ty := .boolean) (v := zI 1) hx hb hr (zI_nb (by omega)) (fun t ht hW => ⟨⟨zI 1, ((sI S 9 1), d), rfl, ⟨rfl, hI8, hd, (show 1 ≤ (S.2.1 0) by omega)⟩, hz_at2 hP hD ht⟩, hS.F ht⟩) hS.2.2 dL_step_1275)
set_option maxHeartbeats 32000000 in
set_option maxRecDepth 100000 in
theorem st_load {p : Program} {l : Launch} {e : Env} {s : State} {m : MethodId} {below : List Frame} {meth : Method} {c : Code} {A : Nat → Prop} {G : va_G} {mi zE : Nat} {y : Nat → ClassId} {ah : Nat → Nat} {o0 : Nat} {S : ST} {d : Int → Int} {what a bb : Int} {k : Int} (hQ : LC p l s m meth c A G mi zE y 33 cL_step wsL_step [.ref (ah 0), .ref o0, zi what, zi a, zi bb] (some .boolean)) (hI : FC zE S) (hd : FD S d) (ha : 0 ≤ a ∧ a < 2147483648) (hbb : 0 ≤ bb ∧ bb < 2147483648) (hk : 0 ≤ k ∧ k < S.2.1 0) (hP : va_P G vwCl (wH ah y S ++ dW o0 y d) s.heap) (hD : va_D A (wH ah y S ++ dW o0 y d)) : ∀ ls : Array Slot, lv_has ls 33 [(5, zi k), (0, .ref (ah 0)), (1, .ref o0), (2, zi what), (3, zi a), (4, zi bb)] → W p l e (headSpec wsL_step ({ frames := 15, cells := 1250, slots := 7500, locals := 620 })).room s m ([.ref (ah 0), .ref o0, zi what, zi a, zi bb] : List Value).toArray below meth c s.heap [] 0 0 (MQ below (Q_step G ah zE y o0 A) ([.ref (ah 0), .ref o0, zi what, zi a, zi bb] : List Value).toArray s 1250 7500 A) (F0 m 1276 ls []) := by
  intro ls hl
  obtain ⟨hx, hb, hr, hts, hown, hlocks, hml, hK, hA, hGP, hX, hGN, hlt⟩ := hQ
  have hS : va_S A s.heap s.heap [] := va_S.rf
  have qN := hI.N
  have qC := hI.C
  have qNow := hI.Now
  have qHz := hI.Haze
  have qS := hI.Salt
  have qP := hI.Pipe
  have qTc := hI.Trc
  have qTb := hI.Turb
  have qLd := hI.Load
  have qTL := hI.TL
  have qW := hI.Water
  have qD0 := hd.D0
  have qD1 := hd.D1
  have qD2 := hd.D2
  have qD3 := hd.D3
  have qst := strZ_rng (S.2.1 2)
  have kE := hI.Err k
  have kC := hI.Cor k
  have kA := hI.Aim k
  have kB := hI.Brk k
  have kD := hI.Dirt k
  have kP := pwS_rng hI k 0
  have kL := hI.Cell k
  refine lv_aload_n hx hb dL_step_1276 rfl (lv_at hl 1 rfl) ?_
  refine hz_bipush hx hb dL_step_1277 (by decide) ?_
  refine hz_cI (As := [zi 7]) (rest := []) ⟨hx, hb, hml, hown, hts⟩ (b_plantIs l hlt G ah zE y _ S (7 : Int) hI (show 0 ≤ (7 : Int) ∧ (7 : Int) ≤ 10 by omega)) (cwV 1 hts gL_step_X7_plantIs rfl rfl rfl (by decide +kernel) ⟨Nat.le_of_ble_eq_true rfl, Nat.le_of_ble_eq_true rfl⟩) hP hK hD hS hA hGP 0 8 rfl rfl rfl rfl hl.1 rfl (Nat.le_of_ble_eq_true rfl) dL_step_1279 ⟨Nat.le_of_ble_eq_true rfl, Nat.le_of_ble_eq_true rfl⟩ (fun _ => rfl) (fun u1 H locs hu hP hD hS => ?_)
  have hP : va_P G vwCl (wH ah y S ++ dW o0 y d) H := hP
  have hD : va_D A (wH ah y S ++ dW o0 y d) := hD
  refine hz_tope (z2 := (S.2.1 10)) (by rfl) ?_
  refine lv_istore (lv' := [(25, zi (S.2.1 10)), (5, zi k), (0, .ref (ah 0)), (1, .ref o0), (2, zi what), (3, zi a), (4, zi bb)]) hx hb dL_step_1282 hl (by decide) rfl (fun ls hl => ?_)
  refine lv_aload_n hx hb dL_step_1284 rfl (lv_at hl 2 rfl) ?_
  refine hz_bipush hx hb dL_step_1285 (by decide) ?_
  refine hz_cI (As := [zi 8]) (rest := []) ⟨hx, hb, hml, hown, hts⟩ (b_plantIs l hlt G ah zE y _ S (8 : Int) hI (show 0 ≤ (8 : Int) ∧ (8 : Int) ≤ 10 by omega)) (cwV 1 hts gL_step_X7_plantIs rfl rfl rfl (by decide +kernel) ⟨Nat.le_of_ble_eq_true rfl, Nat.le_of_ble_eq_true rfl⟩) hP hK hD hS hA hGP 0 8 rfl rfl rfl rfl hl.1 rfl (Nat.le_of_ble_eq_true rfl) dL_step_1287 ⟨Nat.le_of_ble_eq_true rfl, Nat.le_of_ble_eq_true rfl⟩ (fun _ => rfl) (fun u2 H locs hu hP hD hS => ?_)
  have hP : va_P G vwCl (wH ah y S ++ dW o0 y d) H := hP
  have hD : va_D A (wH ah y S ++ dW o0 y d) := hD
  refine hz_tope (z2 := (S.2.1 12)) (by rfl) ?_
  refine lv_istore (lv' := [(26, zi (S.2.1 12)), (25, zi (S.2.1 10)), (5, zi k), (0, .ref (ah 0)), (1, .ref o0), (2, zi what), (3, zi a), (4, zi bb)]) hx hb dL_step_1290 hl (by decide) rfl (fun ls hl => ?_)
  refine lv_aload_n hx hb dL_step_1292 rfl (lv_at hl 3 rfl) ?_
  refine hz_iconst hx hb dL_step_1293 ?_
  refine lv_iload hx hb dL_step_1294 (lv_at hl 7 rfl) ?_
  refine hz_bipush hx hb dL_step_1296 (by decide) ?_
  refine hz_irem hx hb dL_step_1298 (by omega) ?_
  refine hz_iadd hx hb dL_step_1299 ?_
  refine hz_cI (As := [zi (1 + (bb % 20))]) (rest := []) ⟨hx, hb, hml, hown, hts⟩ (b_load l hlt G ah zE y _ S (1 + (bb % 20)) hI (show 1 ≤ (1 + (bb % 20)) ∧ (1 + (bb % 20)) ≤ 20 by omega)) (cwV 1 hts gL_step_X7_load rfl rfl rfl (by decide +kernel) ⟨Nat.le_of_ble_eq_true rfl, Nat.le_of_ble_eq_true rfl⟩) hP hK hD hS hA hGP 0 8 rfl rfl rfl rfl hl.1 rfl (Nat.le_of_ble_eq_true rfl) dL_step_1300 ⟨Nat.le_of_ble_eq_true rfl, Nat.le_of_ble_eq_true rfl⟩ (fun _ => wH_fst rfl rfl rfl) (fun u3 H locs hu hP hD hS => ?_)
  have huu3 := hu
  have hI4 : FC zE (sI (sI (sI S 10 u3.2) 11 u3.1) 12 (1 + (bb % 20))) := (fc_load (1 + (bb % 20)) u3.2 u3.1 hI (by omega) huu3.1 huu3.2)
  have hP : va_P G vwCl (wH ah y (sI (sI (sI S 10 u3.2) 11 u3.1) 12 (1 + (bb % 20))) ++ dW o0 y d) H := hP
  have hD : va_D A (wH ah y (sI (sI (sI S 10 u3.2) 11 u3.1) 12 (1 + (bb % 20))) ++ dW o0 y d) := hD
  refine hz_tope (z2 := (S.2.1 12)) (by rfl) ?_
  refine lv_iload hx hb dL_step_1303 (lv_at hl 0 rfl) ?_
  refine hz_icmp_ne (tgt := 1348) hx hb dL_step_1305 (by decide) (by omega) (fun q => by exfalso; omega) (fun _ => ?_)
  refine lv_aload_n hx hb dL_step_1308 rfl (lv_at hl 3 rfl) ?_
  refine hz_bipush hx hb dL_step_1309 (by decide) ?_
  refine hz_cI (As := [zi 8]) (rest := []) ⟨hx, hb, hml, hown, hts⟩ (b_plantIs l hlt G ah zE y _ (sI (sI (sI S 10 u3.2) 11 u3.1) 12 (1 + (bb % 20))) (8 : Int) hI4 (show 0 ≤ (8 : Int) ∧ (8 : Int) ≤ 10 by omega)) (cwV 1 hts gL_step_X7_plantIs rfl rfl rfl (by decide +kernel) ⟨Nat.le_of_ble_eq_true rfl, Nat.le_of_ble_eq_true rfl⟩) hP hK hD hS hA hGP 0 8 rfl rfl rfl rfl hl.1 rfl (Nat.le_of_ble_eq_true rfl) dL_step_1311 ⟨Nat.le_of_ble_eq_true rfl, Nat.le_of_ble_eq_true rfl⟩ (fun _ => rfl) (fun u5 H locs hu hP hD hS => ?_)
  have hP : va_P G vwCl (wH ah y (sI (sI (sI S 10 u3.2) 11 u3.1) 12 (1 + (bb % 20))) ++ dW o0 y d) H := hP
  have hD : va_D A (wH ah y (sI (sI (sI S 10 u3.2) 11 u3.1) 12 (1 + (bb % 20))) ++ dW o0 y d) := hD
  refine hz_tope (z2 := (1 + (bb % 20))) (by rfl) ?_
  refine hz_iconst hx hb dL_step_1314 ?_
  refine lv_iload hx hb dL_step_1315 (lv_at hl 7 rfl) ?_
  refine hz_bipush hx hb dL_step_1317 (by decide) ?_
  refine hz_irem hx hb dL_step_1319 (by omega) ?_
  refine hz_iadd hx hb dL_step_1320 ?_
  refine hz_icmp_ne (tgt := 1348) hx hb dL_step_1321 (by decide) (by omega) (fun q => by exfalso; omega) (fun _ => ?_)
  refine lv_aload_n hx hb dL_step_1324 rfl (lv_at hl 3 rfl) ?_
  refine hz_bipush hx hb dL_step_1325 (by decide) ?_
  refine hz_cI (As := [zi 7]) (rest := []) ⟨hx, hb, hml, hown, hts⟩ (b_plantIs l hlt G ah zE y _ (sI (sI (sI S 10 u3.2) 11 u3.1) 12 (1 + (bb % 20))) (7 : Int) hI4 (show 0 ≤ (7 : Int) ∧ (7 : Int) ≤ 10 by omega)) (cwV 1 hts gL_step_X7_plantIs rfl rfl rfl (by decide +kernel) ⟨Nat.le_of_ble_eq_true rfl, Nat.le_of_ble_eq_true rfl⟩) hP hK hD hS hA hGP 0 8 rfl rfl rfl rfl hl.1 rfl (Nat.le_of_ble_eq_true rfl) dL_step_1327 ⟨Nat.le_of_ble_eq_true rfl, Nat.le_of_ble_eq_true rfl⟩ (fun _ => rfl) (fun u6 H locs hu hP hD hS => ?_)
  have hP : va_P G vwCl (wH ah y (sI (sI (sI S 10 u3.2) 11 u3.1) 12 (1 + (bb % 20))) ++ dW o0 y d) H := hP
  have hD : va_D A (wH ah y (sI (sI (sI S 10 u3.2) 11 u3.1) 12 (1 + (bb % 20))) ++ dW o0 y d) := hD
  refine hz_tope (z2 := u3.2) (by rfl) ?_
  refine lv_iload hx hb dL_step_1330 (lv_at hl 1 rfl) ?_
  refine hz_if_ne (tgt := 1339) hx hb dL_step_1332 (by decide) (by omega) (fun c7 => ?_) (fun c7 => ?_)
  · refine lv_iload hx hb dL_step_1339 (lv_at hl 1 rfl) ?_
    refine hz_icmp_ne (tgt := 1348) hx hb dL_step_1341 (by decide) (by omega) (fun q => by exfalso; omega) (fun _ => ?_)
    refine hz_iconst hx hb dL_step_1344 ?_
    refine lv_goto (tgt := 1349) hx hb dL_step_1345 (by decide) ?_
    exact hz_upM (Nat.le_of_ble_eq_true rfl) (Nat.le_of_ble_eq_true rfl) (W.zret (ty := .boolean) (v := zI 1) hx hb hr (zI_nb (by omega)) (fun t ht hW => ⟨⟨zI 1, ((sI (sI (sI S 10 u3.2) 11 u3.1) 12 (1 + (bb % 20))), d), rfl, ⟨rfl, hI4, hd, (show 1 ≤ (S.2.1 0) by omega)⟩, hz_at2 hP hD ht⟩, hS.F ht⟩) hS.2.2 dL_step_1349)
  · refine hz_iconst hx hb dL_step_1335 ?_
    refine lv_goto (tgt := 1341) hx hb dL_step_1336 (by decide) ?_
    refine hz_icmp_ne (tgt := 1348) hx hb dL_step_1341 (by decide) (by omega) (fun q => by exfalso; omega) (fun _ => ?_)
    refine hz_iconst hx hb dL_step_1344 ?_
    refine lv_goto (tgt := 1349) hx hb dL_step_1345 (by decide) ?_
    exact hz_upM (Nat.le_of_ble_eq_true rfl) (Nat.le_of_ble_eq_true rfl) (W.zret (ty := .boolean) (v := zI 1) hx hb hr (zI_nb (by omega)) (fun t ht hW => ⟨⟨zI 1, ((sI (sI (sI S 10 u3.2) 11 u3.1) 12 (1 + (bb % 20))), d), rfl, ⟨rfl, hI4, hd, (show 1 ≤ (S.2.1 0) by omega)⟩, hz_at2 hP hD ht⟩, hS.F ht⟩) hS.2.2 dL_step_1349)
set_option maxHeartbeats 32000000 in
set_option maxRecDepth 100000 in
theorem st_stop {p : Program} {l : Launch} {e : Env} {s : State} {m : MethodId} {below : List Frame} {meth : Method} {c : Code} {A : Nat → Prop} {G : va_G} {mi zE : Nat} {y : Nat → ClassId} {ah : Nat → Nat} {o0 : Nat} {S : ST} {d : Int → Int} {what a bb : Int} {k : Int} (hQ : LC p l s m meth c A G mi zE y 33 cL_step wsL_step [.ref (ah 0), .ref o0, zi what, zi a, zi bb] (some .boolean)) (hI : FC zE S) (hd : FD S d) (ha : 0 ≤ a ∧ a < 2147483648) (hbb : 0 ≤ bb ∧ bb < 2147483648) (hk : 0 ≤ k ∧ k < S.2.1 0) (hP : va_P G vwCl (wH ah y S ++ dW o0 y d) s.heap) (hD : va_D A (wH ah y S ++ dW o0 y d)) : ∀ ls : Array Slot, lv_has ls 33 [(5, zi k), (0, .ref (ah 0)), (1, .ref o0), (2, zi what), (3, zi a), (4, zi bb)] → W p l e (headSpec wsL_step ({ frames := 15, cells := 1250, slots := 7500, locals := 620 })).room s m ([.ref (ah 0), .ref o0, zi what, zi a, zi bb] : List Value).toArray below meth c s.heap [] 0 0 (MQ below (Q_step G ah zE y o0 A) ([.ref (ah 0), .ref o0, zi what, zi a, zi bb] : List Value).toArray s 1250 7500 A) (F0 m 1350 ls []) := by
  intro ls hl
  obtain ⟨hx, hb, hr, hts, hown, hlocks, hml, hK, hA, hGP, hX, hGN, hlt⟩ := hQ
  have hS : va_S A s.heap s.heap [] := va_S.rf
  have qN := hI.N
  have qC := hI.C
  have qNow := hI.Now
  have qHz := hI.Haze
  have qS := hI.Salt
  have qP := hI.Pipe
  have qTc := hI.Trc
  have qTb := hI.Turb
  have qLd := hI.Load
  have qTL := hI.TL
  have qW := hI.Water
  have qD0 := hd.D0
  have qD1 := hd.D1
  have qD2 := hd.D2
  have qD3 := hd.D3
  have qst := strZ_rng (S.2.1 2)
  have kE := hI.Err k
  have kC := hI.Cor k
  have kA := hI.Aim k
  have kB := hI.Brk k
  have kD := hI.Dirt k
  have kP := pwS_rng hI k 0
  have kL := hI.Cell k
  refine lv_aload_n hx hb dL_step_1350 rfl (lv_at hl 1 rfl) ?_
  refine hz_bipush hx hb dL_step_1351 (by decide) ?_
  refine hz_cI (As := [zi 7]) (rest := []) ⟨hx, hb, hml, hown, hts⟩ (b_plantIs l hlt G ah zE y _ S (7 : Int) hI (show 0 ≤ (7 : Int) ∧ (7 : Int) ≤ 10 by omega)) (cwV 1 hts gL_step_X7_plantIs rfl rfl rfl (by decide +kernel) ⟨Nat.le_of_ble_eq_true rfl, Nat.le_of_ble_eq_true rfl⟩) hP hK hD hS hA hGP 0 8 rfl rfl rfl rfl hl.1 rfl (Nat.le_of_ble_eq_true rfl) dL_step_1353 ⟨Nat.le_of_ble_eq_true rfl, Nat.le_of_ble_eq_true rfl⟩ (fun _ => rfl) (fun u1 H locs hu hP hD hS => ?_)
  have hP : va_P G vwCl (wH ah y S ++ dW o0 y d) H := hP
  have hD : va_D A (wH ah y S ++ dW o0 y d) := hD
  refine hz_tope (z2 := (S.2.1 10)) (by rfl) ?_
  refine lv_istore (lv' := [(27, zi (S.2.1 10)), (5, zi k), (0, .ref (ah 0)), (1, .ref o0), (2, zi what), (3, zi a), (4, zi bb)]) hx hb dL_step_1356 hl (by decide) rfl (fun ls hl => ?_)
  refine lv_aload_n hx hb dL_step_1358 rfl (lv_at hl 2 rfl) ?_
  refine hz_iconst hx hb dL_step_1359 ?_
  refine hz_iconst hx hb dL_step_1360 ?_
  refine hz_iconst hx hb dL_step_1361 ?_
  refine hz_lawL (As := [.ref (ah 0), zi 0, zi 0, zi 5]) (rest := []) ⟨hx, hb, hml, hown, hts⟩ (c_acts5 l hlt G ah mi zE y _ S (0 : Int) (0 : Int) hI ) (vx_cwSW 4 hts gL_step_L_acts rfl rfl rfl (by decide +kernel) ⟨Nat.le_of_ble_eq_true rfl, Nat.le_of_ble_eq_true rfl⟩) hP hK hD hS hA hGP hX hGN rfl hl.1 rfl (Nat.le_of_ble_eq_true rfl) dL_step_1362 ⟨Nat.le_of_ble_eq_true rfl, Nat.le_of_ble_eq_true rfl⟩ (fun r u2 H locs hu hP hD hS => ?_)
  rcases hu with ⟨rfl, hc3, rfl⟩ | ⟨rfl, hc3, rfl⟩
  · have hc3 : (if ((S.2.1 10)) = 0 then (1 : Int) else 0) = 0 := hc3
    have hI6 : FC zE (sI (sI S 10 0) 12 0) := (fc_stop hI)
    have hP : va_P G vwCl (wH ah y (sI (sI S 10 0) 12 0) ++ dW o0 y d) H := hP
    have hD : va_D A (wH ah y (sI (sI S 10 0) 12 0) ++ dW o0 y d) := hD
    refine hz_tope (z2 := (S.2.1 10)) (by rfl) ?_
    refine lv_istore (lv' := [(28, zi (S.2.1 10)), (27, zi (S.2.1 10)), (5, zi k), (0, .ref (ah 0)), (1, .ref o0), (2, zi what), (3, zi a), (4, zi bb)]) hx hb dL_step_1365 hl (by decide) rfl (fun ls hl => ?_)
    refine lv_iload hx hb dL_step_1367 (lv_at hl 0 rfl) ?_
    refine lv_iload hx hb dL_step_1369 (lv_at hl 1 rfl) ?_
    refine hz_if_ne (tgt := 1380) hx hb dL_step_1371 (by decide) (by omega) (fun _ => ?_) (fun q => by exfalso; omega)
    refine lv_iload hx hb dL_step_1380 (lv_at hl 1 rfl) ?_
    refine hz_icmp_ne (tgt := 1407) hx hb dL_step_1382 (by decide) (by omega) (fun q => by exfalso; omega) (fun _ => ?_)
    refine lv_aload_n hx hb dL_step_1385 rfl (lv_at hl 3 rfl) ?_
    refine hz_bipush hx hb dL_step_1386 (by decide) ?_
    refine hz_cI (As := [zi 7]) (rest := []) ⟨hx, hb, hml, hown, hts⟩ (b_plantIs l hlt G ah zE y _ (sI (sI S 10 0) 12 0) (7 : Int) hI6 (show 0 ≤ (7 : Int) ∧ (7 : Int) ≤ 10 by omega)) (cwV 1 hts gL_step_X7_plantIs rfl rfl rfl (by decide +kernel) ⟨Nat.le_of_ble_eq_true rfl, Nat.le_of_ble_eq_true rfl⟩) hP hK hD hS hA hGP 0 8 rfl rfl rfl rfl hl.1 rfl (Nat.le_of_ble_eq_true rfl) dL_step_1388 ⟨Nat.le_of_ble_eq_true rfl, Nat.le_of_ble_eq_true rfl⟩ (fun _ => rfl) (fun u7 H locs hu hP hD hS => ?_)
    have hP : va_P G vwCl (wH ah y (sI (sI S 10 0) 12 0) ++ dW o0 y d) H := hP
    have hD : va_D A (wH ah y (sI (sI S 10 0) 12 0) ++ dW o0 y d) := hD
    refine hz_tope (z2 := 0) (by rfl) ?_
    refine hz_if_ne (tgt := 1407) hx hb dL_step_1391 (by decide) (by omega) (fun q => by exfalso; omega) (fun _ => ?_)
    refine lv_aload_n hx hb dL_step_1394 rfl (lv_at hl 3 rfl) ?_
    refine hz_bipush hx hb dL_step_1395 (by decide) ?_
    refine hz_cI (As := [zi 8]) (rest := []) ⟨hx, hb, hml, hown, hts⟩ (b_plantIs l hlt G ah zE y _ (sI (sI S 10 0) 12 0) (8 : Int) hI6 (show 0 ≤ (8 : Int) ∧ (8 : Int) ≤ 10 by omega)) (cwV 1 hts gL_step_X7_plantIs rfl rfl rfl (by decide +kernel) ⟨Nat.le_of_ble_eq_true rfl, Nat.le_of_ble_eq_true rfl⟩) hP hK hD hS hA hGP 0 8 rfl rfl rfl rfl hl.1 rfl (Nat.le_of_ble_eq_true rfl) dL_step_1397 ⟨Nat.le_of_ble_eq_true rfl, Nat.le_of_ble_eq_true rfl⟩ (fun _ => rfl) (fun u8 H locs hu hP hD hS => ?_)
    have hP : va_P G vwCl (wH ah y (sI (sI S 10 0) 12 0) ++ dW o0 y d) H := hP
    have hD : va_D A (wH ah y (sI (sI S 10 0) 12 0) ++ dW o0 y d) := hD
    refine hz_tope (z2 := 0) (by rfl) ?_
    refine hz_if_ne (tgt := 1407) hx hb dL_step_1400 (by decide) (by omega) (fun q => by exfalso; omega) (fun _ => ?_)
    refine hz_iconst hx hb dL_step_1403 ?_
    refine lv_goto (tgt := 1408) hx hb dL_step_1404 (by decide) ?_
    exact hz_upM (Nat.le_of_ble_eq_true rfl) (Nat.le_of_ble_eq_true rfl) (W.zret (ty := .boolean) (v := zI 1) hx hb hr (zI_nb (by omega)) (fun t ht hW => ⟨⟨zI 1, ((sI (sI S 10 0) 12 0), d), rfl, ⟨rfl, hI6, hd, (show 1 ≤ (S.2.1 0) by omega)⟩, hz_at2 hP hD ht⟩, hS.F ht⟩) hS.2.2 dL_step_1408)
  · have hc3 : (if ((S.2.1 10)) = 0 then (1 : Int) else 0) = 1 := hc3
    have hP : va_P G vwCl (wH ah y S ++ dW o0 y d) H := hP
    have hD : va_D A (wH ah y S ++ dW o0 y d) := hD
    refine lv_istore (lv' := [(28, zi (-200)), (27, zi (S.2.1 10)), (5, zi k), (0, .ref (ah 0)), (1, .ref o0), (2, zi what), (3, zi a), (4, zi bb)]) hx hb dL_step_1365 hl (by decide) rfl (fun ls hl => ?_)
    refine lv_iload hx hb dL_step_1367 (lv_at hl 0 rfl) ?_
    refine lv_iload hx hb dL_step_1369 (lv_at hl 1 rfl) ?_
    refine hz_if_ne (tgt := 1380) hx hb dL_step_1371 (by decide) (by omega) (fun q => by exfalso; omega) (fun _ => ?_)
    refine hz_sipush hx hb dL_step_1374 (by decide) ?_
    refine lv_goto (tgt := 1382) hx hb dL_step_1377 (by decide) ?_
    refine hz_icmp_ne (tgt := 1407) hx hb dL_step_1382 (by decide) (by omega) (fun q => by exfalso; omega) (fun _ => ?_)
    refine lv_aload_n hx hb dL_step_1385 rfl (lv_at hl 3 rfl) ?_
    refine hz_bipush hx hb dL_step_1386 (by decide) ?_
    refine hz_cI (As := [zi 7]) (rest := []) ⟨hx, hb, hml, hown, hts⟩ (b_plantIs l hlt G ah zE y _ S (7 : Int) hI (show 0 ≤ (7 : Int) ∧ (7 : Int) ≤ 10 by omega)) (cwV 1 hts gL_step_X7_plantIs rfl rfl rfl (by decide +kernel) ⟨Nat.le_of_ble_eq_true rfl, Nat.le_of_ble_eq_true rfl⟩) hP hK hD hS hA hGP 0 8 rfl rfl rfl rfl hl.1 rfl (Nat.le_of_ble_eq_true rfl) dL_step_1388 ⟨Nat.le_of_ble_eq_true rfl, Nat.le_of_ble_eq_true rfl⟩ (fun _ => rfl) (fun u9 H locs hu hP hD hS => ?_)
    have hP : va_P G vwCl (wH ah y S ++ dW o0 y d) H := hP
    have hD : va_D A (wH ah y S ++ dW o0 y d) := hD
    refine hz_tope (z2 := (S.2.1 10)) (by rfl) ?_
    refine hz_if_ne (tgt := 1407) hx hb dL_step_1391 (by decide) (by omega) (fun q => by exfalso; omega) (fun _ => ?_)
    refine lv_aload_n hx hb dL_step_1394 rfl (lv_at hl 3 rfl) ?_
    refine hz_bipush hx hb dL_step_1395 (by decide) ?_
    refine hz_cI (As := [zi 8]) (rest := []) ⟨hx, hb, hml, hown, hts⟩ (b_plantIs l hlt G ah zE y _ S (8 : Int) hI (show 0 ≤ (8 : Int) ∧ (8 : Int) ≤ 10 by omega)) (cwV 1 hts gL_step_X7_plantIs rfl rfl rfl (by decide +kernel) ⟨Nat.le_of_ble_eq_true rfl, Nat.le_of_ble_eq_true rfl⟩) hP hK hD hS hA hGP 0 8 rfl rfl rfl rfl hl.1 rfl (Nat.le_of_ble_eq_true rfl) dL_step_1397 ⟨Nat.le_of_ble_eq_true rfl, Nat.le_of_ble_eq_true rfl⟩ (fun _ => rfl) (fun u10 H locs hu hP hD hS => ?_)
    have hP : va_P G vwCl (wH ah y S ++ dW o0 y d) H := hP
    have hD : va_D A (wH ah y S ++ dW o0 y d) := hD
    refine hz_tope (z2 := (S.2.1 12)) (by rfl) ?_
    refine hz_if_ne (tgt := 1407) hx hb dL_step_1400 (by decide) (by omega) (fun q => by exfalso; omega) (fun _ => ?_)
    refine hz_iconst hx hb dL_step_1403 ?_
    refine lv_goto (tgt := 1408) hx hb dL_step_1404 (by decide) ?_
    exact hz_upM (Nat.le_of_ble_eq_true rfl) (Nat.le_of_ble_eq_true rfl) (W.zret (ty := .boolean) (v := zI 1) hx hb hr (zI_nb (by omega)) (fun t ht hW => ⟨⟨zI 1, (S, d), rfl, ⟨rfl, hI, hd, (show 1 ≤ (S.2.1 0) by omega)⟩, hz_at2 hP hD ht⟩, hS.F ht⟩) hS.2.2 dL_step_1408)
set_option maxHeartbeats 32000000 in
set_option maxRecDepth 100000 in
theorem st_water {p : Program} {l : Launch} {e : Env} {s : State} {m : MethodId} {below : List Frame} {meth : Method} {c : Code} {A : Nat → Prop} {G : va_G} {mi zE : Nat} {y : Nat → ClassId} {ah : Nat → Nat} {o0 : Nat} {S : ST} {d : Int → Int} {what a bb : Int} {k : Int} (hQ : LC p l s m meth c A G mi zE y 33 cL_step wsL_step [.ref (ah 0), .ref o0, zi what, zi a, zi bb] (some .boolean)) (hI : FC zE S) (hd : FD S d) (ha : 0 ≤ a ∧ a < 2147483648) (hbb : 0 ≤ bb ∧ bb < 2147483648) (hk : 0 ≤ k ∧ k < S.2.1 0) (hP : va_P G vwCl (wH ah y S ++ dW o0 y d) s.heap) (hD : va_D A (wH ah y S ++ dW o0 y d)) : ∀ ls : Array Slot, lv_has ls 33 [(5, zi k), (0, .ref (ah 0)), (1, .ref o0), (2, zi what), (3, zi a), (4, zi bb)] → W p l e (headSpec wsL_step ({ frames := 15, cells := 1250, slots := 7500, locals := 620 })).room s m ([.ref (ah 0), .ref o0, zi what, zi a, zi bb] : List Value).toArray below meth c s.heap [] 0 0 (MQ below (Q_step G ah zE y o0 A) ([.ref (ah 0), .ref o0, zi what, zi a, zi bb] : List Value).toArray s 1250 7500 A) (F0 m 1409 ls []) := by
  intro ls hl
  obtain ⟨hx, hb, hr, hts, hown, hlocks, hml, hK, hA, hGP, hX, hGN, hlt⟩ := hQ
  have hS : va_S A s.heap s.heap [] := va_S.rf
  have qN := hI.N
  have qC := hI.C
  have qNow := hI.Now
  have qHz := hI.Haze
  have qS := hI.Salt
  have qP := hI.Pipe
  have qTc := hI.Trc
  have qTb := hI.Turb
  have qLd := hI.Load
  have qTL := hI.TL
  have qW := hI.Water
  have qD0 := hd.D0
  have qD1 := hd.D1
  have qD2 := hd.D2
  have qD3 := hd.D3
  have qst := strZ_rng (S.2.1 2)
  have kE := hI.Err k
  have kC := hI.Cor k
  have kA := hI.Aim k
  have kB := hI.Brk k
  have kD := hI.Dirt k
  have kP := pwS_rng hI k 0
  have kL := hI.Cell k
  refine lv_aload_n hx hb dL_step_1409 rfl (lv_at hl 1 rfl) ?_
  refine hz_bipush hx hb dL_step_1410 (by decide) ?_
  refine hz_cI (As := [zi 9]) (rest := []) ⟨hx, hb, hml, hown, hts⟩ (b_plantIs l hlt G ah zE y _ S (9 : Int) hI (show 0 ≤ (9 : Int) ∧ (9 : Int) ≤ 10 by omega)) (cwV 1 hts gL_step_X7_plantIs rfl rfl rfl (by decide +kernel) ⟨Nat.le_of_ble_eq_true rfl, Nat.le_of_ble_eq_true rfl⟩) hP hK hD hS hA hGP 0 8 rfl rfl rfl rfl hl.1 rfl (Nat.le_of_ble_eq_true rfl) dL_step_1412 ⟨Nat.le_of_ble_eq_true rfl, Nat.le_of_ble_eq_true rfl⟩ (fun _ => rfl) (fun u1 H locs hu hP hD hS => ?_)
  have hP : va_P G vwCl (wH ah y S ++ dW o0 y d) H := hP
  have hD : va_D A (wH ah y S ++ dW o0 y d) := hD
  refine hz_tope (z2 := (S.2.1 13)) (by rfl) ?_
  refine lv_istore (lv' := [(29, zi (S.2.1 13)), (5, zi k), (0, .ref (ah 0)), (1, .ref o0), (2, zi what), (3, zi a), (4, zi bb)]) hx hb dL_step_1415 hl (by decide) rfl (fun ls hl => ?_)
  refine lv_aload_n hx hb dL_step_1417 rfl (lv_at hl 2 rfl) ?_
  refine hz_iconst hx hb dL_step_1418 ?_
  refine lv_iload hx hb dL_step_1419 (lv_at hl 6 rfl) ?_
  refine hz_sipush hx hb dL_step_1421 (by decide) ?_
  refine hz_irem hx hb dL_step_1424 (by omega) ?_
  refine hz_iadd hx hb dL_step_1425 ?_
  refine hz_iconst hx hb dL_step_1426 ?_
  refine hz_bipush hx hb dL_step_1427 (by decide) ?_
  refine hz_lawL (As := [.ref (ah 0), zi (1 + (bb % 200)), zi 0, zi 7]) (rest := []) ⟨hx, hb, hml, hown, hts⟩ (c_acts7 l hlt G ah mi zE y _ S (1 + (bb % 200)) (0 : Int) hI (show 1 ≤ (1 + (bb % 200)) ∧ (1 + (bb % 200)) ≤ 500 by omega)) (vx_cwSW 4 hts gL_step_L_acts rfl rfl rfl (by decide +kernel) ⟨Nat.le_of_ble_eq_true rfl, Nat.le_of_ble_eq_true rfl⟩) hP hK hD hS hA hGP hX hGN rfl hl.1 rfl (Nat.le_of_ble_eq_true rfl) dL_step_1429 ⟨Nat.le_of_ble_eq_true rfl, Nat.le_of_ble_eq_true rfl⟩ (fun r u2 H locs hu hP hD hS => ?_)
  rcases hu with ⟨rfl, hc3, rfl⟩ | ⟨rfl, hc3, rfl⟩
  · have hc3 : (if ¬ (1 ≤ (1 + (bb % 200)) ∧ (1 + (bb % 200)) ≤ 500) then (1 : Int) else if 1000 < ((S.2.1 13)) + (1 + (bb % 200)) then 2 else 0) = 0 := hc3
    have hI6 : FC zE (sI S 13 ((S.2.1 13) + (1 + (bb % 200)))) := (fc_water (1 + (bb % 200)) hI (by omega) (show ¬ 1000 < (S.2.1 13) + (1 + (bb % 200)) by omega))
    have hP : va_P G vwCl (wH ah y (sI S 13 ((S.2.1 13) + (1 + (bb % 200)))) ++ dW o0 y d) H := hP
    have hD : va_D A (wH ah y (sI S 13 ((S.2.1 13) + (1 + (bb % 200)))) ++ dW o0 y d) := hD
    refine hz_tope (z2 := ((S.2.1 13) + (1 + (bb % 200)))) (by rfl) ?_
    refine lv_istore (lv' := [(30, zi ((S.2.1 13) + (1 + (bb % 200)))), (29, zi (S.2.1 13)), (5, zi k), (0, .ref (ah 0)), (1, .ref o0), (2, zi what), (3, zi a), (4, zi bb)]) hx hb dL_step_1432 hl (by decide) rfl (fun ls hl => ?_)
    refine lv_iload hx hb dL_step_1434 (lv_at hl 0 rfl) ?_
    refine hz_sipush hx hb dL_step_1436 (by decide) ?_
    refine hz_icmp_ne (tgt := 1467) hx hb dL_step_1439 (by decide) (by omega) (fun _ => ?_) (fun q => by exfalso; omega)
    refine lv_iload hx hb dL_step_1467 (lv_at hl 0 rfl) ?_
    refine lv_iload hx hb dL_step_1469 (lv_at hl 1 rfl) ?_
    refine hz_iconst hx hb dL_step_1471 ?_
    refine hz_iadd hx hb dL_step_1472 ?_
    refine lv_iload hx hb dL_step_1473 (lv_at hl 7 rfl) ?_
    refine hz_sipush hx hb dL_step_1475 (by decide) ?_
    refine hz_irem hx hb dL_step_1478 (by omega) ?_
    refine hz_iadd hx hb dL_step_1479 ?_
    refine hz_icmp_ne (tgt := 1487) hx hb dL_step_1480 (by decide) (by omega) (fun q => by exfalso; omega) (fun _ => ?_)
    refine hz_iconst hx hb dL_step_1483 ?_
    refine lv_goto (tgt := 1488) hx hb dL_step_1484 (by decide) ?_
    exact hz_upM (Nat.le_of_ble_eq_true rfl) (Nat.le_of_ble_eq_true rfl) (W.zret (ty := .boolean) (v := zI 1) hx hb hr (zI_nb (by omega)) (fun t ht hW => ⟨⟨zI 1, ((sI S 13 ((S.2.1 13) + (1 + (bb % 200)))), d), rfl, ⟨rfl, hI6, hd, (show 1 ≤ (S.2.1 0) by omega)⟩, hz_at2 hP hD ht⟩, hS.F ht⟩) hS.2.2 dL_step_1488)
  · have hc3 : (if ¬ (1 ≤ (1 + (bb % 200)) ∧ (1 + (bb % 200)) ≤ 500) then (1 : Int) else if 1000 < ((S.2.1 13)) + (1 + (bb % 200)) then 2 else 0) = 2 := hc3
    have hP : va_P G vwCl (wH ah y S ++ dW o0 y d) H := hP
    have hD : va_D A (wH ah y S ++ dW o0 y d) := hD
    refine lv_istore (lv' := [(30, zi (-200)), (29, zi (S.2.1 13)), (5, zi k), (0, .ref (ah 0)), (1, .ref o0), (2, zi what), (3, zi a), (4, zi bb)]) hx hb dL_step_1432 hl (by decide) rfl (fun ls hl => ?_)
    refine lv_iload hx hb dL_step_1434 (lv_at hl 0 rfl) ?_
    refine hz_sipush hx hb dL_step_1436 (by decide) ?_
    refine hz_icmp_ne (tgt := 1467) hx hb dL_step_1439 (by decide) (by omega) (fun q => by exfalso; omega) (fun _ => ?_)
    refine lv_iload hx hb dL_step_1442 (lv_at hl 1 rfl) ?_
    refine hz_iconst hx hb dL_step_1444 ?_
    refine hz_iadd hx hb dL_step_1445 ?_
    refine lv_iload hx hb dL_step_1446 (lv_at hl 7 rfl) ?_
    refine hz_sipush hx hb dL_step_1448 (by decide) ?_
    refine hz_irem hx hb dL_step_1451 (by omega) ?_
    refine hz_iadd hx hb dL_step_1452 ?_
    refine hz_sipush hx hb dL_step_1453 (by decide) ?_
    refine hz_icmp_le (tgt := 1463) hx hb dL_step_1456 (by decide) (by omega) (fun q => by exfalso; omega) (fun _ => ?_)
    refine hz_iconst hx hb dL_step_1459 ?_
    refine lv_goto (tgt := 1488) hx hb dL_step_1460 (by decide) ?_
    exact hz_upM (Nat.le_of_ble_eq_true rfl) (Nat.le_of_ble_eq_true rfl) (W.zret (ty := .boolean) (v := zI 1) hx hb hr (zI_nb (by omega)) (fun t ht hW => ⟨⟨zI 1, (S, d), rfl, ⟨rfl, hI, hd, (show 1 ≤ (S.2.1 0) by omega)⟩, hz_at2 hP hD ht⟩, hS.F ht⟩) hS.2.2 dL_step_1488)
set_option maxHeartbeats 32000000 in
set_option maxRecDepth 100000 in
theorem st_firm {p : Program} {l : Launch} {e : Env} {s : State} {m : MethodId} {below : List Frame} {meth : Method} {c : Code} {A : Nat → Prop} {G : va_G} {mi zE : Nat} {y : Nat → ClassId} {ah : Nat → Nat} {o0 : Nat} {S : ST} {d : Int → Int} {what a bb : Int} {k : Int} (hQ : LC p l s m meth c A G mi zE y 33 cL_step wsL_step [.ref (ah 0), .ref o0, zi what, zi a, zi bb] (some .boolean)) (hI : FC zE S) (hd : FD S d) (ha : 0 ≤ a ∧ a < 2147483648) (hbb : 0 ≤ bb ∧ bb < 2147483648) (hk : 0 ≤ k ∧ k < S.2.1 0) (hP : va_P G vwCl (wH ah y S ++ dW o0 y d) s.heap) (hD : va_D A (wH ah y S ++ dW o0 y d)) : ∀ ls : Array Slot, lv_has ls 33 [(5, zi k), (0, .ref (ah 0)), (1, .ref o0), (2, zi what), (3, zi a), (4, zi bb)] → W p l e (headSpec wsL_step ({ frames := 15, cells := 1250, slots := 7500, locals := 620 })).room s m ([.ref (ah 0), .ref o0, zi what, zi a, zi bb] : List Value).toArray below meth c s.heap [] 0 0 (MQ below (Q_step G ah zE y o0 A) ([.ref (ah 0), .ref o0, zi what, zi a, zi bb] : List Value).toArray s 1250 7500 A) (F0 m 1489 ls []) := by
  intro ls hl
  obtain ⟨hx, hb, hr, hts, hown, hlocks, hml, hK, hA, hGP, hX, hGN, hlt⟩ := hQ
  have hS : va_S A s.heap s.heap [] := va_S.rf
  have qN := hI.N
  have qC := hI.C
  have qNow := hI.Now
  have qHz := hI.Haze
  have qS := hI.Salt
  have qP := hI.Pipe
  have qTc := hI.Trc
  have qTb := hI.Turb
  have qLd := hI.Load
  have qTL := hI.TL
  have qW := hI.Water
  have qD0 := hd.D0
  have qD1 := hd.D1
  have qD2 := hd.D2
  have qD3 := hd.D3
  have qst := strZ_rng (S.2.1 2)
  have kE := hI.Err k
  have kC := hI.Cor k
  have kA := hI.Aim k
  have kB := hI.Brk k
  have kD := hI.Dirt k
  have kP := pwS_rng hI k 0
  have kL := hI.Cell k
  have k5 := hd.D5 (bb % 24) (by omega) (by omega)
  have rf5 := hI.Firm (bb % 24)
  have rp5 := hI.Price (bb % 24)
  refine lv_aload_n hx hb dL_step_1489 rfl (lv_at hl 1 rfl) ?_
  refine lv_iload hx hb dL_step_1490 (lv_at hl 5 rfl) ?_
  refine hz_bipush hx hb dL_step_1492 (by decide) ?_
  refine hz_irem hx hb dL_step_1494 (by omega) ?_
  refine lv_iload hx hb dL_step_1495 (lv_at hl 5 rfl) ?_
  refine hz_bipush hx hb dL_step_1497 (by decide) ?_
  refine hz_idiv hx hb dL_step_1499 (by omega) ?_
  refine hz_bipush hx hb dL_step_1500 (by decide) ?_
  refine hz_irem hx hb dL_step_1502 (by omega) ?_
  refine hz_cI (As := [zi (bb % 24), zi ((bb / 32) % 40)]) (rest := []) ⟨hx, hb, hml, hown, hts⟩ (b_firm l hlt G ah zE y _ S (bb % 24) ((bb / 32) % 40) hI (show 0 ≤ (bb % 24) ∧ (bb % 24) ≤ 23 by omega) (show 0 ≤ ((bb / 32) % 40) ∧ ((bb / 32) % 40) ≤ 200 by omega)) (cwV 2 hts gL_step_X7_firm rfl rfl rfl (by decide +kernel) ⟨Nat.le_of_ble_eq_true rfl, Nat.le_of_ble_eq_true rfl⟩) hP hK hD hS hA hGP 0 8 rfl rfl rfl rfl hl.1 rfl (Nat.le_of_ble_eq_true rfl) dL_step_1503 ⟨Nat.le_of_ble_eq_true rfl, Nat.le_of_ble_eq_true rfl⟩ (fun _ => wH_fst rfl rfl rfl) (fun u1 H locs hu hP hD hS => ?_)
  have hI2 : FC zE (sA S 15 (upZ (S.2.2 15) (bb % 24) ((bb / 32) % 40))) := (fc_firm (bb % 24) ((bb / 32) % 40) hI (by omega))
  have hP : va_P G vwCl (wH ah y (sA S 15 (upZ (S.2.2 15) (bb % 24) ((bb / 32) % 40))) ++ dW o0 y d) H := hP
  have hD : va_D A (wH ah y (sA S 15 (upZ (S.2.2 15) (bb % 24) ((bb / 32) % 40))) ++ dW o0 y d) := hD
  refine hz_tope (z2 := ((S.2.2 15) (bb % 24))) (by rfl) ?_
  refine lv_istore (lv' := [(31, zi ((S.2.2 15) (bb % 24))), (5, zi k), (0, .ref (ah 0)), (1, .ref o0), (2, zi what), (3, zi a), (4, zi bb)]) hx hb dL_step_1506 hl (by decide) rfl (fun ls hl => ?_)
  refine lv_iload hx hb dL_step_1508 (lv_at hl 0 rfl) ?_
  refine lv_aload_n hx hb dL_step_1510 rfl (lv_at hl 3 rfl) ?_
  refine hz_iconst hx hb dL_step_1511 ?_
  refine lv_iload hx hb dL_step_1512 (lv_at hl 6 rfl) ?_
  refine hz_bipush hx hb dL_step_1514 (by decide) ?_
  refine hz_irem hx hb dL_step_1516 (by omega) ?_
  refine hz_iadd hx hb dL_step_1517 ?_
  refine hz_dld hx hb hK hP (by omega) dL_step_1518 ?_
  refine hz_icmp_ne (tgt := 1526) hx hb dL_step_1519 (by decide) (by omega) (fun q => by exfalso; omega) (fun _ => ?_)
  refine hz_iconst hx hb dL_step_1522 ?_
  refine lv_goto (tgt := 1527) hx hb dL_step_1523 (by decide) ?_
  refine lv_istore (lv' := [(32, zi 1), (31, zi ((S.2.2 15) (bb % 24))), (5, zi k), (0, .ref (ah 0)), (1, .ref o0), (2, zi what), (3, zi a), (4, zi bb)]) hx hb dL_step_1527 hl (by decide) rfl (fun ls hl => ?_)
  refine lv_aload_n hx hb dL_step_1529 rfl (lv_at hl 4 rfl) ?_
  refine hz_iconst hx hb dL_step_1530 ?_
  refine lv_iload hx hb dL_step_1531 (lv_at hl 7 rfl) ?_
  refine hz_bipush hx hb dL_step_1533 (by decide) ?_
  refine hz_irem hx hb dL_step_1535 (by omega) ?_
  refine hz_iadd hx hb dL_step_1536 ?_
  refine lv_iload hx hb dL_step_1537 (lv_at hl 7 rfl) ?_
  refine hz_bipush hx hb dL_step_1539 (by decide) ?_
  refine hz_idiv hx hb dL_step_1541 (by omega) ?_
  refine hz_bipush hx hb dL_step_1542 (by decide) ?_
  refine hz_irem hx hb dL_step_1544 (by omega) ?_
  refine hz_dst hx hb hK hP hD hS (by omega) dL_step_1545 (fun H locs hP hD hS => ?_)
  have hP : va_P G vwCl (wH ah y (sA S 15 (upZ (S.2.2 15) (bb % 24) ((bb / 32) % 40))) ++ dW o0 y (upZ d (5 + (bb % 24)) ((bb / 32) % 40))) H := hP
  have hD : va_D A (wH ah y (sA S 15 (upZ (S.2.2 15) (bb % 24) ((bb / 32) % 40))) ++ dW o0 y (upZ d (5 + (bb % 24)) ((bb / 32) % 40))) := hD
  refine lv_iload hx hb dL_step_1546 (lv_at hl 0 rfl) ?_
  refine hz_if_eq (tgt := 1571) hx hb dL_step_1548 (by decide) (by omega) (fun q => by exfalso; omega) (fun _ => ?_)
  refine lv_aload_n hx hb dL_step_1551 rfl (lv_at hl 3 rfl) ?_
  refine lv_iload hx hb dL_step_1552 (lv_at hl 7 rfl) ?_
  refine hz_bipush hx hb dL_step_1554 (by decide) ?_
  refine hz_irem hx hb dL_step_1556 (by omega) ?_
  refine lv_iload_n hx hb dL_step_1557 rfl (lv_at hl 6 rfl) ?_
  refine hz_bipush hx hb dL_step_1558 (by decide) ?_
  refine hz_irem hx hb dL_step_1560 (by omega) ?_
  refine hz_cI (As := [zi (bb % 24), zi (a % 100)]) (rest := []) ⟨hx, hb, hml, hown, hts⟩ (b_price l hlt G ah zE y _ (sA S 15 (upZ (S.2.2 15) (bb % 24) ((bb / 32) % 40))) (bb % 24) (a % 100) hI2 (show 0 ≤ (bb % 24) ∧ (bb % 24) ≤ 23 by omega) (show 0 ≤ (a % 100) ∧ (a % 100) ≤ 99 by omega)) (cwV 2 hts gL_step_X7_price rfl rfl rfl (by decide +kernel) ⟨Nat.le_of_ble_eq_true rfl, Nat.le_of_ble_eq_true rfl⟩) hP hK hD hS hA hGP 0 8 rfl rfl rfl rfl hl.1 rfl (Nat.le_of_ble_eq_true rfl) dL_step_1561 ⟨Nat.le_of_ble_eq_true rfl, Nat.le_of_ble_eq_true rfl⟩ (fun _ => wH_fst rfl rfl rfl) (fun u3 H locs hu hP hD hS => ?_)
  have hI4 : FC zE (sA (sA S 14 (upZ (S.2.2 14) (bb % 24) (a % 100))) 15 (upZ (S.2.2 15) (bb % 24) ((bb / 32) % 40))) := (fc_price (bb % 24) (a % 100) hI2 (by omega))
  have hP : va_P G vwCl (wH ah y (sA (sA S 14 (upZ (S.2.2 14) (bb % 24) (a % 100))) 15 (upZ (S.2.2 15) (bb % 24) ((bb / 32) % 40))) ++ dW o0 y (upZ d (5 + (bb % 24)) ((bb / 32) % 40))) H := hP
  have hD : va_D A (wH ah y (sA (sA S 14 (upZ (S.2.2 14) (bb % 24) (a % 100))) 15 (upZ (S.2.2 15) (bb % 24) ((bb / 32) % 40))) ++ dW o0 y (upZ d (5 + (bb % 24)) ((bb / 32) % 40))) := hD
  refine hz_tope (z2 := ((S.2.2 14) (bb % 24))) (by rfl) ?_
  refine hz_if_lt (tgt := 1571) hx hb dL_step_1564 (by decide) (by omega) (fun q => by exfalso; omega) (fun _ => ?_)
  refine hz_iconst hx hb dL_step_1567 ?_
  refine lv_goto (tgt := 1572) hx hb dL_step_1568 (by decide) ?_
  exact hz_upM (Nat.le_of_ble_eq_true rfl) (Nat.le_of_ble_eq_true rfl) (W.zret (ty := .boolean) (v := zI 1) hx hb hr (zI_nb (by omega)) (fun t ht hW => ⟨⟨zI 1, ((sA (sA S 14 (upZ (S.2.2 14) (bb % 24) (a % 100))) 15 (upZ (S.2.2 15) (bb % 24) ((bb / 32) % 40))), (upZ d (5 + (bb % 24)) ((bb / 32) % 40))), rfl, ⟨rfl, hI4, (fd_5 hd (show 0 ≤ bb % 24 by omega) rfl rfl rfl rfl rfl rfl), (show 1 ≤ (S.2.1 0) by omega)⟩, hz_at2 hP hD ht⟩, hS.F ht⟩) hS.2.2 dL_step_1572)
set_option maxHeartbeats 32000000 in
set_option maxRecDepth 100000 in
theorem st_best {p : Program} {l : Launch} {e : Env} {s : State} {m : MethodId} {below : List Frame} {meth : Method} {c : Code} {A : Nat → Prop} {G : va_G} {mi zE : Nat} {y : Nat → ClassId} {ah : Nat → Nat} {o0 : Nat} {S : ST} {d : Int → Int} {what a bb : Int} {kN : Nat} (hQ : LC p l s m meth c A G mi zE y 33 cL_step wsL_step [.ref (ah 0), .ref o0, zi what, zi a, zi bb] (some .boolean)) (hI : FC zE S) (hd : FD S d) (ha : 0 ≤ a ∧ a < 2147483648) (hbb : 0 ≤ bb ∧ bb < 2147483648) (hkn : (kN : Int) < S.2.1 0) (hP : va_P G vwCl (wH ah y S ++ dW o0 y d) s.heap) (hD : va_D A (wH ah y S ++ dW o0 y d)) : ∀ ls : Array Slot, lv_has ls 33 [(5, zi (kN : Int)), (0, .ref (ah 0)), (1, .ref o0), (2, zi what), (3, zi a), (4, zi bb)] → W p l e (headSpec wsL_step ({ frames := 15, cells := 1250, slots := 7500, locals := 620 })).room s m ([.ref (ah 0), .ref o0, zi what, zi a, zi bb] : List Value).toArray below meth c s.heap [] 0 0 (MQ below (Q_step G ah zE y o0 A) ([.ref (ah 0), .ref o0, zi what, zi a, zi bb] : List Value).toArray s 1250 7500 A) (F0 m 1573 ls []) := by
  intro ls hl
  obtain ⟨hx, hb, hr, hts, hown, hlocks, hml, hK, hA, hGP, hX, hGN, hlt⟩ := hQ
  have hS : va_S A s.heap s.heap [] := va_S.rf
  have qN := hI.N
  have qC := hI.C
  have qNow := hI.Now
  have qHz := hI.Haze
  have qS := hI.Salt
  have qP := hI.Pipe
  have qTc := hI.Trc
  have qTb := hI.Turb
  have qLd := hI.Load
  have qTL := hI.TL
  have qW := hI.Water
  have qD0 := hd.D0
  have qD1 := hd.D1
  have qD2 := hd.D2
  have qD3 := hd.D3
  have qst := strZ_rng (S.2.1 2)
  refine lv_aload_n hx hb dL_step_1573 rfl (lv_at hl 1 rfl) ?_
  refine lv_aload_n hx hb dL_step_1574 rfl (lv_at hl 2 rfl) ?_
  refine lv_iload hx hb dL_step_1575 (lv_at hl 0 rfl) ?_
  refine lv_iload hx hb dL_step_1577 (lv_at hl 5 rfl) ?_
  refine hz_sN (As := [.ref (ah 0), .ref o0, zi (kN : Int), zi bb]) (rest := []) ⟨hx, hb, hml, hown, hts⟩ (c_isBest l hlt G ah mi zE y o0 _ S d kN bb hI hd hkn (by omega)) (va_cwS 4 hts gL_step_L_isBest rfl rfl rfl (by decide +kernel) ⟨Nat.le_of_ble_eq_true rfl, Nat.le_of_ble_eq_true rfl⟩) hP hK hD hS hA hGP hX hGN rfl hl.1 rfl (Nat.le_of_ble_eq_true rfl) dL_step_1579 ⟨Nat.le_of_ble_eq_true rfl, Nat.le_of_ble_eq_true rfl⟩ (fun r u H locs hu hP hD hS => ?_)
  obtain ⟨S1, d1⟩ := u
  obtain ⟨rfl, hI1, hd1, hN1⟩ := hu
  have hI1 : FC zE S1 := hI1
  have hd1 : FD S1 d1 := hd1
  have hN1 : S1.2.1 0 = S.2.1 0 := hN1
  have hP : va_P G vwCl (wH ah y S1 ++ dW o0 y d1) H := hP
  have hD : va_D A (wH ah y S1 ++ dW o0 y d1) := hD
  exact hz_upM (Nat.le_of_ble_eq_true rfl) (Nat.le_of_ble_eq_true rfl) (W.zret (ty := .boolean) (v := zI 1) hx hb hr (zI_nb (by omega)) (fun t ht hW => ⟨⟨zI 1, (S1, d1), rfl, ⟨rfl, hI1, hd1, (show 1 ≤ (S1.2.1 0) by omega)⟩, hz_at2 hP hD ht⟩, hS.F ht⟩) hS.2.2 dL_step_1582)
set_option maxHeartbeats 32000000 in
set_option maxRecDepth 100000 in
theorem st_fore {p : Program} {l : Launch} {e : Env} {s : State} {m : MethodId} {below : List Frame} {meth : Method} {c : Code} {A : Nat → Prop} {G : va_G} {mi zE : Nat} {y : Nat → ClassId} {ah : Nat → Nat} {o0 : Nat} {S : ST} {d : Int → Int} {what a bb : Int} {k : Int} (hQ : LC p l s m meth c A G mi zE y 33 cL_step wsL_step [.ref (ah 0), .ref o0, zi what, zi a, zi bb] (some .boolean)) (hI : FC zE S) (hd : FD S d) (ha : 0 ≤ a ∧ a < 2147483648) (hbb : 0 ≤ bb ∧ bb < 2147483648) (hk : 0 ≤ k ∧ k < S.2.1 0) (hP : va_P G vwCl (wH ah y S ++ dW o0 y d) s.heap) (hD : va_D A (wH ah y S ++ dW o0 y d)) : ∀ ls : Array Slot, lv_has ls 33 [(5, zi k), (0, .ref (ah 0)), (1, .ref o0), (2, zi what), (3, zi a), (4, zi bb)] → W p l e (headSpec wsL_step ({ frames := 15, cells := 1250, slots := 7500, locals := 620 })).room s m ([.ref (ah 0), .ref o0, zi what, zi a, zi bb] : List Value).toArray below meth c s.heap [] 0 0 (MQ below (Q_step G ah zE y o0 A) ([.ref (ah 0), .ref o0, zi what, zi a, zi bb] : List Value).toArray s 1250 7500 A) (F0 m 1583 ls []) := by
  intro ls hl
  obtain ⟨hx, hb, hr, hts, hown, hlocks, hml, hK, hA, hGP, hX, hGN, hlt⟩ := hQ
  have hS : va_S A s.heap s.heap [] := va_S.rf
  have qN := hI.N
  have qC := hI.C
  have qNow := hI.Now
  have qHz := hI.Haze
  have qS := hI.Salt
  have qP := hI.Pipe
  have qTc := hI.Trc
  have qTb := hI.Turb
  have qLd := hI.Load
  have qTL := hI.TL
  have qW := hI.Water
  have qD0 := hd.D0
  have qD1 := hd.D1
  have qD2 := hd.D2
  have qD3 := hd.D3
  have qst := strZ_rng (S.2.1 2)
  have kE := hI.Err k
  have kC := hI.Cor k
  have kA := hI.Aim k
  have kB := hI.Brk k
  have kD := hI.Dirt k
  have kP := pwS_rng hI k 0
  have kL := hI.Cell k
  refine lv_aload_n hx hb dL_step_1583 rfl (lv_at hl 1 rfl) ?_
  refine lv_aload_n hx hb dL_step_1584 rfl (lv_at hl 2 rfl) ?_
  refine lv_iload hx hb dL_step_1585 (lv_at hl 0 rfl) ?_
  refine hz_iconst hx hb dL_step_1587 ?_
  refine lv_iload hx hb dL_step_1588 (lv_at hl 5 rfl) ?_
  refine hz_bipush hx hb dL_step_1590 (by decide) ?_
  refine hz_irem hx hb dL_step_1592 (by omega) ?_
  refine hz_iadd hx hb dL_step_1593 ?_
  refine hz_sN (As := [.ref (ah 0), .ref o0, zi k, zi (1 + (bb % 24))]) (rest := []) ⟨hx, hb, hml, hown, hts⟩ (c_isForetold l hlt G ah mi zE y o0 _ S d k (1 + (bb % 24)) hI hd (by omega) (by omega)) (va_cwS 4 hts gL_step_L_isForetold rfl rfl rfl (by decide +kernel) ⟨Nat.le_of_ble_eq_true rfl, Nat.le_of_ble_eq_true rfl⟩) hP hK hD hS hA hGP hX hGN rfl hl.1 rfl (Nat.le_of_ble_eq_true rfl) dL_step_1594 ⟨Nat.le_of_ble_eq_true rfl, Nat.le_of_ble_eq_true rfl⟩ (fun r u H locs hu hP hD hS => ?_)
  obtain ⟨S1, d1⟩ := u
  obtain ⟨rfl, hI1, hd1, hN1⟩ := hu
  have hI1 : FC zE S1 := hI1
  have hd1 : FD S1 d1 := hd1
  have hN1 : S1.2.1 0 = S.2.1 0 := hN1
  have hP : va_P G vwCl (wH ah y S1 ++ dW o0 y d1) H := hP
  have hD : va_D A (wH ah y S1 ++ dW o0 y d1) := hD
  exact hz_upM (Nat.le_of_ble_eq_true rfl) (Nat.le_of_ble_eq_true rfl) (W.zret (ty := .boolean) (v := zI 1) hx hb hr (zI_nb (by omega)) (fun t ht hW => ⟨⟨zI 1, (S1, d1), rfl, ⟨rfl, hI1, hd1, (show 1 ≤ (S1.2.1 0) by omega)⟩, hz_at2 hP hD ht⟩, hS.F ht⟩) hS.2.2 dL_step_1597)
set_option maxHeartbeats 32000000 in
set_option maxRecDepth 100000 in
theorem st_goes {p : Program} {l : Launch} {e : Env} {s : State} {m : MethodId} {below : List Frame} {meth : Method} {c : Code} {A : Nat → Prop} {G : va_G} {mi zE : Nat} {y : Nat → ClassId} {ah : Nat → Nat} {o0 : Nat} {S : ST} {d : Int → Int} {what a bb : Int} {k : Int} (hQ : LC p l s m meth c A G mi zE y 33 cL_step wsL_step [.ref (ah 0), .ref o0, zi what, zi a, zi bb] (some .boolean)) (hI : FC zE S) (hd : FD S d) (ha : 0 ≤ a ∧ a < 2147483648) (hbb : 0 ≤ bb ∧ bb < 2147483648) (hk : 0 ≤ k ∧ k < S.2.1 0) (hP : va_P G vwCl (wH ah y S ++ dW o0 y d) s.heap) (hD : va_D A (wH ah y S ++ dW o0 y d)) : ∀ ls : Array Slot, lv_has ls 33 [(5, zi k), (0, .ref (ah 0)), (1, .ref o0), (2, zi what), (3, zi a), (4, zi bb)] → W p l e (headSpec wsL_step ({ frames := 15, cells := 1250, slots := 7500, locals := 620 })).room s m ([.ref (ah 0), .ref o0, zi what, zi a, zi bb] : List Value).toArray below meth c s.heap [] 0 0 (MQ below (Q_step G ah zE y o0 A) ([.ref (ah 0), .ref o0, zi what, zi a, zi bb] : List Value).toArray s 1250 7500 A) (F0 m 1598 ls []) := by
  intro ls hl
  obtain ⟨hx, hb, hr, hts, hown, hlocks, hml, hK, hA, hGP, hX, hGN, hlt⟩ := hQ
  have hS : va_S A s.heap s.heap [] := va_S.rf
  have qN := hI.N
  have qC := hI.C
  have qNow := hI.Now
  have qHz := hI.Haze
  have qS := hI.Salt
  have qP := hI.Pipe
  have qTc := hI.Trc
  have qTb := hI.Turb
  have qLd := hI.Load
  have qTL := hI.TL
  have qW := hI.Water
  have qD0 := hd.D0
  have qD1 := hd.D1
  have qD2 := hd.D2
  have qD3 := hd.D3
  have qst := strZ_rng (S.2.1 2)
  have kE := hI.Err k
  have kC := hI.Cor k
  have kA := hI.Aim k
  have kB := hI.Brk k
  have kD := hI.Dirt k
  have kP := pwS_rng hI k 0
  have kL := hI.Cell k
  refine lv_aload_n hx hb dL_step_1598 rfl (lv_at hl 1 rfl) ?_
  refine lv_aload_n hx hb dL_step_1599 rfl (lv_at hl 2 rfl) ?_
  refine lv_iload hx hb dL_step_1600 (lv_at hl 5 rfl) ?_
  refine hz_iconst hx hb dL_step_1602 ?_
  refine hz_irem hx hb dL_step_1603 (by omega) ?_
  refine hz_if_ne (tgt := 1620) hx hb dL_step_1604 (by decide) (by omega) (fun c1 => ?_) (fun c1 => ?_)
  · refine hz_iconst hx hb dL_step_1620 ?_
    refine lv_iload hx hb dL_step_1621 (lv_at hl 5 rfl) ?_
    refine hz_bipush hx hb dL_step_1623 (by decide) ?_
    refine hz_idiv hx hb dL_step_1625 (by omega) ?_
    refine hz_iconst hx hb dL_step_1626 ?_
    refine hz_irem hx hb dL_step_1627 (by omega) ?_
    refine hz_iadd hx hb dL_step_1628 ?_
    refine hz_sN (As := [.ref (ah 0), .ref o0, zi (1 + ((bb / 8) % 3))]) (rest := []) ⟨hx, hb, hml, hown, hts⟩ (c_goes l hlt G ah mi zE y o0 _ S d (1 + ((bb / 8) % 3)) hI hd (by omega)) (va_cwS 3 hts gL_step_L_goes rfl rfl rfl (by decide +kernel) ⟨Nat.le_of_ble_eq_true rfl, Nat.le_of_ble_eq_true rfl⟩) hP hK hD hS hA hGP hX hGN rfl hl.1 rfl (Nat.le_of_ble_eq_true rfl) dL_step_1629 ⟨Nat.le_of_ble_eq_true rfl, Nat.le_of_ble_eq_true rfl⟩ (fun r u H locs hu hP hD hS => ?_)
    obtain ⟨S1, d1⟩ := u
    obtain ⟨rfl, hI1, hd1, hN1⟩ := hu
    have hI1 : FC zE S1 := hI1
    have hd1 : FD S1 d1 := hd1
    obtain ⟨j, hj, hj2, hG⟩ := hN1
    have hN1 : S1.2.1 0 = S.2.1 0 := hG.1
    have hP : va_P G vwCl (wH ah y S1 ++ dW o0 y d1) H := hP
    have hD : va_D A (wH ah y S1 ++ dW o0 y d1) := hD
    exact hz_upM (Nat.le_of_ble_eq_true rfl) (Nat.le_of_ble_eq_true rfl) (W.zret (ty := .boolean) (v := zI 1) hx hb hr (zI_nb (by omega)) (fun t ht hW => ⟨⟨zI 1, (S1, d1), rfl, ⟨rfl, hI1, hd1, (show 1 ≤ (S1.2.1 0) by omega)⟩, hz_at2 hP hD ht⟩, hS.F ht⟩) hS.2.2 dL_step_1632)
  · refine hz_iconst hx hb dL_step_1607 ?_
    refine lv_iload hx hb dL_step_1608 (lv_at hl 5 rfl) ?_
    refine hz_bipush hx hb dL_step_1610 (by decide) ?_
    refine hz_idiv hx hb dL_step_1612 (by omega) ?_
    refine hz_bipush hx hb dL_step_1613 (by decide) ?_
    refine hz_irem hx hb dL_step_1615 (by omega) ?_
    refine hz_iadd hx hb dL_step_1616 ?_
    refine lv_goto (tgt := 1629) hx hb dL_step_1617 (by decide) ?_
    refine hz_sN (As := [.ref (ah 0), .ref o0, zi (1 + ((bb / 8) % 30))]) (rest := []) ⟨hx, hb, hml, hown, hts⟩ (c_goes l hlt G ah mi zE y o0 _ S d (1 + ((bb / 8) % 30)) hI hd (by omega)) (va_cwS 3 hts gL_step_L_goes rfl rfl rfl (by decide +kernel) ⟨Nat.le_of_ble_eq_true rfl, Nat.le_of_ble_eq_true rfl⟩) hP hK hD hS hA hGP hX hGN rfl hl.1 rfl (Nat.le_of_ble_eq_true rfl) dL_step_1629 ⟨Nat.le_of_ble_eq_true rfl, Nat.le_of_ble_eq_true rfl⟩ (fun r u H locs hu hP hD hS => ?_)
    obtain ⟨S1, d1⟩ := u
    obtain ⟨rfl, hI1, hd1, hN1⟩ := hu
    have hI1 : FC zE S1 := hI1
    have hd1 : FD S1 d1 := hd1
    obtain ⟨j, hj, hj2, hG⟩ := hN1
    have hN1 : S1.2.1 0 = S.2.1 0 := hG.1
    have hP : va_P G vwCl (wH ah y S1 ++ dW o0 y d1) H := hP
    have hD : va_D A (wH ah y S1 ++ dW o0 y d1) := hD
    exact hz_upM (Nat.le_of_ble_eq_true rfl) (Nat.le_of_ble_eq_true rfl) (W.zret (ty := .boolean) (v := zI 1) hx hb hr (zI_nb (by omega)) (fun t ht hW => ⟨⟨zI 1, (S1, d1), rfl, ⟨rfl, hI1, hd1, (show 1 ≤ (S1.2.1 0) by omega)⟩, hz_at2 hP hD ht⟩, hS.F ht⟩) hS.2.2 dL_step_1632)
