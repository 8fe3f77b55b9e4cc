set_option maxHeartbeats 32000000 in
set_option maxRecDepth 100000 in
theorem law_loop (p : Program) (l : Launch) (e : Env) (s : State) (m : MethodId) (below : List Frame) (meth : Method) (c : Code) (b L : Nat) (xs : Nat → Int32) (G : va_G) (mi zE : Nat) (y : Nat → ClassId) (ah : Nat → Nat) (o0 : Nat) (hQ : LC p l s m meth c (fun q : Nat => s.heap.size ≤ q) G mi zE y 7 cL_law wsL_law [.ref b] (some .boolean)) (hX0 : va_X b L xs s s.heap) (hbl : b < s.heap.size) (hL : L ≤ 260) (ns : Int) (hns : 0 ≤ ns ∧ ns ≤ 70 ∧ 3 * ns ≤ (L : Int)) : ∀ (f : Nat) (i : Int) (S : ST) (d : Int → Int) (H : Heap) (locs : List Loc) (cells slots : Nat), (0 ≤ i ∧ i ≤ ns ∧ ns - i < f) → (cells + 1350 * (ns - i).toNat ≤ 600074 ∧ slots + 8100 * (ns - i).toNat ≤ 7301550) → FC zE S → FD S d → va_P G vwCl (wH ah y S ++ dW o0 y d) H → va_D (fun q : Nat => s.heap.size ≤ q) (wH ah y S ++ dW o0 y d) → va_S (fun q : Nat => s.heap.size ≤ q) s.heap H locs → ∀ ls : Array Slot, lv_has ls 7 [(0, .ref b), (1, .ref (ah 0)), (2, .ref o0), (3, zi 1), (4, zi ns), (5, zi i)] → W p l e room_1 s m #[Value.ref b] below meth c H locs cells slots (lw_Z below #[Value.ref b] s) (F0 m 83 ls []) := by
  intro f
  induction f with
  | zero => exact fun i S d H locs cells slots hi => absurd hi.2.2 (by omega)
  | succ f ih =>
    intro i S d H locs cells slots hi hrm hI hd hP hD hS ls hl
    obtain ⟨hx, hb, hr, hts, hown, hlocks, hml, hK, hA, hGP, hX, hGN, hlt⟩ := id hQ
    have hbA : ¬ (fun q : Nat => s.heap.size ≤ q) b := Nat.not_le.mpr hbl
    refine lv_iload hx hb dL_law_83 (lv_at hl 5 rfl) ?_
    refine lv_iload hx hb dL_law_85 (lv_at hl 4 rfl) ?_
    refine hz_icmp_ge (tgt := 163) hx hb dL_law_87 (by decide) (by omega) (fun c1 => ?_) (fun c1 => ?_)
    · refine lv_iload_n hx hb dL_law_163 rfl (lv_at hl 3 rfl) ?_
      have e1 : zI 1 = 1 := by decide
      rw [e1]
      refine va_forget (fun q hq => hS.2.2 q hq) ?_
      refine W.widen (k := 600074) (n := 7301550) (by omega) (by omega) ?_
      exact lw_ret (b := b) (d0 := s.drawn) (Drawn.sameBut.refl s.drawn lw_cs) hx hb hr hlocks dL_law_164
    · refine lv_iload_n hx hb dL_law_90 rfl (lv_at hl 3 rfl) ?_
      refine hz_if_eq (tgt := 163) hx hb dL_law_91 (by decide) (by omega) (fun q => by exfalso; omega) (fun _ => ?_)
      refine lv_aload_n hx hb dL_law_94 rfl (lv_at hl 0 rfl) ?_
      refine hz_iconst hx hb dL_law_95 ?_
      refine lv_iload hx hb dL_law_96 (lv_at hl 5 rfl) ?_
      refine hz_imul hx hb dL_law_98 ?_
      refine hz_iconst hx hb dL_law_99 ?_
      refine hz_iadd hx hb dL_law_100 ?_
      refine lc_draw (rest := []) ⟨hx, hb, hml, hown, hts⟩ (c_draw l b L xs ((3 * i) + 1) (by omega) hL) (va_cwS 2 hts gL_law_L_draw rfl rfl rfl (by decide +kernel) ⟨Nat.le_of_ble_eq_true rfl, Nat.le_of_ble_eq_true rfl⟩) hX0 hbl hbA hP hS hl.1 rfl (Nat.le_of_ble_eq_true rfl) dL_law_101 ⟨by show cells + 0 ≤ 600074; omega, by show slots + 0 ≤ 7301550; omega⟩ (fun a ha H locs hP hS => ?_)
      refine lv_istore (lv' := [(6, zi a), (0, .ref b), (1, .ref (ah 0)), (2, .ref o0), (3, zi 1), (4, zi ns), (5, zi i)]) hx hb dL_law_104 hl (by decide) rfl (fun ls hl => ?_)
      refine lv_aload_n hx hb dL_law_106 rfl (lv_at hl 2 rfl) ?_
      refine lv_aload_n hx hb dL_law_107 rfl (lv_at hl 3 rfl) ?_
      refine lv_aload_n hx hb dL_law_108 rfl (lv_at hl 1 rfl) ?_
      refine hz_iconst hx hb dL_law_109 ?_
      refine lv_iload hx hb dL_law_110 (lv_at hl 6 rfl) ?_
      refine hz_imul hx hb dL_law_112 ?_
      refine lc_draw (rest := [.ref o0, .ref (ah 0)]) ⟨hx, hb, hml, hown, hts⟩ (c_draw l b L xs (3 * i) (by omega) hL) (va_cwS 2 hts gL_law_L_draw rfl rfl rfl (by decide +kernel) ⟨Nat.le_of_ble_eq_true rfl, Nat.le_of_ble_eq_true rfl⟩) hX0 hbl hbA hP hS hl.1 rfl (Nat.le_of_ble_eq_true rfl) dL_law_113 ⟨by show cells + 0 ≤ 600074; omega, by show slots + 0 ≤ 7301550; omega⟩ (fun what hwhat H locs hP hS => ?_)
      refine lv_iload hx hb dL_law_116 (lv_at hl 0 rfl) ?_
      refine lv_aload_n hx hb dL_law_118 rfl (lv_at hl 1 rfl) ?_
      refine hz_iconst hx hb dL_law_119 ?_
      refine lv_iload hx hb dL_law_120 (lv_at hl 6 rfl) ?_
      refine hz_imul hx hb dL_law_122 ?_
      refine hz_iconst hx hb dL_law_123 ?_
      refine hz_iadd hx hb dL_law_124 ?_
      refine lc_draw (rest := [zi a, zi what, .ref o0, .ref (ah 0)]) ⟨hx, hb, hml, hown, hts⟩ (c_draw l b L xs ((3 * i) + 2) (by omega) hL) (va_cwS 2 hts gL_law_L_draw rfl rfl rfl (by decide +kernel) ⟨Nat.le_of_ble_eq_true rfl, Nat.le_of_ble_eq_true rfl⟩) hX0 hbl hbA hP hS hl.1 rfl (Nat.le_of_ble_eq_true rfl) dL_law_125 ⟨by show cells + 0 ≤ 600074; omega, by show slots + 0 ≤ 7301550; omega⟩ (fun bb hbb H locs hP hS => ?_)
      refine hz_sN (As := [.ref (ah 0), .ref o0, zi what, zi a, zi bb]) (rest := []) ⟨hx, hb, hml, hown, hts⟩ (c_step l hlt G ah mi zE y o0 _ S d what a bb hI hd hwhat ha hbb) (va_cwS 5 hts gL_law_L_step rfl rfl rfl (by decide +kernel) ⟨Nat.le_of_ble_eq_true rfl, Nat.le_of_ble_eq_true rfl⟩) hP hK hD hS hA hGP hX hGN rfl hl.1 rfl (Nat.le_of_ble_eq_true rfl) dL_law_128 ⟨by show cells + 1250 ≤ 600074; omega, by show slots + 7500 ≤ 7301550; omega⟩ (fun r u H locs hu hP hD hS => ?_)
      obtain ⟨S1, d1⟩ := u
      obtain ⟨rfl, hI1, hd1, hN1⟩ := hu
      have hI1 : FC zE S1 := hI1
      have hd1 : FD S1 d1 := hd1
      have hN1 : 1 ≤ S1.2.1 0 := hN1
      have hP : va_P G vwCl (wH ah y S1 ++ dW o0 y d1) H := hP
      have hD : va_D (fun q : Nat => s.heap.size ≤ q) (wH ah y S1 ++ dW o0 y d1) := hD
      have qD0 := hd1.D0
      have qN1 := hI1.N
      refine hz_if_eq (tgt := 155) hx hb dL_law_131 (by decide) (by omega) (fun q => by exfalso; omega) (fun _ => ?_)
      refine lv_aload_n hx hb dL_law_134 rfl (lv_at hl 2 rfl) ?_
      refine lv_aload_n hx hb dL_law_135 rfl (lv_at hl 3 rfl) ?_
      refine lv_iload hx hb dL_law_136 (lv_at hl 0 rfl) ?_
      refine hz_bipush hx hb dL_law_138 (by decide) ?_
      refine hz_idiv hx hb dL_law_140 (by omega) ?_
      refine lv_aload_n hx hb dL_law_141 rfl (lv_at hl 3 rfl) ?_
      refine hz_iconst hx hb dL_law_142 ?_
      refine hz_dld hx hb hK hP (by omega) dL_law_143 ?_
      refine hz_irem hx hb dL_law_144 (by omega) ?_
      refine hz_topi (fun kk hkz => ?_)
      have hkk : 0 ≤ kk ∧ kk < S1.2.1 0 := by rw [hkz, qD0]; exact ⟨Int.emod_nonneg _ (by omega), Int.emod_lt_of_pos _ (by omega)⟩
      refine hz_sN (As := [.ref (ah 0), .ref o0, zi kk]) (rest := []) ⟨hx, hb, hml, hown, hts⟩ (c_isPlant l hlt G ah mi zE y o0 _ S1 d1 kk hI1 hd1 hkk) (va_cwS 3 hts gL_law_L_isPlant rfl rfl rfl (by decide +kernel) ⟨Nat.le_of_ble_eq_true rfl, Nat.le_of_ble_eq_true rfl⟩) hP hK hD hS hA hGP hX hGN rfl hl.1 rfl (Nat.le_of_ble_eq_true rfl) dL_law_145 ⟨by show (cells + 1250) + 100 ≤ 600074; omega, by show (slots + 7500) + 600 ≤ 7301550; omega⟩ (fun r u H locs hu hP hD hS => ?_)
      obtain ⟨S2, d2⟩ := u
      obtain ⟨rfl, hI2, hd2, hN2⟩ := hu
      have hI2 : FC zE S2 := hI2
      have hd2 : FD S2 d2 := hd2
      have hN2 : S2.2.1 0 = S1.2.1 0 := hN2
      have hP : va_P G vwCl (wH ah y S2 ++ dW o0 y d2) H := hP
      have hD : va_D (fun q : Nat => s.heap.size ≤ q) (wH ah y S2 ++ dW o0 y d2) := hD
      refine hz_if_eq (tgt := 155) hx hb dL_law_148 (by decide) (by omega) (fun q => by exfalso; omega) (fun _ => ?_)
      refine hz_iconst hx hb dL_law_151 ?_
      refine lv_goto (tgt := 156) hx hb dL_law_152 (by decide) ?_
      refine lv_istore_n (lv' := [(3, zi 1), (6, zi a), (0, .ref b), (1, .ref (ah 0)), (2, .ref o0), (4, zi ns), (5, zi i)]) hx hb dL_law_156 rfl hl (by decide) rfl (fun ls hl => ?_)
      refine hz_iinc (v := (i + 1)) (lv' := [(5, zi (i + 1)), (3, zi 1), (6, zi a), (0, .ref b), (1, .ref (ah 0)), (2, .ref o0), (4, zi ns)]) hx hb dL_law_157 hl (k := 6) rfl (by omega) (by decide) rfl (fun ls hl => ?_)
      refine lv_goto (tgt := 83) hx hb dL_law_160 (by decide) ?_
      exact ih (i + 1) S2 d2 H locs ((cells + 1250) + 100) ((slots + 7500) + 600) ⟨by omega, by omega, by omega⟩ ⟨by omega, by omega⟩ hI2 hd2 hP hD hS ls (lv_sub hl [3, 4, 5, 1, 6, 0] rfl)
set_option maxHeartbeats 32000000 in
set_option maxRecDepth 100000 in
theorem law_head (p : Program) (l : Launch) (e : Env) (s : State) (m : MethodId) (below : List Frame) (meth : Method) (c : Code) (b L : Nat) (xs : Nat → Int32) (G : va_G) (mi zE : Nat) (y : Nat → ClassId) (ah : Nat → Nat) (o0 : Nat) (hQ : LC p l s m meth c (fun q : Nat => s.heap.size ≤ q) G mi zE y 7 cL_law wsL_law [.ref b] (some .boolean)) (hX0 : va_X b L xs s s.heap) (hbl : b < s.heap.size) (hL : L ≤ 260) (S : ST) (d : Int → Int) (H : Heap) (locs : List Loc) (hI : FC zE S) (hd : FD S d) (h0 : S.2.1 0 = 0) (h1 : S.2.1 1 = 0) (h4 : S.2.1 4 = 100) (h16 : S.2.2 16 3 = 0 ∧ S.2.2 16 4 = 0) (hP : va_P G vwCl (wH ah y S ++ dW o0 y d) H) (hD : va_D (fun q : Nat => s.heap.size ≤ q) (wH ah y S ++ dW o0 y d)) (hS : va_S (fun q : Nat => s.heap.size ≤ q) s.heap H locs) : ∀ ls : Array Slot, lv_has ls 7 [(1, .ref (ah 0)), (2, .ref o0), (0, .ref b)] → W p l e room_1 s m #[Value.ref b] below meth c H locs 100 1000 (lw_Z below #[Value.ref b] s) (F0 m 13 ls []) := by
  intro ls hl
  obtain ⟨hx, hb, hr, hts, hown, hlocks, hml, hK, hA, hGP, hX, hGN, hlt⟩ := id hQ
  have hbA : ¬ (fun q : Nat => s.heap.size ≤ q) b := Nat.not_le.mpr hbl
  have hsf := sf_00 hI h0
  refine lv_aload_n hx hb dL_law_13 rfl (lv_at hl 0 rfl) ?_
  refine hz_cI (As := []) (rest := []) ⟨hx, hb, hml, hown, hts⟩ (b_isSafe l G ah zE y _ S  hI ) (cwV 0 hts gL_law_X7_isSafe rfl rfl rfl (by decide +kernel) ⟨Nat.le_of_ble_eq_true rfl, Nat.le_of_ble_eq_true rfl⟩) hP hK hD hS hA hGP 0 8 rfl rfl rfl rfl hl.1 rfl (Nat.le_of_ble_eq_true rfl) dL_law_14 ⟨by show 100 + 0 ≤ 600074; omega, by show 1000 + 0 ≤ 7301550; omega⟩ (fun _ => wH_fst rfl rfl rfl) (fun u1 H locs hu hP hD hS => ?_)
  have hP : va_P G vwCl (wH ah y (sF S u1.1 u1.2) ++ dW o0 y d) H := hP
  have hD : va_D (fun q : Nat => s.heap.size ≤ q) (wH ah y (sF S u1.1 u1.2) ++ dW o0 y d) := hD
  refine hz_tope (z2 := (sfS S)) (by rfl) ?_
  refine hz_if_eq (tgt := 58) hx hb dL_law_17 (by decide) (by omega) (fun q => by exfalso; omega) (fun _ => ?_)
  refine lv_aload_n hx hb dL_law_20 rfl (lv_at hl 0 rfl) ?_
  refine hz_cF (As := []) (rest := []) ⟨hx, hb, hml, hown, hts⟩ (b_kept l G ah zE y _ (sF S u1.1 u1.2)  (fc_F u1.1 u1.2 hI) ) (cwV 0 hts gL_law_X7_kept rfl rfl rfl (by decide +kernel) ⟨Nat.le_of_ble_eq_true rfl, Nat.le_of_ble_eq_true rfl⟩) hP hK hD hS hA hGP 0 8 rfl rfl rfl rfl hl.1 rfl (Nat.le_of_ble_eq_true rfl) dL_law_21 ⟨by show 100 + 0 ≤ 600074; omega, by show 1000 + 0 ≤ 7301550; omega⟩ (fun _ => rfl) (fun u2 H locs hu hP hD hS => ?_)
  have hP : va_P G vwCl (wH ah y (sF S u1.1 u1.2) ++ dW o0 y d) H := hP
  have hD : va_D (fun q : Nat => s.heap.size ≤ q) (wH ah y (sF S u1.1 u1.2) ++ dW o0 y d) := hD
  refine W.eq (g2 := F0 m 24 ls (.float (kpL (zL ((S.2.2 16) 3)) (zL ((S.2.2 16) 4))) :: [])) rfl ?_
  refine lv_fconst0 hx hb dL_law_24 ?_
  refine lv_fcmp hx hb dL_law_25 ?_
  rw [h16.1, h16.2, kp_00]
  refine hz_if_ne (tgt := 58) hx hb dL_law_26 (by decide) (by omega) (fun q => by exfalso; omega) (fun _ => ?_)
  refine lv_aload_n hx hb dL_law_29 rfl (lv_at hl 0 rfl) ?_
  refine hz_cN (As := []) (rest := []) ⟨hx, hb, hml, hown, hts⟩ (b_clear l G ah zE y _ (sF S u1.1 u1.2)  (fc_F u1.1 u1.2 hI) ) (cwV 0 hts gL_law_X7_clear rfl rfl rfl (by decide +kernel) ⟨Nat.le_of_ble_eq_true rfl, Nat.le_of_ble_eq_true rfl⟩) hP hK hD hS hA hGP 0 8 rfl rfl rfl rfl hl.1 rfl (Nat.le_of_ble_eq_true rfl) dL_law_30 ⟨by show 100 + 0 ≤ 600074; omega, by show 1000 + 0 ≤ 7301550; omega⟩ (fun r u3 H locs hu hP hD hS => ?_)
  obtain ⟨rfl, hz4⟩ := hu
  refine hz_tope (z2 := (S.2.1 1)) (by rfl) ?_
  have hI5 : FC zE (sI (sZ S u3) 1 0) := (fc_clear u3 hI hz4)
  have hP : va_P G vwCl (wH ah y (sF (sI (sZ S u3) 1 0) u1.1 u1.2) ++ dW o0 y d) H := hP
  have hD : va_D (fun q : Nat => s.heap.size ≤ q) (wH ah y (sF (sI (sZ S u3) 1 0) u1.1 u1.2) ++ dW o0 y d) := hD
  refine hz_if_ne (tgt := 58) hx hb dL_law_33 (by decide) (by omega) (fun q => by exfalso; omega) (fun _ => ?_)
  refine lv_aload_n hx hb dL_law_36 rfl (lv_at hl 0 rfl) ?_
  refine hz_iconst hx hb dL_law_37 ?_
  refine hz_cI (As := [zi 2]) (rest := []) ⟨hx, hb, hml, hown, hts⟩ (b_plantIs l hlt G ah zE y _ (sF (sI (sZ S u3) 1 0) u1.1 u1.2) (2 : Int) (fc_F u1.1 u1.2 hI5) (show 0 ≤ (2 : Int) ∧ (2 : Int) ≤ 10 by omega)) (cwV 1 hts gL_law_X7_plantIs rfl rfl rfl (by decide +kernel) ⟨Nat.le_of_ble_eq_true rfl, Nat.le_of_ble_eq_true rfl⟩) hP hK hD hS hA hGP 0 8 rfl rfl rfl rfl hl.1 rfl (Nat.le_of_ble_eq_true rfl) dL_law_38 ⟨by show 100 + 1 ≤ 600074; omega, by show 1000 + 6 ≤ 7301550; omega⟩ (fun _ => rfl) (fun u6 H locs hu hP hD hS => ?_)
  have hP : va_P G vwCl (wH ah y (sF (sI (sZ S u3) 1 0) u1.1 u1.2) ++ dW o0 y d) H := hP
  have hD : va_D (fun q : Nat => s.heap.size ≤ q) (wH ah y (sF (sI (sZ S u3) 1 0) u1.1 u1.2) ++ dW o0 y d) := hD
  refine hz_tope (z2 := (S.2.1 4)) (by rfl) ?_
  refine hz_bipush hx hb dL_law_41 (by decide) ?_
  refine hz_icmp_ne (tgt := 58) hx hb dL_law_43 (by decide) (by omega) (fun q => by exfalso; omega) (fun _ => ?_)
  refine lv_aload_n hx hb dL_law_46 rfl (lv_at hl 0 rfl) ?_
  refine hz_iconst hx hb dL_law_47 ?_
  refine hz_cI (As := [zi 5]) (rest := []) ⟨hx, hb, hml, hown, hts⟩ (b_flux l hlt G ah zE y _ (sF (sI (sZ S u3) 1 0) u1.1 u1.2) (5 : Int) (fc_F u1.1 u1.2 hI5) (show 0 ≤ (5 : Int) ∧ (5 : Int) ≤ 5 by omega)) (cwV 1 hts gL_law_X7_flux rfl rfl rfl (by decide +kernel) ⟨Nat.le_of_ble_eq_true rfl, Nat.le_of_ble_eq_true rfl⟩) hP hK hD hS hA hGP 0 8 rfl rfl rfl rfl hl.1 rfl (Nat.le_of_ble_eq_true rfl) dL_law_48 ⟨by show (100 + 1) + 1 ≤ 600074; omega, by show (1000 + 6) + 6 ≤ 7301550; omega⟩ (fun _ => wH_fst rfl rfl rfl) (fun u7 H locs hu hP hD hS => ?_)
  have hP : va_P G vwCl (wH ah y (sF (sI (sZ S u3) 1 0) u7.1 u7.2) ++ dW o0 y d) H := hP
  have hD : va_D (fun q : Nat => s.heap.size ≤ q) (wH ah y (sF (sI (sZ S u3) 1 0) u7.1 u7.2) ++ dW o0 y d) := hD
  refine hz_tope (z2 := (flS (sI (sZ S u3) 1 0) 5)) (by rfl) ?_
  have hf5 : flS (sI (sZ S u3) 1 0) 5 = 0 := fl_00 (S := (sI (sZ S u3) 1 0)) h0 5
  refine hz_if_ne (tgt := 58) hx hb dL_law_51 (by decide) (by omega) (fun q => by exfalso; omega) (fun _ => ?_)
  refine hz_iconst hx hb dL_law_54 ?_
  refine lv_goto (tgt := 59) hx hb dL_law_55 (by decide) ?_
  refine lv_istore_n (lv' := [(3, zi 1), (1, .ref (ah 0)), (2, .ref o0), (0, .ref b)]) hx hb dL_law_59 rfl hl (by decide) rfl (fun ls hl => ?_)
  refine lv_aload_n hx hb dL_law_60 rfl (lv_at hl 3 rfl) ?_
  refine va_slen hx hb hX0 hbl hbA hS dL_law_61 ?_
  rw [hz_ofN]
  refine hz_iconst hx hb dL_law_62 ?_
  refine hz_idiv hx hb dL_law_63 (by omega) ?_
  refine hz_bipush hx hb dL_law_64 (by decide) ?_
  refine hz_icmp_le (tgt := 74) hx hb dL_law_66 (by decide) (by omega) (fun c8 => ?_) (fun c8 => ?_)
  · refine lv_aload_n hx hb dL_law_74 rfl (lv_at hl 3 rfl) ?_
    refine va_slen hx hb hX0 hbl hbA hS dL_law_75 ?_
    rw [hz_ofN]
    refine hz_iconst hx hb dL_law_76 ?_
    refine hz_idiv hx hb dL_law_77 (by omega) ?_
    refine lv_istore (lv' := [(4, zi ((L : Int) / 3)), (3, zi 1), (1, .ref (ah 0)), (2, .ref o0), (0, .ref b)]) hx hb dL_law_78 hl (by decide) rfl (fun ls hl => ?_)
    refine hz_iconst hx hb dL_law_80 ?_
    refine lv_istore (lv' := [(5, zi 0), (4, zi ((L : Int) / 3)), (3, zi 1), (1, .ref (ah 0)), (2, .ref o0), (0, .ref b)]) hx hb dL_law_81 hl (by decide) rfl (fun ls hl => ?_)
    exact law_loop p l e s m below meth c b L xs G mi zE y ah o0 hQ hX0 hbl hL ((L : Int) / 3) ⟨by omega, by omega, by omega⟩ 71 0 _ _ H locs ((100 + 1) + 1) ((1000 + 6) + 6) ⟨by omega, by omega, by omega⟩ ⟨by omega, by omega⟩ (fc_F u7.1 u7.2 hI5) (show FD (sF (sI (sZ S u3) 1 0) u7.1 u7.2) d from ⟨hd.D0, hd.D1, hd.D2, (show d 3 = 0 from hd.D3.trans h1), hd.D4, hd.D5⟩) hP hD hS ls (lv_sub hl [5, 3, 4, 2, 1, 0] rfl)
  · refine hz_bipush hx hb dL_law_69 (by decide) ?_
    refine lv_goto (tgt := 78) hx hb dL_law_71 (by decide) ?_
    refine lv_istore (lv' := [(4, zi 70), (3, zi 1), (1, .ref (ah 0)), (2, .ref o0), (0, .ref b)]) hx hb dL_law_78 hl (by decide) rfl (fun ls hl => ?_)
    refine hz_iconst hx hb dL_law_80 ?_
    refine lv_istore (lv' := [(5, zi 0), (4, zi 70), (3, zi 1), (1, .ref (ah 0)), (2, .ref o0), (0, .ref b)]) hx hb dL_law_81 hl (by decide) rfl (fun ls hl => ?_)
    exact law_loop p l e s m below meth c b L xs G mi zE y ah o0 hQ hX0 hbl hL 70 ⟨by omega, by omega, by omega⟩ 71 0 _ _ H locs ((100 + 1) + 1) ((1000 + 6) + 6) ⟨by omega, by omega, by omega⟩ ⟨by omega, by omega⟩ (fc_F u7.1 u7.2 hI5) (show FD (sF (sI (sZ S u3) 1 0) u7.1 u7.2) d from ⟨hd.D0, hd.D1, hd.D2, (show d 3 = 0 from hd.D3.trans h1), hd.D4, hd.D5⟩) hP hD hS ls (lv_sub hl [5, 3, 4, 2, 1, 0] rfl)
