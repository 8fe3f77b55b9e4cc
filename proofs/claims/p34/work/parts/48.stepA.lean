theorem oc_pos {n c : Int} {cell : Int → Int} (h : ocZ n cell c = 1) : 0 < n := by
  obtain ⟨k, h0, h1, _⟩ := isZ_y h
  omega
theorem fd_0 {S S1 : ST} {d : Int → Int} {v : Int} (hd : FD S d) (e0 : v = S1.2.1 0) (e1 : S1.2.1 2 = S.2.1 2) (e2 : S1.2.1 4 + S1.2.1 5 = S.2.1 4 + S.2.1 5) (e3 : S1.2.1 1 = S.2.1 1) (e4 : S1.2.2 16 = S.2.2 16) (e5 : S1.2.2 15 = S.2.2 15) : FD S1 (upZ d 0 v) := by
  refine ⟨?_, ?_, ?_, ?_, ?_, fun q a b => ?_⟩
  · rw [upZ_s rfl]; exact e0
  · rw [upZ_n (by decide), e1]; exact hd.D1
  · rw [upZ_n (by decide), e2]; exact hd.D2
  · rw [upZ_n (by decide), e3]; exact hd.D3
  · rw [upZ_n (by decide), e4]; exact hd.D4
  · rw [upZ_n (by omega), e5]; exact hd.D5 q a b
theorem fd_2 {S S1 : ST} {d : Int → Int} {v : Int} (hd : FD S d) (e0 : S1.2.1 0 = S.2.1 0) (e1 : S1.2.1 2 = S.2.1 2) (e2 : 0 ≤ v ∧ S1.2.1 4 + S1.2.1 5 = 100 + v) (e3 : S1.2.1 1 = S.2.1 1) (e4 : S1.2.2 16 = S.2.2 16) (e5 : S1.2.2 15 = S.2.2 15) : FD S1 (upZ d 2 v) := by
  refine ⟨?_, ?_, ?_, ?_, ?_, fun q a b => ?_⟩
  · rw [upZ_n (by decide), e0]; exact hd.D0
  · rw [upZ_n (by decide), e1]; exact hd.D1
  · rw [upZ_s rfl]; exact e2
  · rw [upZ_n (by decide), e3]; exact hd.D3
  · rw [upZ_n (by decide), e4]; exact hd.D4
  · rw [upZ_n (by omega), e5]; exact hd.D5 q a b
theorem fd_3 {S S1 : ST} {d : Int → Int} {v : Int} (hd : FD S d) (e0 : S1.2.1 0 = S.2.1 0) (e1 : S1.2.1 2 = S.2.1 2) (e2 : S1.2.1 4 + S1.2.1 5 = S.2.1 4 + S.2.1 5) (e3 : v = S1.2.1 1) (e4 : S1.2.2 16 = S.2.2 16) (e5 : S1.2.2 15 = S.2.2 15) : FD S1 (upZ d 3 v) := by
  refine ⟨?_, ?_, ?_, ?_, ?_, fun q a b => ?_⟩
  · rw [upZ_n (by decide), e0]; exact hd.D0
  · rw [upZ_n (by decide), e1]; exact hd.D1
  · rw [upZ_n (by decide), e2]; exact hd.D2
  · rw [upZ_s rfl]; exact e3
  · rw [upZ_n (by decide), e4]; exact hd.D4
  · rw [upZ_n (by omega), e5]; exact hd.D5 q a b
theorem fd_5 {S S1 : ST} {d : Int → Int} {h v : Int} (hd : FD S d) (hh : 0 ≤ h) (e0 : S1.2.1 0 = S.2.1 0) (e1 : S1.2.1 2 = S.2.1 2) (e2 : S1.2.1 4 + S1.2.1 5 = S.2.1 4 + S.2.1 5) (e3 : S1.2.1 1 = S.2.1 1) (e4 : S1.2.2 16 = S.2.2 16) (e5 : S1.2.2 15 = upZ (S.2.2 15) h v) : FD S1 (upZ d (5 + h) v) := by
  refine ⟨?_, ?_, ?_, ?_, ?_, fun q a b => ?_⟩
  · rw [upZ_n (by omega), e0]; exact hd.D0
  · rw [upZ_n (by omega), e1]; exact hd.D1
  · rw [upZ_n (by omega), e2]; exact hd.D2
  · rw [upZ_n (by omega), e3]; exact hd.D3
  · rw [upZ_n (by omega), e4]; exact hd.D4
  · rw [e5]
    by_cases c : q = h
    · rw [upZ_s c, upZ_s (by omega)]
    · rw [upZ_n c, upZ_n (by omega)]; exact hd.D5 q a b
abbrev Q_step (G : va_G) (ah : Nat → Nat) (zE : Nat) (y : Nat → ClassId) (o0 : Nat) (A : Nat → Prop) : Array Value → State → Outcome → State → Prop := va_Qi (fun (r : Int32) (u : ST × (Int → Int)) => r = zI 1 ∧ FC zE u.1 ∧ FD u.1 u.2 ∧ 1 ≤ u.1.2.1 0) (fun u t => va_P G vwCl (wH ah y u.1 ++ dW o0 y u.2) t.heap ∧ va_D A (wH ah y u.1 ++ dW o0 y u.2)) A
set_option maxHeartbeats 32000000 in
set_option maxRecDepth 100000 in
theorem st_mirror {p : Program} {l : Launch} {e : Env} {s : State} {m : MethodId} {below : List Frame} {meth : Method} {c : Code} {A : Nat → Prop} {G : va_G} {mi zE : Nat} {y : Nat → ClassId} {ah : Nat → Nat} {o0 : Nat} {S : ST} {d : Int → Int} {what a bb : Int} {k : Int} (hQ : LC p l s m meth c A G mi zE y 33 cL_step wsL_step [.ref (ah 0), .ref o0, zi what, zi a, zi bb] (some .boolean)) (hI : FC zE S) (hd : FD S d) (ha : 0 ≤ a ∧ a < 2147483648) (hbb : 0 ≤ bb ∧ bb < 2147483648) (hk : k = 0 ∨ (0 ≤ k ∧ k < S.2.1 0)) (hP : va_P G vwCl (wH ah y S ++ dW o0 y d) s.heap) (hD : va_D A (wH ah y S ++ dW o0 y d)) : ∀ ls : Array Slot, lv_has ls 33 [(5, zi k), (0, .ref (ah 0)), (1, .ref o0), (2, zi what), (3, zi a), (4, zi bb)] → W p l e (headSpec wsL_step ({ frames := 15, cells := 1250, slots := 7500, locals := 620 })).room s m ([.ref (ah 0), .ref o0, zi what, zi a, zi bb] : List Value).toArray below meth c s.heap [] 0 0 (MQ below (Q_step G ah zE y o0 A) ([.ref (ah 0), .ref o0, zi what, zi a, zi bb] : List Value).toArray s 1250 7500 A) (F0 m 148 ls []) := by
  intro ls hl
  obtain ⟨hx, hb, hr, hts, hown, hlocks, hml, hK, hA, hGP, hX, hGN, hlt⟩ := hQ
  have hS : va_S A s.heap s.heap [] := va_S.rf
  have qN := hI.N
  have qC := hI.C
  have qNow := hI.Now
  have qHz := hI.Haze
  have qS := hI.Salt
  have qP := hI.Pipe
  have qTc := hI.Trc
  have qTb := hI.Turb
  have qLd := hI.Load
  have qTL := hI.TL
  have qW := hI.Water
  have qD0 := hd.D0
  have qD1 := hd.D1
  have qD2 := hd.D2
  have qD3 := hd.D3
  have qst := strZ_rng (S.2.1 2)
  refine lv_iload_n hx hb dL_step_148 rfl (lv_at hl 4 rfl) ?_
  refine hz_iconst hx hb dL_step_149 ?_
  refine hz_irem hx hb dL_step_150 (by omega) ?_
  refine hz_if_ne (tgt := 163) hx hb dL_step_151 (by decide) (by omega) (fun c1 => ?_) (fun c1 => ?_)
  · refine lv_iload_n hx hb dL_step_163 rfl (lv_at hl 4 rfl) ?_
    refine hz_iconst hx hb dL_step_164 ?_
    refine hz_idiv hx hb dL_step_165 (by omega) ?_
    refine hz_bipush hx hb dL_step_166 (by decide) ?_
    refine hz_irem hx hb dL_step_168 (by omega) ?_
    refine lv_istore (lv' := [(6, zi ((a / 4) % 24)), (5, zi k), (0, .ref (ah 0)), (1, .ref o0), (2, zi what), (3, zi a), (4, zi bb)]) hx hb dL_step_169 hl (by decide) rfl (fun ls hl => ?_)
    refine lv_aload_n hx hb dL_step_171 rfl (lv_at hl 2 rfl) ?_
    refine lv_iload hx hb dL_step_172 (lv_at hl 0 rfl) ?_
    refine hz_iconst hx hb dL_step_174 ?_
    refine hz_iconst hx hb dL_step_175 ?_
    refine hz_lawL (As := [.ref (ah 0), zi ((a / 4) % 24), zi 0, zi 0]) (rest := []) ⟨hx, hb, hml, hown, hts⟩ (c_acts0 l hlt G ah mi zE y _ S ((a / 4) % 24) (0 : Int) hI (show 0 ≤ ((a / 4) % 24) ∧ ((a / 4) % 24) ≤ 63 by omega)) (vx_cwSW 4 hts gL_step_L_acts rfl rfl rfl (by decide +kernel) ⟨Nat.le_of_ble_eq_true rfl, Nat.le_of_ble_eq_true rfl⟩) hP hK hD hS hA hGP hX hGN rfl hl.1 rfl (Nat.le_of_ble_eq_true rfl) dL_step_176 ⟨Nat.le_of_ble_eq_true rfl, Nat.le_of_ble_eq_true rfl⟩ (fun r u2 H locs hu hP hD hS => ?_)
    rcases hu with ⟨nz5, rfl, hc3, rfl, hz4⟩ | ⟨rfl, hc3, rfl⟩
    · have hc3 : (if ¬ (0 ≤ ((a / 4) % 24) ∧ ((a / 4) % 24) ≤ 63) then (1 : Int) else if ((S.2.1 0)) = 12 ∨ ocZ ((S.2.1 0)) ((S.2.2 0)) ((a / 4) % 24) = 1 then 2 else 0) = 0 := hc3
      have hI6 : FC zE (sA (sA (sA (sI (sZ S nz5) 0 ((S.2.1 0) + 1)) 0 (upZ (S.2.2 0) (S.2.1 0) ((a / 4) % 24))) 2 (upZ (S.2.2 2) (S.2.1 0) (-1))) 17 (upZ (S.2.2 17) ((a / 4) % 24) 1)) := (fc_mirror nz5 ((a / 4) % 24) hI (by omega) (show ¬ (S.2.1 0) = 12 by omega) hz4)
      have hP : va_P G vwCl (wH ah y (sA (sA (sA (sI (sZ S nz5) 0 ((S.2.1 0) + 1)) 0 (upZ (S.2.2 0) (S.2.1 0) ((a / 4) % 24))) 2 (upZ (S.2.2 2) (S.2.1 0) (-1))) 17 (upZ (S.2.2 17) ((a / 4) % 24) 1)) ++ dW o0 y d) H := hP
      have hD : va_D A (wH ah y (sA (sA (sA (sI (sZ S nz5) 0 ((S.2.1 0) + 1)) 0 (upZ (S.2.2 0) (S.2.1 0) ((a / 4) % 24))) 2 (upZ (S.2.2 2) (S.2.1 0) (-1))) 17 (upZ (S.2.2 17) ((a / 4) % 24) 1)) ++ dW o0 y d) := hD
      refine hz_tope (z2 := (S.2.1 0)) (by rfl) ?_
      have rds := dstZ_rng (c := ((a / 4) % 24)) (by omega)
      refine lv_istore (lv' := [(7, zi (S.2.1 0)), (6, zi ((a / 4) % 24)), (5, zi k), (0, .ref (ah 0)), (1, .ref o0), (2, zi what), (3, zi a), (4, zi bb)]) hx hb dL_step_179 hl (by decide) rfl (fun ls hl => ?_)
      refine lv_aload_n hx hb dL_step_181 rfl (lv_at hl 4 rfl) ?_
      refine hz_iconst hx hb dL_step_182 ?_
      refine lv_dup2_11 hx hb dL_step_183 rfl rfl ?_
      refine hz_dld hx hb hK hP (by omega) dL_step_184 ?_
      refine lv_iload hx hb dL_step_185 (lv_at hl 0 rfl) ?_
      refine hz_if_ge (tgt := 194) hx hb dL_step_187 (by decide) (by omega) (fun _ => ?_) (fun q => by exfalso; omega)
      refine hz_iconst hx hb dL_step_194 ?_
      refine hz_iadd hx hb dL_step_195 ?_
      refine hz_dst hx hb hK hP hD hS (by omega) dL_step_196 (fun H locs hP hD hS => ?_)
      have hP : va_P G vwCl (wH ah y (sA (sA (sA (sI (sZ S nz5) 0 ((S.2.1 0) + 1)) 0 (upZ (S.2.2 0) (S.2.1 0) ((a / 4) % 24))) 2 (upZ (S.2.2 2) (S.2.1 0) (-1))) 17 (upZ (S.2.2 17) ((a / 4) % 24) 1)) ++ dW o0 y (upZ d 0 ((d 0) + 1))) H := hP
      have hD : va_D A (wH ah y (sA (sA (sA (sI (sZ S nz5) 0 ((S.2.1 0) + 1)) 0 (upZ (S.2.2 0) (S.2.1 0) ((a / 4) % 24))) 2 (upZ (S.2.2 2) (S.2.1 0) (-1))) 17 (upZ (S.2.2 17) ((a / 4) % 24) 1)) ++ dW o0 y (upZ d 0 ((d 0) + 1))) := hD
      refine lv_iload hx hb dL_step_197 (lv_at hl 1 rfl) ?_
      refine hz_bipush hx hb dL_step_199 (by decide) ?_
      refine hz_irem hx hb dL_step_201 (by omega) ?_
      refine hz_iconst hx hb dL_step_202 ?_
      refine hz_isub hx hb dL_step_203 ?_
      refine lv_istore (lv' := [(8, zi ((((a / 4) % 24) % 8) - 3)), (7, zi (S.2.1 0)), (6, zi ((a / 4) % 24)), (5, zi k), (0, .ref (ah 0)), (1, .ref o0), (2, zi what), (3, zi a), (4, zi bb)]) hx hb dL_step_204 hl (by decide) rfl (fun ls hl => ?_)
      refine lv_iload hx hb dL_step_206 (lv_at hl 1 rfl) ?_
      refine hz_sipush hx hb dL_step_208 (by decide) ?_
      refine hz_icmp_ne (tgt := 228) hx hb dL_step_211 (by decide) (by omega) (fun _ => ?_) (fun q => by exfalso; omega)
      refine lv_iload hx hb dL_step_228 (lv_at hl 1 rfl) ?_
      refine lv_aload_n hx hb dL_step_230 rfl (lv_at hl 5 rfl) ?_
      refine hz_iconst hx hb dL_step_231 ?_
      refine hz_dld hx hb hK hP (by omega) dL_step_232 ?_
      refine hz_tope (z2 := ((d 0) + 1)) (by first | rfl | exact upZ_s rfl | simp [upZ]) ?_
      refine hz_iconst hx hb dL_step_233 ?_
      refine hz_isub hx hb dL_step_234 ?_
      refine hz_icmp_ne (tgt := 297) hx hb dL_step_235 (by decide) (by omega) (fun q => by exfalso; omega) (fun _ => ?_)
      refine lv_aload_n hx hb dL_step_238 rfl (lv_at hl 4 rfl) ?_
      refine lv_iload hx hb dL_step_239 (lv_at hl 1 rfl) ?_
      refine hz_iconst hx hb dL_step_241 ?_
      refine hz_cI (As := [zi (S.2.1 0), zi 0]) (rest := []) ⟨hx, hb, hml, hown, hts⟩ (b_mirrorIs l hlt G ah zE y _ (sA (sA (sA (sI (sZ S nz5) 0 ((S.2.1 0) + 1)) 0 (upZ (S.2.2 0) (S.2.1 0) ((a / 4) % 24))) 2 (upZ (S.2.2 2) (S.2.1 0) (-1))) 17 (upZ (S.2.2 17) ((a / 4) % 24) 1)) (S.2.1 0) (0 : Int) hI6 (show 0 ≤ (S.2.1 0) ∧ (S.2.1 0) < ((S.2.1 0) + 1) by omega) (show 0 ≤ (0 : Int) ∧ (0 : Int) ≤ 7 by omega)) (cwV 2 hts gL_step_X7_mirrorIs rfl rfl rfl (by decide +kernel) ⟨Nat.le_of_ble_eq_true rfl, Nat.le_of_ble_eq_true rfl⟩) hP hK hD hS hA hGP 0 8 rfl rfl rfl rfl hl.1 rfl (Nat.le_of_ble_eq_true rfl) dL_step_242 ⟨Nat.le_of_ble_eq_true rfl, Nat.le_of_ble_eq_true rfl⟩ (fun _ => rfl) (fun u7 H locs hu hP hD hS => ?_)
      have hP : va_P G vwCl (wH ah y (sA (sA (sA (sI (sZ S nz5) 0 ((S.2.1 0) + 1)) 0 (upZ (S.2.2 0) (S.2.1 0) ((a / 4) % 24))) 2 (upZ (S.2.2 2) (S.2.1 0) (-1))) 17 (upZ (S.2.2 17) ((a / 4) % 24) 1)) ++ dW o0 y (upZ d 0 ((d 0) + 1))) H := hP
      have hD : va_D A (wH ah y (sA (sA (sA (sI (sZ S nz5) 0 ((S.2.1 0) + 1)) 0 (upZ (S.2.2 0) (S.2.1 0) ((a / 4) % 24))) 2 (upZ (S.2.2 2) (S.2.1 0) (-1))) 17 (upZ (S.2.2 17) ((a / 4) % 24) 1)) ++ dW o0 y (upZ d 0 ((d 0) + 1))) := hD
      refine hz_tope (z2 := ((a / 4) % 24)) (by exact (upZ_s rfl)) ?_
      refine lv_iload hx hb dL_step_245 (lv_at hl 2 rfl) ?_
      refine hz_icmp_ne (tgt := 297) hx hb dL_step_247 (by decide) (by omega) (fun q => by exfalso; omega) (fun _ => ?_)
      refine lv_aload_n hx hb dL_step_250 rfl (lv_at hl 4 rfl) ?_
      refine lv_iload hx hb dL_step_251 (lv_at hl 1 rfl) ?_
      refine hz_iconst hx hb dL_step_253 ?_
      refine hz_cI (As := [zi (S.2.1 0), zi 2]) (rest := []) ⟨hx, hb, hml, hown, hts⟩ (b_mirrorIs l hlt G ah zE y _ (sA (sA (sA (sI (sZ S nz5) 0 ((S.2.1 0) + 1)) 0 (upZ (S.2.2 0) (S.2.1 0) ((a / 4) % 24))) 2 (upZ (S.2.2 2) (S.2.1 0) (-1))) 17 (upZ (S.2.2 17) ((a / 4) % 24) 1)) (S.2.1 0) (2 : Int) hI6 (show 0 ≤ (S.2.1 0) ∧ (S.2.1 0) < ((S.2.1 0) + 1) by omega) (show 0 ≤ (2 : Int) ∧ (2 : Int) ≤ 7 by omega)) (cwV 2 hts gL_step_X7_mirrorIs rfl rfl rfl (by decide +kernel) ⟨Nat.le_of_ble_eq_true rfl, Nat.le_of_ble_eq_true rfl⟩) hP hK hD hS hA hGP 0 8 rfl rfl rfl rfl hl.1 rfl (Nat.le_of_ble_eq_true rfl) dL_step_254 ⟨Nat.le_of_ble_eq_true rfl, Nat.le_of_ble_eq_true rfl⟩ (fun _ => rfl) (fun u8 H locs hu hP hD hS => ?_)
      have hP : va_P G vwCl (wH ah y (sA (sA (sA (sI (sZ S nz5) 0 ((S.2.1 0) + 1)) 0 (upZ (S.2.2 0) (S.2.1 0) ((a / 4) % 24))) 2 (upZ (S.2.2 2) (S.2.1 0) (-1))) 17 (upZ (S.2.2 17) ((a / 4) % 24) 1)) ++ dW o0 y (upZ d 0 ((d 0) + 1))) H := hP
      have hD : va_D A (wH ah y (sA (sA (sA (sI (sZ S nz5) 0 ((S.2.1 0) + 1)) 0 (upZ (S.2.2 0) (S.2.1 0) ((a / 4) % 24))) 2 (upZ (S.2.2 2) (S.2.1 0) (-1))) 17 (upZ (S.2.2 17) ((a / 4) % 24) 1)) ++ dW o0 y (upZ d 0 ((d 0) + 1))) := hD
      refine hz_tope (z2 := (-1)) (by exact (upZ_s rfl)) ?_
      refine hz_iconst hx hb dL_step_257 ?_
      refine hz_icmp_ne (tgt := 297) hx hb dL_step_258 (by decide) (by omega) (fun q => by exfalso; omega) (fun _ => ?_)
      refine lv_aload_n hx hb dL_step_261 rfl (lv_at hl 4 rfl) ?_
      refine lv_iload hx hb dL_step_262 (lv_at hl 1 rfl) ?_
      refine hz_bipush hx hb dL_step_264 (by decide) ?_
      refine hz_cI (As := [zi (S.2.1 0), zi 7]) (rest := []) ⟨hx, hb, hml, hown, hts⟩ (b_mirrorIs l hlt G ah zE y _ (sA (sA (sA (sI (sZ S nz5) 0 ((S.2.1 0) + 1)) 0 (upZ (S.2.2 0) (S.2.1 0) ((a / 4) % 24))) 2 (upZ (S.2.2 2) (S.2.1 0) (-1))) 17 (upZ (S.2.2 17) ((a / 4) % 24) 1)) (S.2.1 0) (7 : Int) hI6 (show 0 ≤ (S.2.1 0) ∧ (S.2.1 0) < ((S.2.1 0) + 1) by omega) (show 0 ≤ (7 : Int) ∧ (7 : Int) ≤ 7 by omega)) (cwV 2 hts gL_step_X7_mirrorIs rfl rfl rfl (by decide +kernel) ⟨Nat.le_of_ble_eq_true rfl, Nat.le_of_ble_eq_true rfl⟩) hP hK hD hS hA hGP 0 8 rfl rfl rfl rfl hl.1 rfl (Nat.le_of_ble_eq_true rfl) dL_step_266 ⟨Nat.le_of_ble_eq_true rfl, Nat.le_of_ble_eq_true rfl⟩ (fun _ => rfl) (fun u9 H locs hu hP hD hS => ?_)
      have hP : va_P G vwCl (wH ah y (sA (sA (sA (sI (sZ S nz5) 0 ((S.2.1 0) + 1)) 0 (upZ (S.2.2 0) (S.2.1 0) ((a / 4) % 24))) 2 (upZ (S.2.2 2) (S.2.1 0) (-1))) 17 (upZ (S.2.2 17) ((a / 4) % 24) 1)) ++ dW o0 y (upZ d 0 ((d 0) + 1))) H := hP
      have hD : va_D A (wH ah y (sA (sA (sA (sI (sZ S nz5) 0 ((S.2.1 0) + 1)) 0 (upZ (S.2.2 0) (S.2.1 0) ((a / 4) % 24))) 2 (upZ (S.2.2 2) (S.2.1 0) (-1))) 17 (upZ (S.2.2 17) ((a / 4) % 24) 1)) ++ dW o0 y (upZ d 0 ((d 0) + 1))) := hD
      refine hz_tope (z2 := (dstZ ((a / 4) % 24))) (by exact congrArg dstZ (upZ_s rfl)) ?_
      refine lv_iload hx hb dL_step_269 (lv_at hl 2 rfl) ?_
      refine hz_bipush hx hb dL_step_271 (by decide) ?_
      refine hz_idiv hx hb dL_step_273 (by omega) ?_
      refine hz_iconst hx hb dL_step_274 ?_
      refine hz_iadd hx hb dL_step_275 ?_
      refine lv_iload hx hb dL_step_276 (lv_at hl 0 rfl) ?_
      refine hz_if_ge (tgt := 287) hx hb dL_step_278 (by decide) (by omega) (fun c10 => ?_) (fun c10 => ?_)
      · refine lv_iload hx hb dL_step_287 (lv_at hl 0 rfl) ?_
        refine hz_iadd hx hb dL_step_289 ?_
        refine hz_icmp_ne (tgt := 297) hx hb dL_step_290 (by decide) (by omega) (fun q => by exfalso; unfold dstZ at q; omega) (fun _ => ?_)
        refine hz_iconst hx hb dL_step_293 ?_
        refine lv_goto (tgt := 298) hx hb dL_step_294 (by decide) ?_
        exact hz_upM (Nat.le_of_ble_eq_true rfl) (Nat.le_of_ble_eq_true rfl) (W.zret (ty := .boolean) (v := zI 1) hx hb hr (zI_nb (by omega)) (fun t ht hW => ⟨⟨zI 1, ((sA (sA (sA (sI (sZ S nz5) 0 ((S.2.1 0) + 1)) 0 (upZ (S.2.2 0) (S.2.1 0) ((a / 4) % 24))) 2 (upZ (S.2.2 2) (S.2.1 0) (-1))) 17 (upZ (S.2.2 17) ((a / 4) % 24) 1)), (upZ d 0 ((d 0) + 1))), rfl, ⟨rfl, hI6, (fd_0 hd (show _ = ((S.2.1 0) + 1) by omega) rfl rfl rfl rfl rfl), (show 1 ≤ ((S.2.1 0) + 1) by omega)⟩, hz_at2 hP hD ht⟩, hS.F ht⟩) hS.2.2 dL_step_298)
      · refine lv_iload hx hb dL_step_281 (lv_at hl 0 rfl) ?_
        refine hz_ineg hx hb dL_step_283 ?_
        refine lv_goto (tgt := 289) hx hb dL_step_284 (by decide) ?_
        refine hz_iadd hx hb dL_step_289 ?_
        refine hz_icmp_ne (tgt := 297) hx hb dL_step_290 (by decide) (by omega) (fun q => by exfalso; unfold dstZ at q; omega) (fun _ => ?_)
        refine hz_iconst hx hb dL_step_293 ?_
        refine lv_goto (tgt := 298) hx hb dL_step_294 (by decide) ?_
        exact hz_upM (Nat.le_of_ble_eq_true rfl) (Nat.le_of_ble_eq_true rfl) (W.zret (ty := .boolean) (v := zI 1) hx hb hr (zI_nb (by omega)) (fun t ht hW => ⟨⟨zI 1, ((sA (sA (sA (sI (sZ S nz5) 0 ((S.2.1 0) + 1)) 0 (upZ (S.2.2 0) (S.2.1 0) ((a / 4) % 24))) 2 (upZ (S.2.2 2) (S.2.1 0) (-1))) 17 (upZ (S.2.2 17) ((a / 4) % 24) 1)), (upZ d 0 ((d 0) + 1))), rfl, ⟨rfl, hI6, (fd_0 hd (show _ = ((S.2.1 0) + 1) by omega) rfl rfl rfl rfl rfl), (show 1 ≤ ((S.2.1 0) + 1) by omega)⟩, hz_at2 hP hD ht⟩, hS.F ht⟩) hS.2.2 dL_step_298)
    · have hc3 : (if ¬ (0 ≤ ((a / 4) % 24) ∧ ((a / 4) % 24) ≤ 63) then (1 : Int) else if ((S.2.1 0)) = 12 ∨ ocZ ((S.2.1 0)) ((S.2.2 0)) ((a / 4) % 24) = 1 then 2 else 0) = 2 := hc3
      have hP : va_P G vwCl (wH ah y S ++ dW o0 y d) H := hP
      have hD : va_D A (wH ah y S ++ dW o0 y d) := hD
      have hpos : 0 < S.2.1 0 := by
        rcases (show S.2.1 0 = 12 ∨ ocZ (S.2.1 0) (S.2.2 0) ((a / 4) % 24) = 1 by omega) with q | q
        · omega
        · exact oc_pos q
      refine lv_istore (lv' := [(7, zi (-200)), (6, zi ((a / 4) % 24)), (5, zi k), (0, .ref (ah 0)), (1, .ref o0), (2, zi what), (3, zi a), (4, zi bb)]) hx hb dL_step_179 hl (by decide) rfl (fun ls hl => ?_)
      refine lv_aload_n hx hb dL_step_181 rfl (lv_at hl 4 rfl) ?_
      refine hz_iconst hx hb dL_step_182 ?_
      refine lv_dup2_11 hx hb dL_step_183 rfl rfl ?_
      refine hz_dld hx hb hK hP (by omega) dL_step_184 ?_
      refine lv_iload hx hb dL_step_185 (lv_at hl 0 rfl) ?_
      refine hz_if_ge (tgt := 194) hx hb dL_step_187 (by decide) (by omega) (fun q => by exfalso; omega) (fun _ => ?_)
      refine hz_iconst hx hb dL_step_190 ?_
      refine lv_goto (tgt := 195) hx hb dL_step_191 (by decide) ?_
      refine hz_iadd hx hb dL_step_195 ?_
      refine hz_dst hx hb hK hP hD hS (by omega) dL_step_196 (fun H locs hP hD hS => ?_)
      have hP : va_P G vwCl (wH ah y S ++ dW o0 y (upZ d 0 ((d 0) + 0))) H := hP
      have hD : va_D A (wH ah y S ++ dW o0 y (upZ d 0 ((d 0) + 0))) := hD
      refine lv_iload hx hb dL_step_197 (lv_at hl 1 rfl) ?_
      refine hz_bipush hx hb dL_step_199 (by decide) ?_
      refine hz_irem hx hb dL_step_201 (by omega) ?_
      refine hz_iconst hx hb dL_step_202 ?_
      refine hz_isub hx hb dL_step_203 ?_
      refine lv_istore (lv' := [(8, zi ((((a / 4) % 24) % 8) - 3)), (7, zi (-200)), (6, zi ((a / 4) % 24)), (5, zi k), (0, .ref (ah 0)), (1, .ref o0), (2, zi what), (3, zi a), (4, zi bb)]) hx hb dL_step_204 hl (by decide) rfl (fun ls hl => ?_)
      refine lv_iload hx hb dL_step_206 (lv_at hl 1 rfl) ?_
      refine hz_sipush hx hb dL_step_208 (by decide) ?_
      refine hz_icmp_ne (tgt := 228) hx hb dL_step_211 (by decide) (by omega) (fun q => by exfalso; omega) (fun _ => ?_)
      refine lv_aload_n hx hb dL_step_214 rfl (lv_at hl 5 rfl) ?_
      refine hz_iconst hx hb dL_step_215 ?_
      refine hz_dld hx hb hK hP (by omega) dL_step_216 ?_
      refine hz_tope (z2 := ((d 0) + 0)) (by first | rfl | exact upZ_s rfl | simp [upZ]) ?_
      refine hz_if_le (tgt := 224) hx hb dL_step_217 (by decide) (by omega) (fun q => by exfalso; omega) (fun _ => ?_)
      refine hz_iconst hx hb dL_step_220 ?_
      refine lv_goto (tgt := 298) hx hb dL_step_221 (by decide) ?_
      exact hz_upM (Nat.le_of_ble_eq_true rfl) (Nat.le_of_ble_eq_true rfl) (W.zret (ty := .boolean) (v := zI 1) hx hb hr (zI_nb (by omega)) (fun t ht hW => ⟨⟨zI 1, (S, (upZ d 0 ((d 0) + 0))), rfl, ⟨rfl, hI, (fd_0 hd (show _ = (S.2.1 0) by omega) rfl rfl rfl rfl rfl), (show 1 ≤ (S.2.1 0) by omega)⟩, hz_at2 hP hD ht⟩, hS.F ht⟩) hS.2.2 dL_step_298)
  · refine lv_iload_n hx hb dL_step_154 rfl (lv_at hl 4 rfl) ?_
    refine hz_iconst hx hb dL_step_155 ?_
    refine hz_idiv hx hb dL_step_156 (by omega) ?_
    refine hz_bipush hx hb dL_step_157 (by decide) ?_
    refine hz_irem hx hb dL_step_159 (by omega) ?_
    refine lv_goto (tgt := 169) hx hb dL_step_160 (by decide) ?_
    refine lv_istore (lv' := [(6, zi ((a / 4) % 64)), (5, zi k), (0, .ref (ah 0)), (1, .ref o0), (2, zi what), (3, zi a), (4, zi bb)]) hx hb dL_step_169 hl (by decide) rfl (fun ls hl => ?_)
    refine lv_aload_n hx hb dL_step_171 rfl (lv_at hl 2 rfl) ?_
    refine lv_iload hx hb dL_step_172 (lv_at hl 0 rfl) ?_
    refine hz_iconst hx hb dL_step_174 ?_
    refine hz_iconst hx hb dL_step_175 ?_
    refine hz_lawL (As := [.ref (ah 0), zi ((a / 4) % 64), zi 0, zi 0]) (rest := []) ⟨hx, hb, hml, hown, hts⟩ (c_acts0 l hlt G ah mi zE y _ S ((a / 4) % 64) (0 : Int) hI (show 0 ≤ ((a / 4) % 64) ∧ ((a / 4) % 64) ≤ 63 by omega)) (vx_cwSW 4 hts gL_step_L_acts rfl rfl rfl (by decide +kernel) ⟨Nat.le_of_ble_eq_true rfl, Nat.le_of_ble_eq_true rfl⟩) hP hK hD hS hA hGP hX hGN rfl hl.1 rfl (Nat.le_of_ble_eq_true rfl) dL_step_176 ⟨Nat.le_of_ble_eq_true rfl, Nat.le_of_ble_eq_true rfl⟩ (fun r u11 H locs hu hP hD hS => ?_)
    rcases hu with ⟨nz14, rfl, hc12, rfl, hz13⟩ | ⟨rfl, hc12, rfl⟩
    · have hc12 : (if ¬ (0 ≤ ((a / 4) % 64) ∧ ((a / 4) % 64) ≤ 63) then (1 : Int) else if ((S.2.1 0)) = 12 ∨ ocZ ((S.2.1 0)) ((S.2.2 0)) ((a / 4) % 64) = 1 then 2 else 0) = 0 := hc12
      have hI15 : FC zE (sA (sA (sA (sI (sZ S nz14) 0 ((S.2.1 0) + 1)) 0 (upZ (S.2.2 0) (S.2.1 0) ((a / 4) % 64))) 2 (upZ (S.2.2 2) (S.2.1 0) (-1))) 17 (upZ (S.2.2 17) ((a / 4) % 64) 1)) := (fc_mirror nz14 ((a / 4) % 64) hI (by omega) (show ¬ (S.2.1 0) = 12 by omega) hz13)
      have hP : va_P G vwCl (wH ah y (sA (sA (sA (sI (sZ S nz14) 0 ((S.2.1 0) + 1)) 0 (upZ (S.2.2 0) (S.2.1 0) ((a / 4) % 64))) 2 (upZ (S.2.2 2) (S.2.1 0) (-1))) 17 (upZ (S.2.2 17) ((a / 4) % 64) 1)) ++ dW o0 y d) H := hP
      have hD : va_D A (wH ah y (sA (sA (sA (sI (sZ S nz14) 0 ((S.2.1 0) + 1)) 0 (upZ (S.2.2 0) (S.2.1 0) ((a / 4) % 64))) 2 (upZ (S.2.2 2) (S.2.1 0) (-1))) 17 (upZ (S.2.2 17) ((a / 4) % 64) 1)) ++ dW o0 y d) := hD
      refine hz_tope (z2 := (S.2.1 0)) (by rfl) ?_
      have rds := dstZ_rng (c := ((a / 4) % 64)) (by omega)
      refine lv_istore (lv' := [(7, zi (S.2.1 0)), (6, zi ((a / 4) % 64)), (5, zi k), (0, .ref (ah 0)), (1, .ref o0), (2, zi what), (3, zi a), (4, zi bb)]) hx hb dL_step_179 hl (by decide) rfl (fun ls hl => ?_)
      refine lv_aload_n hx hb dL_step_181 rfl (lv_at hl 4 rfl) ?_
      refine hz_iconst hx hb dL_step_182 ?_
      refine lv_dup2_11 hx hb dL_step_183 rfl rfl ?_
      refine hz_dld hx hb hK hP (by omega) dL_step_184 ?_
      refine lv_iload hx hb dL_step_185 (lv_at hl 0 rfl) ?_
      refine hz_if_ge (tgt := 194) hx hb dL_step_187 (by decide) (by omega) (fun _ => ?_) (fun q => by exfalso; omega)
      refine hz_iconst hx hb dL_step_194 ?_
      refine hz_iadd hx hb dL_step_195 ?_
      refine hz_dst hx hb hK hP hD hS (by omega) dL_step_196 (fun H locs hP hD hS => ?_)
      have hP : va_P G vwCl (wH ah y (sA (sA (sA (sI (sZ S nz14) 0 ((S.2.1 0) + 1)) 0 (upZ (S.2.2 0) (S.2.1 0) ((a / 4) % 64))) 2 (upZ (S.2.2 2) (S.2.1 0) (-1))) 17 (upZ (S.2.2 17) ((a / 4) % 64) 1)) ++ dW o0 y (upZ d 0 ((d 0) + 1))) H := hP
      have hD : va_D A (wH ah y (sA (sA (sA (sI (sZ S nz14) 0 ((S.2.1 0) + 1)) 0 (upZ (S.2.2 0) (S.2.1 0) ((a / 4) % 64))) 2 (upZ (S.2.2 2) (S.2.1 0) (-1))) 17 (upZ (S.2.2 17) ((a / 4) % 64) 1)) ++ dW o0 y (upZ d 0 ((d 0) + 1))) := hD
      refine lv_iload hx hb dL_step_197 (lv_at hl 1 rfl) ?_
      refine hz_bipush hx hb dL_step_199 (by decide) ?_
      refine hz_irem hx hb dL_step_201 (by omega) ?_
      refine hz_iconst hx hb dL_step_202 ?_
      refine hz_isub hx hb dL_step_203 ?_
      refine lv_istore (lv' := [(8, zi ((((a / 4) % 64) % 8) - 3)), (7, zi (S.2.1 0)), (6, zi ((a / 4) % 64)), (5, zi k), (0, .ref (ah 0)), (1, .ref o0), (2, zi what), (3, zi a), (4, zi bb)]) hx hb dL_step_204 hl (by decide) rfl (fun ls hl => ?_)
      refine lv_iload hx hb dL_step_206 (lv_at hl 1 rfl) ?_
      refine hz_sipush hx hb dL_step_208 (by decide) ?_
      refine hz_icmp_ne (tgt := 228) hx hb dL_step_211 (by decide) (by omega) (fun _ => ?_) (fun q => by exfalso; omega)
      refine lv_iload hx hb dL_step_228 (lv_at hl 1 rfl) ?_
      refine lv_aload_n hx hb dL_step_230 rfl (lv_at hl 5 rfl) ?_
      refine hz_iconst hx hb dL_step_231 ?_
      refine hz_dld hx hb hK hP (by omega) dL_step_232 ?_
      refine hz_tope (z2 := ((d 0) + 1)) (by first | rfl | exact upZ_s rfl | simp [upZ]) ?_
      refine hz_iconst hx hb dL_step_233 ?_
      refine hz_isub hx hb dL_step_234 ?_
      refine hz_icmp_ne (tgt := 297) hx hb dL_step_235 (by decide) (by omega) (fun q => by exfalso; omega) (fun _ => ?_)
      refine lv_aload_n hx hb dL_step_238 rfl (lv_at hl 4 rfl) ?_
      refine lv_iload hx hb dL_step_239 (lv_at hl 1 rfl) ?_
      refine hz_iconst hx hb dL_step_241 ?_
      refine hz_cI (As := [zi (S.2.1 0), zi 0]) (rest := []) ⟨hx, hb, hml, hown, hts⟩ (b_mirrorIs l hlt G ah zE y _ (sA (sA (sA (sI (sZ S nz14) 0 ((S.2.1 0) + 1)) 0 (upZ (S.2.2 0) (S.2.1 0) ((a / 4) % 64))) 2 (upZ (S.2.2 2) (S.2.1 0) (-1))) 17 (upZ (S.2.2 17) ((a / 4) % 64) 1)) (S.2.1 0) (0 : Int) hI15 (show 0 ≤ (S.2.1 0) ∧ (S.2.1 0) < ((S.2.1 0) + 1) by omega) (show 0 ≤ (0 : Int) ∧ (0 : Int) ≤ 7 by omega)) (cwV 2 hts gL_step_X7_mirrorIs rfl rfl rfl (by decide +kernel) ⟨Nat.le_of_ble_eq_true rfl, Nat.le_of_ble_eq_true rfl⟩) hP hK hD hS hA hGP 0 8 rfl rfl rfl rfl hl.1 rfl (Nat.le_of_ble_eq_true rfl) dL_step_242 ⟨Nat.le_of_ble_eq_true rfl, Nat.le_of_ble_eq_true rfl⟩ (fun _ => rfl) (fun u16 H locs hu hP hD hS => ?_)
      have hP : va_P G vwCl (wH ah y (sA (sA (sA (sI (sZ S nz14) 0 ((S.2.1 0) + 1)) 0 (upZ (S.2.2 0) (S.2.1 0) ((a / 4) % 64))) 2 (upZ (S.2.2 2) (S.2.1 0) (-1))) 17 (upZ (S.2.2 17) ((a / 4) % 64) 1)) ++ dW o0 y (upZ d 0 ((d 0) + 1))) H := hP
      have hD : va_D A (wH ah y (sA (sA (sA (sI (sZ S nz14) 0 ((S.2.1 0) + 1)) 0 (upZ (S.2.2 0) (S.2.1 0) ((a / 4) % 64))) 2 (upZ (S.2.2 2) (S.2.1 0) (-1))) 17 (upZ (S.2.2 17) ((a / 4) % 64) 1)) ++ dW o0 y (upZ d 0 ((d 0) + 1))) := hD
      refine hz_tope (z2 := ((a / 4) % 64)) (by exact (upZ_s rfl)) ?_
      refine lv_iload hx hb dL_step_245 (lv_at hl 2 rfl) ?_
      refine hz_icmp_ne (tgt := 297) hx hb dL_step_247 (by decide) (by omega) (fun q => by exfalso; omega) (fun _ => ?_)
      refine lv_aload_n hx hb dL_step_250 rfl (lv_at hl 4 rfl) ?_
      refine lv_iload hx hb dL_step_251 (lv_at hl 1 rfl) ?_
      refine hz_iconst hx hb dL_step_253 ?_
      refine hz_cI (As := [zi (S.2.1 0), zi 2]) (rest := []) ⟨hx, hb, hml, hown, hts⟩ (b_mirrorIs l hlt G ah zE y _ (sA (sA (sA (sI (sZ S nz14) 0 ((S.2.1 0) + 1)) 0 (upZ (S.2.2 0) (S.2.1 0) ((a / 4) % 64))) 2 (upZ (S.2.2 2) (S.2.1 0) (-1))) 17 (upZ (S.2.2 17) ((a / 4) % 64) 1)) (S.2.1 0) (2 : Int) hI15 (show 0 ≤ (S.2.1 0) ∧ (S.2.1 0) < ((S.2.1 0) + 1) by omega) (show 0 ≤ (2 : Int) ∧ (2 : Int) ≤ 7 by omega)) (cwV 2 hts gL_step_X7_mirrorIs rfl rfl rfl (by decide +kernel) ⟨Nat.le_of_ble_eq_true rfl, Nat.le_of_ble_eq_true rfl⟩) hP hK hD hS hA hGP 0 8 rfl rfl rfl rfl hl.1 rfl (Nat.le_of_ble_eq_true rfl) dL_step_254 ⟨Nat.le_of_ble_eq_true rfl, Nat.le_of_ble_eq_true rfl⟩ (fun _ => rfl) (fun u17 H locs hu hP hD hS => ?_)
      have hP : va_P G vwCl (wH ah y (sA (sA (sA (sI (sZ S nz14) 0 ((S.2.1 0) + 1)) 0 (upZ (S.2.2 0) (S.2.1 0) ((a / 4) % 64))) 2 (upZ (S.2.2 2) (S.2.1 0) (-1))) 17 (upZ (S.2.2 17) ((a / 4) % 64) 1)) ++ dW o0 y (upZ d 0 ((d 0) + 1))) H := hP
      have hD : va_D A (wH ah y (sA (sA (sA (sI (sZ S nz14) 0 ((S.2.1 0) + 1)) 0 (upZ (S.2.2 0) (S.2.1 0) ((a / 4) % 64))) 2 (upZ (S.2.2 2) (S.2.1 0) (-1))) 17 (upZ (S.2.2 17) ((a / 4) % 64) 1)) ++ dW o0 y (upZ d 0 ((d 0) + 1))) := hD
      refine hz_tope (z2 := (-1)) (by exact (upZ_s rfl)) ?_
      refine hz_iconst hx hb dL_step_257 ?_
      refine hz_icmp_ne (tgt := 297) hx hb dL_step_258 (by decide) (by omega) (fun q => by exfalso; omega) (fun _ => ?_)
      refine lv_aload_n hx hb dL_step_261 rfl (lv_at hl 4 rfl) ?_
      refine lv_iload hx hb dL_step_262 (lv_at hl 1 rfl) ?_
      refine hz_bipush hx hb dL_step_264 (by decide) ?_
      refine hz_cI (As := [zi (S.2.1 0), zi 7]) (rest := []) ⟨hx, hb, hml, hown, hts⟩ (b_mirrorIs l hlt G ah zE y _ (sA (sA (sA (sI (sZ S nz14) 0 ((S.2.1 0) + 1)) 0 (upZ (S.2.2 0) (S.2.1 0) ((a / 4) % 64))) 2 (upZ (S.2.2 2) (S.2.1 0) (-1))) 17 (upZ (S.2.2 17) ((a / 4) % 64) 1)) (S.2.1 0) (7 : Int) hI15 (show 0 ≤ (S.2.1 0) ∧ (S.2.1 0) < ((S.2.1 0) + 1) by omega) (show 0 ≤ (7 : Int) ∧ (7 : Int) ≤ 7 by omega)) (cwV 2 hts gL_step_X7_mirrorIs rfl rfl rfl (by decide +kernel) ⟨Nat.le_of_ble_eq_true rfl, Nat.le_of_ble_eq_true rfl⟩) hP hK hD hS hA hGP 0 8 rfl rfl rfl rfl hl.1 rfl (Nat.le_of_ble_eq_true rfl) dL_step_266 ⟨Nat.le_of_ble_eq_true rfl, Nat.le_of_ble_eq_true rfl⟩ (fun _ => rfl) (fun u18 H locs hu hP hD hS => ?_)
      have hP : va_P G vwCl (wH ah y (sA (sA (sA (sI (sZ S nz14) 0 ((S.2.1 0) + 1)) 0 (upZ (S.2.2 0) (S.2.1 0) ((a / 4) % 64))) 2 (upZ (S.2.2 2) (S.2.1 0) (-1))) 17 (upZ (S.2.2 17) ((a / 4) % 64) 1)) ++ dW o0 y (upZ d 0 ((d 0) + 1))) H := hP
      have hD : va_D A (wH ah y (sA (sA (sA (sI (sZ S nz14) 0 ((S.2.1 0) + 1)) 0 (upZ (S.2.2 0) (S.2.1 0) ((a / 4) % 64))) 2 (upZ (S.2.2 2) (S.2.1 0) (-1))) 17 (upZ (S.2.2 17) ((a / 4) % 64) 1)) ++ dW o0 y (upZ d 0 ((d 0) + 1))) := hD
      refine hz_tope (z2 := (dstZ ((a / 4) % 64))) (by exact congrArg dstZ (upZ_s rfl)) ?_
      refine lv_iload hx hb dL_step_269 (lv_at hl 2 rfl) ?_
      refine hz_bipush hx hb dL_step_271 (by decide) ?_
      refine hz_idiv hx hb dL_step_273 (by omega) ?_
      refine hz_iconst hx hb dL_step_274 ?_
      refine hz_iadd hx hb dL_step_275 ?_
      refine lv_iload hx hb dL_step_276 (lv_at hl 0 rfl) ?_
      refine hz_if_ge (tgt := 287) hx hb dL_step_278 (by decide) (by omega) (fun c19 => ?_) (fun c19 => ?_)
      · refine lv_iload hx hb dL_step_287 (lv_at hl 0 rfl) ?_
        refine hz_iadd hx hb dL_step_289 ?_
        refine hz_icmp_ne (tgt := 297) hx hb dL_step_290 (by decide) (by omega) (fun q => by exfalso; unfold dstZ at q; omega) (fun _ => ?_)
        refine hz_iconst hx hb dL_step_293 ?_
        refine lv_goto (tgt := 298) hx hb dL_step_294 (by decide) ?_
        exact hz_upM (Nat.le_of_ble_eq_true rfl) (Nat.le_of_ble_eq_true rfl) (W.zret (ty := .boolean) (v := zI 1) hx hb hr (zI_nb (by omega)) (fun t ht hW => ⟨⟨zI 1, ((sA (sA (sA (sI (sZ S nz14) 0 ((S.2.1 0) + 1)) 0 (upZ (S.2.2 0) (S.2.1 0) ((a / 4) % 64))) 2 (upZ (S.2.2 2) (S.2.1 0) (-1))) 17 (upZ (S.2.2 17) ((a / 4) % 64) 1)), (upZ d 0 ((d 0) + 1))), rfl, ⟨rfl, hI15, (fd_0 hd (show _ = ((S.2.1 0) + 1) by omega) rfl rfl rfl rfl rfl), (show 1 ≤ ((S.2.1 0) + 1) by omega)⟩, hz_at2 hP hD ht⟩, hS.F ht⟩) hS.2.2 dL_step_298)
      · refine lv_iload hx hb dL_step_281 (lv_at hl 0 rfl) ?_
        refine hz_ineg hx hb dL_step_283 ?_
        refine lv_goto (tgt := 289) hx hb dL_step_284 (by decide) ?_
        refine hz_iadd hx hb dL_step_289 ?_
        refine hz_icmp_ne (tgt := 297) hx hb dL_step_290 (by decide) (by omega) (fun q => by exfalso; unfold dstZ at q; omega) (fun _ => ?_)
        refine hz_iconst hx hb dL_step_293 ?_
        refine lv_goto (tgt := 298) hx hb dL_step_294 (by decide) ?_
        exact hz_upM (Nat.le_of_ble_eq_true rfl) (Nat.le_of_ble_eq_true rfl) (W.zret (ty := .boolean) (v := zI 1) hx hb hr (zI_nb (by omega)) (fun t ht hW => ⟨⟨zI 1, ((sA (sA (sA (sI (sZ S nz14) 0 ((S.2.1 0) + 1)) 0 (upZ (S.2.2 0) (S.2.1 0) ((a / 4) % 64))) 2 (upZ (S.2.2 2) (S.2.1 0) (-1))) 17 (upZ (S.2.2 17) ((a / 4) % 64) 1)), (upZ d 0 ((d 0) + 1))), rfl, ⟨rfl, hI15, (fd_0 hd (show _ = ((S.2.1 0) + 1) by omega) rfl rfl rfl rfl rfl), (show 1 ≤ ((S.2.1 0) + 1) by omega)⟩, hz_at2 hP hD ht⟩, hS.F ht⟩) hS.2.2 dL_step_298)
    · have hc12 : (if ¬ (0 ≤ ((a / 4) % 64) ∧ ((a / 4) % 64) ≤ 63) then (1 : Int) else if ((S.2.1 0)) = 12 ∨ ocZ ((S.2.1 0)) ((S.2.2 0)) ((a / 4) % 64) = 1 then 2 else 0) = 2 := hc12
      have hP : va_P G vwCl (wH ah y S ++ dW o0 y d) H := hP
      have hD : va_D A (wH ah y S ++ dW o0 y d) := hD
      have hpos : 0 < S.2.1 0 := by
        rcases (show S.2.1 0 = 12 ∨ ocZ (S.2.1 0) (S.2.2 0) ((a / 4) % 64) = 1 by omega) with q | q
        · omega
        · exact oc_pos q
      refine lv_istore (lv' := [(7, zi (-200)), (6, zi ((a / 4) % 64)), (5, zi k), (0, .ref (ah 0)), (1, .ref o0), (2, zi what), (3, zi a), (4, zi bb)]) hx hb dL_step_179 hl (by decide) rfl (fun ls hl => ?_)
      refine lv_aload_n hx hb dL_step_181 rfl (lv_at hl 4 rfl) ?_
      refine hz_iconst hx hb dL_step_182 ?_
      refine lv_dup2_11 hx hb dL_step_183 rfl rfl ?_
      refine hz_dld hx hb hK hP (by omega) dL_step_184 ?_
      refine lv_iload hx hb dL_step_185 (lv_at hl 0 rfl) ?_
      refine hz_if_ge (tgt := 194) hx hb dL_step_187 (by decide) (by omega) (fun q => by exfalso; omega) (fun _ => ?_)
      refine hz_iconst hx hb dL_step_190 ?_
      refine lv_goto (tgt := 195) hx hb dL_step_191 (by decide) ?_
      refine hz_iadd hx hb dL_step_195 ?_
      refine hz_dst hx hb hK hP hD hS (by omega) dL_step_196 (fun H locs hP hD hS => ?_)
      have hP : va_P G vwCl (wH ah y S ++ dW o0 y (upZ d 0 ((d 0) + 0))) H := hP
      have hD : va_D A (wH ah y S ++ dW o0 y (upZ d 0 ((d 0) + 0))) := hD
      refine lv_iload hx hb dL_step_197 (lv_at hl 1 rfl) ?_
      refine hz_bipush hx hb dL_step_199 (by decide) ?_
      refine hz_irem hx hb dL_step_201 (by omega) ?_
      refine hz_iconst hx hb dL_step_202 ?_
      refine hz_isub hx hb dL_step_203 ?_
      refine lv_istore (lv' := [(8, zi ((((a / 4) % 64) % 8) - 3)), (7, zi (-200)), (6, zi ((a / 4) % 64)), (5, zi k), (0, .ref (ah 0)), (1, .ref o0), (2, zi what), (3, zi a), (4, zi bb)]) hx hb dL_step_204 hl (by decide) rfl (fun ls hl => ?_)
      refine lv_iload hx hb dL_step_206 (lv_at hl 1 rfl) ?_
      refine hz_sipush hx hb dL_step_208 (by decide) ?_
      refine hz_icmp_ne (tgt := 228) hx hb dL_step_211 (by decide) (by omega) (fun q => by exfalso; omega) (fun _ => ?_)
      refine lv_aload_n hx hb dL_step_214 rfl (lv_at hl 5 rfl) ?_
      refine hz_iconst hx hb dL_step_215 ?_
      refine hz_dld hx hb hK hP (by omega) dL_step_216 ?_
      refine hz_tope (z2 := ((d 0) + 0)) (by first | rfl | exact upZ_s rfl | simp [upZ]) ?_
      refine hz_if_le (tgt := 224) hx hb dL_step_217 (by decide) (by omega) (fun q => by exfalso; omega) (fun _ => ?_)
      refine hz_iconst hx hb dL_step_220 ?_
      refine lv_goto (tgt := 298) hx hb dL_step_221 (by decide) ?_
      exact hz_upM (Nat.le_of_ble_eq_true rfl) (Nat.le_of_ble_eq_true rfl) (W.zret (ty := .boolean) (v := zI 1) hx hb hr (zI_nb (by omega)) (fun t ht hW => ⟨⟨zI 1, (S, (upZ d 0 ((d 0) + 0))), rfl, ⟨rfl, hI, (fd_0 hd (show _ = (S.2.1 0) by omega) rfl rfl rfl rfl rfl), (show 1 ≤ (S.2.1 0) by omega)⟩, hz_at2 hP hD ht⟩, hS.F ht⟩) hS.2.2 dL_step_298)
set_option maxHeartbeats 32000000 in
set_option maxRecDepth 100000 in
theorem st_aim {p : Program} {l : Launch} {e : Env} {s : State} {m : MethodId} {below : List Frame} {meth : Method} {c : Code} {A : Nat → Prop} {G : va_G} {mi zE : Nat} {y : Nat → ClassId} {ah : Nat → Nat} {o0 : Nat} {S : ST} {d : Int → Int} {what a bb : Int} {k : Int} (hQ : LC p l s m meth c A G mi zE y 33 cL_step wsL_step [.ref (ah 0), .ref o0, zi what, zi a, zi bb] (some .boolean)) (hI : FC zE S) (hd : FD S d) (ha : 0 ≤ a ∧ a < 2147483648) (hbb : 0 ≤ bb ∧ bb < 2147483648) (hk : 0 ≤ k ∧ k < S.2.1 0) (hP : va_P G vwCl (wH ah y S ++ dW o0 y d) s.heap) (hD : va_D A (wH ah y S ++ dW o0 y d)) : ∀ ls : Array Slot, lv_has ls 33 [(5, zi k), (0, .ref (ah 0)), (1, .ref o0), (2, zi what), (3, zi a), (4, zi bb)] → W p l e (headSpec wsL_step ({ frames := 15, cells := 1250, slots := 7500, locals := 620 })).room s m ([.ref (ah 0), .ref o0, zi what, zi a, zi bb] : List Value).toArray below meth c s.heap [] 0 0 (MQ below (Q_step G ah zE y o0 A) ([.ref (ah 0), .ref o0, zi what, zi a, zi bb] : List Value).toArray s 1250 7500 A) (F0 m 299 ls []) := by
  intro ls hl
  obtain ⟨hx, hb, hr, hts, hown, hlocks, hml, hK, hA, hGP, hX, hGN, hlt⟩ := hQ
  have hS : va_S A s.heap s.heap [] := va_S.rf
  have qN := hI.N
  have qC := hI.C
  have qNow := hI.Now
  have qHz := hI.Haze
  have qS := hI.Salt
  have qP := hI.Pipe
  have qTc := hI.Trc
  have qTb := hI.Turb
  have qLd := hI.Load
  have qTL := hI.TL
  have qW := hI.Water
  have qD0 := hd.D0
  have qD1 := hd.D1
  have qD2 := hd.D2
  have qD3 := hd.D3
  have qst := strZ_rng (S.2.1 2)
  have kE := hI.Err k
  have kC := hI.Cor k
  have kA := hI.Aim k
  have kB := hI.Brk k
  have kD := hI.Dirt k
  have kP := pwS_rng hI k 0
  have kL := hI.Cell k
  refine lv_aload_n hx hb dL_step_299 rfl (lv_at hl 1 rfl) ?_
  refine lv_iload hx hb dL_step_300 (lv_at hl 0 rfl) ?_
  refine hz_iconst hx hb dL_step_302 ?_
  refine hz_cI (As := [zi k, zi 2]) (rest := []) ⟨hx, hb, hml, hown, hts⟩ (b_mirrorIs l hlt G ah zE y _ S k (2 : Int) hI (show 0 ≤ k ∧ k < (S.2.1 0) by omega) (show 0 ≤ (2 : Int) ∧ (2 : Int) ≤ 7 by omega)) (cwV 2 hts gL_step_X7_mirrorIs rfl rfl rfl (by decide +kernel) ⟨Nat.le_of_ble_eq_true rfl, Nat.le_of_ble_eq_true rfl⟩) hP hK hD hS hA hGP 0 8 rfl rfl rfl rfl hl.1 rfl (Nat.le_of_ble_eq_true rfl) dL_step_303 ⟨Nat.le_of_ble_eq_true rfl, Nat.le_of_ble_eq_true rfl⟩ (fun _ => rfl) (fun u1 H locs hu hP hD hS => ?_)
  have hP : va_P G vwCl (wH ah y S ++ dW o0 y d) H := hP
  have hD : va_D A (wH ah y S ++ dW o0 y d) := hD
  refine hz_tope (z2 := ((S.2.2 2) k)) (by rfl) ?_
  refine lv_istore (lv' := [(9, zi ((S.2.2 2) k)), (5, zi k), (0, .ref (ah 0)), (1, .ref o0), (2, zi what), (3, zi a), (4, zi bb)]) hx hb dL_step_306 hl (by decide) rfl (fun ls hl => ?_)
  refine lv_iload hx hb dL_step_308 (lv_at hl 6 rfl) ?_
  refine hz_bipush hx hb dL_step_310 (by decide) ?_
  refine hz_irem hx hb dL_step_312 (by omega) ?_
  refine hz_iconst hx hb dL_step_313 ?_
  refine hz_isub hx hb dL_step_314 ?_
  refine lv_istore (lv' := [(10, zi ((bb % 7) - 1)), (9, zi ((S.2.2 2) k)), (5, zi k), (0, .ref (ah 0)), (1, .ref o0), (2, zi what), (3, zi a), (4, zi bb)]) hx hb dL_step_315 hl (by decide) rfl (fun ls hl => ?_)
  refine lv_aload_n hx hb dL_step_317 rfl (lv_at hl 3 rfl) ?_
  refine lv_iload hx hb dL_step_318 (lv_at hl 2 rfl) ?_
  refine lv_iload hx hb dL_step_320 (lv_at hl 0 rfl) ?_
  refine hz_iconst hx hb dL_step_322 ?_
  refine hz_lawL (As := [.ref (ah 0), zi k, zi ((bb % 7) - 1), zi 1]) (rest := []) ⟨hx, hb, hml, hown, hts⟩ (c_acts1 l hlt G ah mi zE y _ S k ((bb % 7) - 1) hI (show 0 ≤ k ∧ k < (S.2.1 0) by omega) (show -1 ≤ ((bb % 7) - 1) ∧ ((bb % 7) - 1) ≤ 5 by omega)) (vx_cwSW 4 hts gL_step_L_acts rfl rfl rfl (by decide +kernel) ⟨Nat.le_of_ble_eq_true rfl, Nat.le_of_ble_eq_true rfl⟩) hP hK hD hS hA hGP hX hGN rfl hl.1 rfl (Nat.le_of_ble_eq_true rfl) dL_step_323 ⟨Nat.le_of_ble_eq_true rfl, Nat.le_of_ble_eq_true rfl⟩ (fun r u2 H locs hu hP hD hS => ?_)
  rcases hu with ⟨rfl, hc3, rfl⟩ | ⟨rfl, hc3, rfl⟩
  · have hc3 : (if ¬ (0 ≤ k ∧ k < ((S.2.1 0))) then (1 : Int) else if ¬ (-1 ≤ ((bb % 7) - 1) ∧ ((bb % 7) - 1) ≤ 5) then 2 else if ((S.2.2 5)) k = 1 then 3 else 0) = 0 := hc3
    have hI6 : FC zE (sA S 2 (upZ (S.2.2 2) k ((bb % 7) - 1))) := (fc_aim k ((bb % 7) - 1) hI (by omega))
    have hP : va_P G vwCl (wH ah y (sA S 2 (upZ (S.2.2 2) k ((bb % 7) - 1))) ++ dW o0 y d) H := hP
    have hD : va_D A (wH ah y (sA S 2 (upZ (S.2.2 2) k ((bb % 7) - 1))) ++ dW o0 y d) := hD
    refine hz_tope (z2 := ((S.2.2 2) k)) (by rfl) ?_
    refine lv_istore (lv' := [(11, zi ((S.2.2 2) k)), (10, zi ((bb % 7) - 1)), (9, zi ((S.2.2 2) k)), (5, zi k), (0, .ref (ah 0)), (1, .ref o0), (2, zi what), (3, zi a), (4, zi bb)]) hx hb dL_step_326 hl (by decide) rfl (fun ls hl => ?_)
    refine lv_iload hx hb dL_step_328 (lv_at hl 0 rfl) ?_
    refine hz_sipush hx hb dL_step_330 (by decide) ?_
    refine hz_icmp_ne (tgt := 367) hx hb dL_step_333 (by decide) (by omega) (fun _ => ?_) (fun q => by exfalso; omega)
    refine lv_iload hx hb dL_step_367 (lv_at hl 0 rfl) ?_
    refine lv_iload hx hb dL_step_369 (lv_at hl 2 rfl) ?_
    refine hz_icmp_ne (tgt := 400) hx hb dL_step_371 (by decide) (by omega) (fun q => by exfalso; omega) (fun _ => ?_)
    refine lv_aload_n hx hb dL_step_374 rfl (lv_at hl 4 rfl) ?_
    refine lv_iload hx hb dL_step_375 (lv_at hl 3 rfl) ?_
    refine hz_iconst hx hb dL_step_377 ?_
    refine hz_cI (As := [zi k, zi 2]) (rest := []) ⟨hx, hb, hml, hown, hts⟩ (b_mirrorIs l hlt G ah zE y _ (sA S 2 (upZ (S.2.2 2) k ((bb % 7) - 1))) k (2 : Int) hI6 (show 0 ≤ k ∧ k < (S.2.1 0) by omega) (show 0 ≤ (2 : Int) ∧ (2 : Int) ≤ 7 by omega)) (cwV 2 hts gL_step_X7_mirrorIs rfl rfl rfl (by decide +kernel) ⟨Nat.le_of_ble_eq_true rfl, Nat.le_of_ble_eq_true rfl⟩) hP hK hD hS hA hGP 0 8 rfl rfl rfl rfl hl.1 rfl (Nat.le_of_ble_eq_true rfl) dL_step_378 ⟨Nat.le_of_ble_eq_true rfl, Nat.le_of_ble_eq_true rfl⟩ (fun _ => rfl) (fun u7 H locs hu hP hD hS => ?_)
    have hP : va_P G vwCl (wH ah y (sA S 2 (upZ (S.2.2 2) k ((bb % 7) - 1))) ++ dW o0 y d) H := hP
    have hD : va_D A (wH ah y (sA S 2 (upZ (S.2.2 2) k ((bb % 7) - 1))) ++ dW o0 y d) := hD
    refine hz_tope (z2 := ((bb % 7) - 1)) (by exact (upZ_s rfl)) ?_
    refine lv_iload hx hb dL_step_381 (lv_at hl 1 rfl) ?_
    refine hz_icmp_ne (tgt := 400) hx hb dL_step_383 (by decide) (by omega) (fun q => by exfalso; omega) (fun _ => ?_)
    refine lv_aload_n hx hb dL_step_386 rfl (lv_at hl 4 rfl) ?_
    refine lv_iload hx hb dL_step_387 (lv_at hl 3 rfl) ?_
    refine hz_iconst hx hb dL_step_389 ?_
    refine hz_cI (As := [zi k, zi 4]) (rest := []) ⟨hx, hb, hml, hown, hts⟩ (b_mirrorIs l hlt G ah zE y _ (sA S 2 (upZ (S.2.2 2) k ((bb % 7) - 1))) k (4 : Int) hI6 (show 0 ≤ k ∧ k < (S.2.1 0) by omega) (show 0 ≤ (4 : Int) ∧ (4 : Int) ≤ 7 by omega)) (cwV 2 hts gL_step_X7_mirrorIs rfl rfl rfl (by decide +kernel) ⟨Nat.le_of_ble_eq_true rfl, Nat.le_of_ble_eq_true rfl⟩) hP hK hD hS hA hGP 0 8 rfl rfl rfl rfl hl.1 rfl (Nat.le_of_ble_eq_true rfl) dL_step_390 ⟨Nat.le_of_ble_eq_true rfl, Nat.le_of_ble_eq_true rfl⟩ (fun _ => rfl) (fun u8 H locs hu hP hD hS => ?_)
    have hP : va_P G vwCl (wH ah y (sA S 2 (upZ (S.2.2 2) k ((bb % 7) - 1))) ++ dW o0 y d) H := hP
    have hD : va_D A (wH ah y (sA S 2 (upZ (S.2.2 2) k ((bb % 7) - 1))) ++ dW o0 y d) := hD
    refine hz_tope (z2 := ((S.2.2 5) k)) (by rfl) ?_
    refine hz_if_ne (tgt := 400) hx hb dL_step_393 (by decide) (by omega) (fun q => by exfalso; omega) (fun _ => ?_)
    refine hz_iconst hx hb dL_step_396 ?_
    refine lv_goto (tgt := 401) hx hb dL_step_397 (by decide) ?_
    exact hz_upM (Nat.le_of_ble_eq_true rfl) (Nat.le_of_ble_eq_true rfl) (W.zret (ty := .boolean) (v := zI 1) hx hb hr (zI_nb (by omega)) (fun t ht hW => ⟨⟨zI 1, ((sA S 2 (upZ (S.2.2 2) k ((bb % 7) - 1))), d), rfl, ⟨rfl, hI6, hd, (show 1 ≤ (S.2.1 0) by omega)⟩, hz_at2 hP hD ht⟩, hS.F ht⟩) hS.2.2 dL_step_401)
  · have hc3 : (if ¬ (0 ≤ k ∧ k < ((S.2.1 0))) then (1 : Int) else if ¬ (-1 ≤ ((bb % 7) - 1) ∧ ((bb % 7) - 1) ≤ 5) then 2 else if ((S.2.2 5)) k = 1 then 3 else 0) = 3 := hc3
    have hP : va_P G vwCl (wH ah y S ++ dW o0 y d) H := hP
    have hD : va_D A (wH ah y S ++ dW o0 y d) := hD
    refine lv_istore (lv' := [(11, zi (-200)), (10, zi ((bb % 7) - 1)), (9, zi ((S.2.2 2) k)), (5, zi k), (0, .ref (ah 0)), (1, .ref o0), (2, zi what), (3, zi a), (4, zi bb)]) hx hb dL_step_326 hl (by decide) rfl (fun ls hl => ?_)
    refine lv_iload hx hb dL_step_328 (lv_at hl 0 rfl) ?_
    refine hz_sipush hx hb dL_step_330 (by decide) ?_
    refine hz_icmp_ne (tgt := 367) hx hb dL_step_333 (by decide) (by omega) (fun q => by exfalso; omega) (fun _ => ?_)
    refine lv_aload_n hx hb dL_step_336 rfl (lv_at hl 4 rfl) ?_
    refine lv_iload hx hb dL_step_337 (lv_at hl 3 rfl) ?_
    refine hz_iconst hx hb dL_step_339 ?_
    refine hz_cI (As := [zi k, zi 4]) (rest := []) ⟨hx, hb, hml, hown, hts⟩ (b_mirrorIs l hlt G ah zE y _ S k (4 : Int) hI (show 0 ≤ k ∧ k < (S.2.1 0) by omega) (show 0 ≤ (4 : Int) ∧ (4 : Int) ≤ 7 by omega)) (cwV 2 hts gL_step_X7_mirrorIs rfl rfl rfl (by decide +kernel) ⟨Nat.le_of_ble_eq_true rfl, Nat.le_of_ble_eq_true rfl⟩) hP hK hD hS hA hGP 0 8 rfl rfl rfl rfl hl.1 rfl (Nat.le_of_ble_eq_true rfl) dL_step_340 ⟨Nat.le_of_ble_eq_true rfl, Nat.le_of_ble_eq_true rfl⟩ (fun _ => rfl) (fun u9 H locs hu hP hD hS => ?_)
    have hP : va_P G vwCl (wH ah y S ++ dW o0 y d) H := hP
    have hD : va_D A (wH ah y S ++ dW o0 y d) := hD
    refine hz_tope (z2 := ((S.2.2 5) k)) (by rfl) ?_
    refine hz_iconst hx hb dL_step_343 ?_
    refine hz_icmp_ne (tgt := 363) hx hb dL_step_344 (by decide) (by omega) (fun q => by exfalso; omega) (fun _ => ?_)
    refine lv_aload_n hx hb dL_step_347 rfl (lv_at hl 4 rfl) ?_
    refine lv_iload hx hb dL_step_348 (lv_at hl 3 rfl) ?_
    refine hz_iconst hx hb dL_step_350 ?_
    refine hz_cI (As := [zi k, zi 2]) (rest := []) ⟨hx, hb, hml, hown, hts⟩ (b_mirrorIs l hlt G ah zE y _ S k (2 : Int) hI (show 0 ≤ k ∧ k < (S.2.1 0) by omega) (show 0 ≤ (2 : Int) ∧ (2 : Int) ≤ 7 by omega)) (cwV 2 hts gL_step_X7_mirrorIs rfl rfl rfl (by decide +kernel) ⟨Nat.le_of_ble_eq_true rfl, Nat.le_of_ble_eq_true rfl⟩) hP hK hD hS hA hGP 0 8 rfl rfl rfl rfl hl.1 rfl (Nat.le_of_ble_eq_true rfl) dL_step_351 ⟨Nat.le_of_ble_eq_true rfl, Nat.le_of_ble_eq_true rfl⟩ (fun _ => rfl) (fun u10 H locs hu hP hD hS => ?_)
    have hP : va_P G vwCl (wH ah y S ++ dW o0 y d) H := hP
    have hD : va_D A (wH ah y S ++ dW o0 y d) := hD
    refine hz_tope (z2 := ((S.2.2 2) k)) (by rfl) ?_
    refine lv_iload hx hb dL_step_354 (lv_at hl 2 rfl) ?_
    refine hz_icmp_ne (tgt := 363) hx hb dL_step_356 (by decide) (by omega) (fun q => by exfalso; omega) (fun _ => ?_)
    refine hz_iconst hx hb dL_step_359 ?_
    refine lv_goto (tgt := 401) hx hb dL_step_360 (by decide) ?_
    exact hz_upM (Nat.le_of_ble_eq_true rfl) (Nat.le_of_ble_eq_true rfl) (W.zret (ty := .boolean) (v := zI 1) hx hb hr (zI_nb (by omega)) (fun t ht hW => ⟨⟨zI 1, (S, d), rfl, ⟨rfl, hI, hd, (show 1 ≤ (S.2.1 0) by omega)⟩, hz_at2 hP hD ht⟩, hS.F ht⟩) hS.2.2 dL_step_401)
set_option maxHeartbeats 32000000 in
set_option maxRecDepth 100000 in
theorem st_drift {p : Program} {l : Launch} {e : Env} {s : State} {m : MethodId} {below : List Frame} {meth : Method} {c : Code} {A : Nat → Prop} {G : va_G} {mi zE : Nat} {y : Nat → ClassId} {ah : Nat → Nat} {o0 : Nat} {S : ST} {d : Int → Int} {what a bb : Int} {k : Int} (hQ : LC p l s m meth c A G mi zE y 33 cL_step wsL_step [.ref (ah 0), .ref o0, zi what, zi a, zi bb] (some .boolean)) (hI : FC zE S) (hd : FD S d) (ha : 0 ≤ a ∧ a < 2147483648) (hbb : 0 ≤ bb ∧ bb < 2147483648) (hk : 0 ≤ k ∧ k < S.2.1 0) (hP : va_P G vwCl (wH ah y S ++ dW o0 y d) s.heap) (hD : va_D A (wH ah y S ++ dW o0 y d)) : ∀ ls : Array Slot, lv_has ls 33 [(5, zi k), (0, .ref (ah 0)), (1, .ref o0), (2, zi what), (3, zi a), (4, zi bb)] → W p l e (headSpec wsL_step ({ frames := 15, cells := 1250, slots := 7500, locals := 620 })).room s m ([.ref (ah 0), .ref o0, zi what, zi a, zi bb] : List Value).toArray below meth c s.heap [] 0 0 (MQ below (Q_step G ah zE y o0 A) ([.ref (ah 0), .ref o0, zi what, zi a, zi bb] : List Value).toArray s 1250 7500 A) (F0 m 402 ls []) := by
  intro ls hl
  obtain ⟨hx, hb, hr, hts, hown, hlocks, hml, hK, hA, hGP, hX, hGN, hlt⟩ := hQ
  have hS : va_S A s.heap s.heap [] := va_S.rf
  have qN := hI.N
  have qC := hI.C
  have qNow := hI.Now
  have qHz := hI.Haze
  have qS := hI.Salt
  have qP := hI.Pipe
  have qTc := hI.Trc
  have qTb := hI.Turb
  have qLd := hI.Load
  have qTL := hI.TL
  have qW := hI.Water
  have qD0 := hd.D0
  have qD1 := hd.D1
  have qD2 := hd.D2
  have qD3 := hd.D3
  have qst := strZ_rng (S.2.1 2)
  have kE := hI.Err k
  have kC := hI.Cor k
  have kA := hI.Aim k
  have kB := hI.Brk k
  have kD := hI.Dirt k
  have kP := pwS_rng hI k 0
  have kL := hI.Cell k
  have rhd := hdZ_rng (v := (S.2.2 3 k) + (bb % 13 - 6)) (a := -3) (b := 3) (by decide)
  refine lv_aload_n hx hb dL_step_402 rfl (lv_at hl 1 rfl) ?_
  refine lv_iload hx hb dL_step_403 (lv_at hl 0 rfl) ?_
  refine lv_iload hx hb dL_step_405 (lv_at hl 5 rfl) ?_
  refine hz_bipush hx hb dL_step_407 (by decide) ?_
  refine hz_irem hx hb dL_step_409 (by omega) ?_
  refine hz_bipush hx hb dL_step_410 (by decide) ?_
  refine hz_isub hx hb dL_step_412 ?_
  refine hz_cV (As := [zi k, zi ((bb % 13) - 6)]) (rest := []) ⟨hx, hb, hml, hown, hts⟩ (b_drift l hlt G ah zE y _ S k ((bb % 13) - 6) hI (show 0 ≤ k ∧ k < (S.2.1 0) by omega) (show -6 ≤ ((bb % 13) - 6) ∧ ((bb % 13) - 6) ≤ 6 by omega)) (cwV 2 hts gL_step_X7_drift rfl rfl rfl (by decide +kernel) ⟨Nat.le_of_ble_eq_true rfl, Nat.le_of_ble_eq_true rfl⟩) hP hK hD hS hA hGP 0 8 rfl rfl rfl rfl hl.1 rfl (Nat.le_of_ble_eq_true rfl) dL_step_413 ⟨Nat.le_of_ble_eq_true rfl, Nat.le_of_ble_eq_true rfl⟩ (fun _ => wH_fst rfl rfl rfl) (fun u1 H locs hu hP hD hS => ?_)
  have hI2 : FC zE (sA S 3 (upZ (S.2.2 3) k (hdZ (((S.2.2 3) k) + ((bb % 13) - 6)) (-3) 3))) := (fc_drift k ((bb % 13) - 6) hI (by omega))
  have hP : va_P G vwCl (wH ah y (sA S 3 (upZ (S.2.2 3) k (hdZ (((S.2.2 3) k) + ((bb % 13) - 6)) (-3) 3))) ++ dW o0 y d) H := hP
  have hD : va_D A (wH ah y (sA S 3 (upZ (S.2.2 3) k (hdZ (((S.2.2 3) k) + ((bb % 13) - 6)) (-3) 3))) ++ dW o0 y d) := hD
  refine lv_aload_n hx hb dL_step_416 rfl (lv_at hl 1 rfl) ?_
  refine lv_iload hx hb dL_step_417 (lv_at hl 0 rfl) ?_
  refine hz_iconst hx hb dL_step_419 ?_
  refine hz_iconst hx hb dL_step_420 ?_
  refine hz_lawL (As := [.ref (ah 0), zi k, zi 0, zi 3]) (rest := []) ⟨hx, hb, hml, hown, hts⟩ (c_acts3 l hlt G ah mi zE y _ (sA S 3 (upZ (S.2.2 3) k (hdZ (((S.2.2 3) k) + ((bb % 13) - 6)) (-3) 3))) k (0 : Int) hI2 (show 0 ≤ k ∧ k < (S.2.1 0) by omega)) (vx_cwSW 4 hts gL_step_L_acts rfl rfl rfl (by decide +kernel) ⟨Nat.le_of_ble_eq_true rfl, Nat.le_of_ble_eq_true rfl⟩) hP hK hD hS hA hGP hX hGN rfl hl.1 rfl (Nat.le_of_ble_eq_true rfl) dL_step_421 ⟨Nat.le_of_ble_eq_true rfl, Nat.le_of_ble_eq_true rfl⟩ (fun r u3 H locs hu hP hD hS => ?_)
  rcases hu with ⟨hc4, rfl⟩ | ⟨hc4, rfl⟩
  · have hc4 : (if ¬ (0 ≤ k ∧ k < (S.2.1 0)) then (1 : Int) else if ¬ (0 < (pwS S k 0)) then 2 else 0) = 0 := hc4
    have hP : va_P G vwCl (wH ah y (sA S 3 (upZ (S.2.2 3) k (hdZ (((S.2.2 3) k) + ((bb % 13) - 6)) (-3) 3))) ++ dW o0 y d) H := hP
    have hD : va_D A (wH ah y (sA S 3 (upZ (S.2.2 3) k (hdZ (((S.2.2 3) k) + ((bb % 13) - 6)) (-3) 3))) ++ dW o0 y d) := hD
    refine hz_tope (z2 := ((hdZ (((S.2.2 3) k) + ((bb % 13) - 6)) (-3) 3) - ((S.2.2 4) k))) (by first | rfl | (show (upZ (S.2.2 3) k (hdZ (((S.2.2 3) k) + ((bb % 13) - 6)) (-3) 3)) k - (S.2.2 4) k = (hdZ (((S.2.2 3) k) + ((bb % 13) - 6)) (-3) 3) - ((S.2.2 4) k); rw [upZ_s rfl])) ?_
    refine lv_istore (lv' := [(12, zi ((hdZ (((S.2.2 3) k) + ((bb % 13) - 6)) (-3) 3) - ((S.2.2 4) k))), (5, zi k), (0, .ref (ah 0)), (1, .ref o0), (2, zi what), (3, zi a), (4, zi bb)]) hx hb dL_step_424 hl (by decide) rfl (fun ls hl => ?_)
    refine lv_iload hx hb dL_step_426 (lv_at hl 0 rfl) ?_
    refine hz_sipush hx hb dL_step_428 (by decide) ?_
    refine hz_icmp_ne (tgt := 452) hx hb dL_step_431 (by decide) (by omega) (fun _ => ?_) (fun q => by exfalso; omega)
    refine lv_aload_n hx hb dL_step_452 rfl (lv_at hl 2 rfl) ?_
    refine lv_iload hx hb dL_step_453 (lv_at hl 1 rfl) ?_
    refine hz_iconst hx hb dL_step_455 ?_
    refine hz_cI (As := [zi k, zi 0]) (rest := []) ⟨hx, hb, hml, hown, hts⟩ (b_power l hlt G ah zE y _ (sA S 3 (upZ (S.2.2 3) k (hdZ (((S.2.2 3) k) + ((bb % 13) - 6)) (-3) 3))) k (0 : Int) hI2 (show 0 ≤ k ∧ k < (S.2.1 0) by omega) (show 0 ≤ (0 : Int) ∧ (0 : Int) ≤ 24 by omega)) (cwV 2 hts gL_step_X7_power rfl rfl rfl (by decide +kernel) ⟨Nat.le_of_ble_eq_true rfl, Nat.le_of_ble_eq_true rfl⟩) hP hK hD hS hA hGP 0 8 rfl rfl rfl rfl hl.1 rfl (Nat.le_of_ble_eq_true rfl) dL_step_456 ⟨Nat.le_of_ble_eq_true rfl, Nat.le_of_ble_eq_true rfl⟩ (fun _ => rfl) (fun u7 H locs hu hP hD hS => ?_)
    have hP : va_P G vwCl (wH ah y (sA S 3 (upZ (S.2.2 3) k (hdZ (((S.2.2 3) k) + ((bb % 13) - 6)) (-3) 3))) ++ dW o0 y d) H := hP
    have hD : va_D A (wH ah y (sA S 3 (upZ (S.2.2 3) k (hdZ (((S.2.2 3) k) + ((bb % 13) - 6)) (-3) 3))) ++ dW o0 y d) := hD
    refine hz_tope (z2 := (pwS S k 0)) (by rfl) ?_
    refine hz_if_le (tgt := 495) hx hb dL_step_459 (by decide) (by omega) (fun q => by exfalso; omega) (fun _ => ?_)
    refine lv_iload hx hb dL_step_462 (lv_at hl 0 rfl) ?_
    refine lv_aload_n hx hb dL_step_464 rfl (lv_at hl 2 rfl) ?_
    refine lv_iload hx hb dL_step_465 (lv_at hl 1 rfl) ?_
    refine hz_iconst hx hb dL_step_467 ?_
    refine hz_cI (As := [zi k, zi 3]) (rest := [zi ((hdZ (((S.2.2 3) k) + ((bb % 13) - 6)) (-3) 3) - ((S.2.2 4) k))]) ⟨hx, hb, hml, hown, hts⟩ (b_mirrorIs l hlt G ah zE y _ (sA S 3 (upZ (S.2.2 3) k (hdZ (((S.2.2 3) k) + ((bb % 13) - 6)) (-3) 3))) k (3 : Int) hI2 (show 0 ≤ k ∧ k < (S.2.1 0) by omega) (show 0 ≤ (3 : Int) ∧ (3 : Int) ≤ 7 by omega)) (cwV 2 hts gL_step_X7_mirrorIs rfl rfl rfl (by decide +kernel) ⟨Nat.le_of_ble_eq_true rfl, Nat.le_of_ble_eq_true rfl⟩) hP hK hD hS hA hGP 0 8 rfl rfl rfl rfl hl.1 rfl (Nat.le_of_ble_eq_true rfl) dL_step_468 ⟨Nat.le_of_ble_eq_true rfl, Nat.le_of_ble_eq_true rfl⟩ (fun _ => rfl) (fun u8 H locs hu hP hD hS => ?_)
    have hP : va_P G vwCl (wH ah y (sA S 3 (upZ (S.2.2 3) k (hdZ (((S.2.2 3) k) + ((bb % 13) - 6)) (-3) 3))) ++ dW o0 y d) H := hP
    have hD : va_D A (wH ah y (sA S 3 (upZ (S.2.2 3) k (hdZ (((S.2.2 3) k) + ((bb % 13) - 6)) (-3) 3))) ++ dW o0 y d) := hD
    refine hz_tope (z2 := ((S.2.2 4) k)) (by rfl) ?_
    refine hz_iadd hx hb dL_step_471 ?_
    refine hz_bipush hx hb dL_step_472 (by decide) ?_
    refine hz_icmp_lt (tgt := 495) hx hb dL_step_474 (by decide) (by omega) (fun q => by exfalso; omega) (fun _ => ?_)
    refine lv_iload hx hb dL_step_477 (lv_at hl 0 rfl) ?_
    refine lv_aload_n hx hb dL_step_479 rfl (lv_at hl 2 rfl) ?_
    refine lv_iload hx hb dL_step_480 (lv_at hl 1 rfl) ?_
    refine hz_iconst hx hb dL_step_482 ?_
    refine hz_cI (As := [zi k, zi 3]) (rest := [zi ((hdZ (((S.2.2 3) k) + ((bb % 13) - 6)) (-3) 3) - ((S.2.2 4) k))]) ⟨hx, hb, hml, hown, hts⟩ (b_mirrorIs l hlt G ah zE y _ (sA S 3 (upZ (S.2.2 3) k (hdZ (((S.2.2 3) k) + ((bb % 13) - 6)) (-3) 3))) k (3 : Int) hI2 (show 0 ≤ k ∧ k < (S.2.1 0) by omega) (show 0 ≤ (3 : Int) ∧ (3 : Int) ≤ 7 by omega)) (cwV 2 hts gL_step_X7_mirrorIs rfl rfl rfl (by decide +kernel) ⟨Nat.le_of_ble_eq_true rfl, Nat.le_of_ble_eq_true rfl⟩) hP hK hD hS hA hGP 0 8 rfl rfl rfl rfl hl.1 rfl (Nat.le_of_ble_eq_true rfl) dL_step_483 ⟨Nat.le_of_ble_eq_true rfl, Nat.le_of_ble_eq_true rfl⟩ (fun _ => rfl) (fun u9 H locs hu hP hD hS => ?_)
    have hP : va_P G vwCl (wH ah y (sA S 3 (upZ (S.2.2 3) k (hdZ (((S.2.2 3) k) + ((bb % 13) - 6)) (-3) 3))) ++ dW o0 y d) H := hP
    have hD : va_D A (wH ah y (sA S 3 (upZ (S.2.2 3) k (hdZ (((S.2.2 3) k) + ((bb % 13) - 6)) (-3) 3))) ++ dW o0 y d) := hD
    refine hz_tope (z2 := ((S.2.2 4) k)) (by rfl) ?_
    refine hz_iadd hx hb dL_step_486 ?_
    refine hz_iconst hx hb dL_step_487 ?_
    refine hz_icmp_gt (tgt := 495) hx hb dL_step_488 (by decide) (by omega) (fun q => by exfalso; omega) (fun _ => ?_)
    refine hz_iconst hx hb dL_step_491 ?_
    refine lv_goto (tgt := 496) hx hb dL_step_492 (by decide) ?_
    exact hz_upM (Nat.le_of_ble_eq_true rfl) (Nat.le_of_ble_eq_true rfl) (W.zret (ty := .boolean) (v := zI 1) hx hb hr (zI_nb (by omega)) (fun t ht hW => ⟨⟨zI 1, ((sA S 3 (upZ (S.2.2 3) k (hdZ (((S.2.2 3) k) + ((bb % 13) - 6)) (-3) 3))), d), rfl, ⟨rfl, hI2, hd, (show 1 ≤ (S.2.1 0) by omega)⟩, hz_at2 hP hD ht⟩, hS.F ht⟩) hS.2.2 dL_step_496)
  · have hc4 : (if ¬ (0 ≤ k ∧ k < (S.2.1 0)) then (1 : Int) else if ¬ (0 < (pwS S k 0)) then 2 else 0) = 2 := hc4
    have hP : va_P G vwCl (wH ah y (sA S 3 (upZ (S.2.2 3) k (hdZ (((S.2.2 3) k) + ((bb % 13) - 6)) (-3) 3))) ++ dW o0 y d) H := hP
    have hD : va_D A (wH ah y (sA S 3 (upZ (S.2.2 3) k (hdZ (((S.2.2 3) k) + ((bb % 13) - 6)) (-3) 3))) ++ dW o0 y d) := hD
    refine lv_istore (lv' := [(12, zi (-200)), (5, zi k), (0, .ref (ah 0)), (1, .ref o0), (2, zi what), (3, zi a), (4, zi bb)]) hx hb dL_step_424 hl (by decide) rfl (fun ls hl => ?_)
    refine lv_iload hx hb dL_step_426 (lv_at hl 0 rfl) ?_
    refine hz_sipush hx hb dL_step_428 (by decide) ?_
    refine hz_icmp_ne (tgt := 452) hx hb dL_step_431 (by decide) (by omega) (fun q => by exfalso; omega) (fun _ => ?_)
    refine lv_aload_n hx hb dL_step_434 rfl (lv_at hl 2 rfl) ?_
    refine lv_iload hx hb dL_step_435 (lv_at hl 1 rfl) ?_
    refine hz_iconst hx hb dL_step_437 ?_
    refine hz_cI (As := [zi k, zi 0]) (rest := []) ⟨hx, hb, hml, hown, hts⟩ (b_power l hlt G ah zE y _ (sA S 3 (upZ (S.2.2 3) k (hdZ (((S.2.2 3) k) + ((bb % 13) - 6)) (-3) 3))) k (0 : Int) hI2 (show 0 ≤ k ∧ k < (S.2.1 0) by omega) (show 0 ≤ (0 : Int) ∧ (0 : Int) ≤ 24 by omega)) (cwV 2 hts gL_step_X7_power rfl rfl rfl (by decide +kernel) ⟨Nat.le_of_ble_eq_true rfl, Nat.le_of_ble_eq_true rfl⟩) hP hK hD hS hA hGP 0 8 rfl rfl rfl rfl hl.1 rfl (Nat.le_of_ble_eq_true rfl) dL_step_438 ⟨Nat.le_of_ble_eq_true rfl, Nat.le_of_ble_eq_true rfl⟩ (fun _ => rfl) (fun u10 H locs hu hP hD hS => ?_)
    have hP : va_P G vwCl (wH ah y (sA S 3 (upZ (S.2.2 3) k (hdZ (((S.2.2 3) k) + ((bb % 13) - 6)) (-3) 3))) ++ dW o0 y d) H := hP
    have hD : va_D A (wH ah y (sA S 3 (upZ (S.2.2 3) k (hdZ (((S.2.2 3) k) + ((bb % 13) - 6)) (-3) 3))) ++ dW o0 y d) := hD
    refine hz_tope (z2 := (pwS S k 0)) (by rfl) ?_
    refine hz_if_ne (tgt := 448) hx hb dL_step_441 (by decide) (by omega) (fun q => by exfalso; omega) (fun _ => ?_)
    refine hz_iconst hx hb dL_step_444 ?_
    refine lv_goto (tgt := 496) hx hb dL_step_445 (by decide) ?_
    exact hz_upM (Nat.le_of_ble_eq_true rfl) (Nat.le_of_ble_eq_true rfl) (W.zret (ty := .boolean) (v := zI 1) hx hb hr (zI_nb (by omega)) (fun t ht hW => ⟨⟨zI 1, ((sA S 3 (upZ (S.2.2 3) k (hdZ (((S.2.2 3) k) + ((bb % 13) - 6)) (-3) 3))), d), rfl, ⟨rfl, hI2, hd, (show 1 ≤ (S.2.1 0) by omega)⟩, hz_at2 hP hD ht⟩, hS.F ht⟩) hS.2.2 dL_step_496)
set_option maxHeartbeats 32000000 in
set_option maxRecDepth 100000 in
theorem st_correct {p : Program} {l : Launch} {e : Env} {s : State} {m : MethodId} {below : List Frame} {meth : Method} {c : Code} {A : Nat → Prop} {G : va_G} {mi zE : Nat} {y : Nat → ClassId} {ah : Nat → Nat} {o0 : Nat} {S : ST} {d : Int → Int} {what a bb : Int} {k : Int} (hQ : LC p l s m meth c A G mi zE y 33 cL_step wsL_step [.ref (ah 0), .ref o0, zi what, zi a, zi bb] (some .boolean)) (hI : FC zE S) (hd : FD S d) (ha : 0 ≤ a ∧ a < 2147483648) (hbb : 0 ≤ bb ∧ bb < 2147483648) (hk : 0 ≤ k ∧ k < S.2.1 0) (hP : va_P G vwCl (wH ah y S ++ dW o0 y d) s.heap) (hD : va_D A (wH ah y S ++ dW o0 y d)) : ∀ ls : Array Slot, lv_has ls 33 [(5, zi k), (0, .ref (ah 0)), (1, .ref o0), (2, zi what), (3, zi a), (4, zi bb)] → W p l e (headSpec wsL_step ({ frames := 15, cells := 1250, slots := 7500, locals := 620 })).room s m ([.ref (ah 0), .ref o0, zi what, zi a, zi bb] : List Value).toArray below meth c s.heap [] 0 0 (MQ below (Q_step G ah zE y o0 A) ([.ref (ah 0), .ref o0, zi what, zi a, zi bb] : List Value).toArray s 1250 7500 A) (F0 m 497 ls []) := by
  intro ls hl
  obtain ⟨hx, hb, hr, hts, hown, hlocks, hml, hK, hA, hGP, hX, hGN, hlt⟩ := hQ
  have hS : va_S A s.heap s.heap [] := va_S.rf
  have qN := hI.N
  have qC := hI.C
  have qNow := hI.Now
  have qHz := hI.Haze
  have qS := hI.Salt
  have qP := hI.Pipe
  have qTc := hI.Trc
  have qTb := hI.Turb
  have qLd := hI.Load
  have qTL := hI.TL
  have qW := hI.Water
  have qD0 := hd.D0
  have qD1 := hd.D1
  have qD2 := hd.D2
  have qD3 := hd.D3
  have qst := strZ_rng (S.2.1 2)
  have kE := hI.Err k
  have kC := hI.Cor k
  have kA := hI.Aim k
  have kB := hI.Brk k
  have kD := hI.Dirt k
  have kP := pwS_rng hI k 0
  have kL := hI.Cell k
  refine lv_aload_n hx hb dL_step_497 rfl (lv_at hl 1 rfl) ?_
  refine lv_iload hx hb dL_step_498 (lv_at hl 0 rfl) ?_
  refine hz_iconst hx hb dL_step_500 ?_
  refine hz_iconst hx hb dL_step_501 ?_
  refine hz_lawL (As := [.ref (ah 0), zi k, zi 0, zi 3]) (rest := []) ⟨hx, hb, hml, hown, hts⟩ (c_acts3 l hlt G ah mi zE y _ S k (0 : Int) hI (show 0 ≤ k ∧ k < (S.2.1 0) by omega)) (vx_cwSW 4 hts gL_step_L_acts rfl rfl rfl (by decide +kernel) ⟨Nat.le_of_ble_eq_true rfl, Nat.le_of_ble_eq_true rfl⟩) hP hK hD hS hA hGP hX hGN rfl hl.1 rfl (Nat.le_of_ble_eq_true rfl) dL_step_502 ⟨Nat.le_of_ble_eq_true rfl, Nat.le_of_ble_eq_true rfl⟩ (fun r u1 H locs hu hP hD hS => ?_)
  rcases hu with ⟨hc2, rfl⟩ | ⟨hc2, rfl⟩
  · have hc2 : (if ¬ (0 ≤ k ∧ k < (S.2.1 0)) then (1 : Int) else if ¬ (0 < (pwS S k 0)) then 2 else 0) = 0 := hc2
    have hP : va_P G vwCl (wH ah y S ++ dW o0 y d) H := hP
    have hD : va_D A (wH ah y S ++ dW o0 y d) := hD
    refine hz_tope (z2 := (((S.2.2 3) k) - ((S.2.2 4) k))) (by first | rfl | (show (S.2.2 3) k - (S.2.2 4) k = ((S.2.2 3) k) - ((S.2.2 4) k); rw [upZ_s rfl])) ?_
    refine lv_istore (lv' := [(13, zi (((S.2.2 3) k) - ((S.2.2 4) k))), (5, zi k), (0, .ref (ah 0)), (1, .ref o0), (2, zi what), (3, zi a), (4, zi bb)]) hx hb dL_step_505 hl (by decide) rfl (fun ls hl => ?_)
    refine lv_aload_n hx hb dL_step_507 rfl (lv_at hl 2 rfl) ?_
    refine lv_iload hx hb dL_step_508 (lv_at hl 1 rfl) ?_
    refine lv_iload hx hb dL_step_510 (lv_at hl 6 rfl) ?_
    refine hz_bipush hx hb dL_step_512 (by decide) ?_
    refine hz_irem hx hb dL_step_514 (by omega) ?_
    refine hz_iconst hx hb dL_step_515 ?_
    refine hz_isub hx hb dL_step_516 ?_
    refine hz_cI (As := [zi k, zi ((bb % 7) - 3)]) (rest := []) ⟨hx, hb, hml, hown, hts⟩ (b_correct l hlt G ah zE y _ S k ((bb % 7) - 3) hI (show 0 ≤ k ∧ k < (S.2.1 0) by omega) (show -3 ≤ ((bb % 7) - 3) ∧ ((bb % 7) - 3) ≤ 3 by omega)) (cwV 2 hts gL_step_X7_correct rfl rfl rfl (by decide +kernel) ⟨Nat.le_of_ble_eq_true rfl, Nat.le_of_ble_eq_true rfl⟩) hP hK hD hS hA hGP 0 8 rfl rfl rfl rfl hl.1 rfl (Nat.le_of_ble_eq_true rfl) dL_step_517 ⟨Nat.le_of_ble_eq_true rfl, Nat.le_of_ble_eq_true rfl⟩ (fun _ => wH_fst rfl rfl rfl) (fun u5 H locs hu hP hD hS => ?_)
    have hI6 : FC zE (sA S 4 (upZ (S.2.2 4) k ((bb % 7) - 3))) := (fc_correct k ((bb % 7) - 3) hI (by omega) (by omega))
    have hP : va_P G vwCl (wH ah y (sA S 4 (upZ (S.2.2 4) k ((bb % 7) - 3))) ++ dW o0 y d) H := hP
    have hD : va_D A (wH ah y (sA S 4 (upZ (S.2.2 4) k ((bb % 7) - 3))) ++ dW o0 y d) := hD
    refine hz_tope (z2 := ((S.2.2 4) k)) (by rfl) ?_
    refine lv_istore (lv' := [(14, zi ((S.2.2 4) k)), (13, zi (((S.2.2 3) k) - ((S.2.2 4) k))), (5, zi k), (0, .ref (ah 0)), (1, .ref o0), (2, zi what), (3, zi a), (4, zi bb)]) hx hb dL_step_520 hl (by decide) rfl (fun ls hl => ?_)
    refine lv_aload_n hx hb dL_step_522 rfl (lv_at hl 3 rfl) ?_
    refine lv_iload hx hb dL_step_523 (lv_at hl 2 rfl) ?_
    refine hz_iconst hx hb dL_step_525 ?_
    refine hz_cI (As := [zi k, zi 3]) (rest := []) ⟨hx, hb, hml, hown, hts⟩ (b_mirrorIs l hlt G ah zE y _ (sA S 4 (upZ (S.2.2 4) k ((bb % 7) - 3))) k (3 : Int) hI6 (show 0 ≤ k ∧ k < (S.2.1 0) by omega) (show 0 ≤ (3 : Int) ∧ (3 : Int) ≤ 7 by omega)) (cwV 2 hts gL_step_X7_mirrorIs rfl rfl rfl (by decide +kernel) ⟨Nat.le_of_ble_eq_true rfl, Nat.le_of_ble_eq_true rfl⟩) hP hK hD hS hA hGP 0 8 rfl rfl rfl rfl hl.1 rfl (Nat.le_of_ble_eq_true rfl) dL_step_526 ⟨Nat.le_of_ble_eq_true rfl, Nat.le_of_ble_eq_true rfl⟩ (fun _ => rfl) (fun u7 H locs hu hP hD hS => ?_)
    have hP : va_P G vwCl (wH ah y (sA S 4 (upZ (S.2.2 4) k ((bb % 7) - 3))) ++ dW o0 y d) H := hP
    have hD : va_D A (wH ah y (sA S 4 (upZ (S.2.2 4) k ((bb % 7) - 3))) ++ dW o0 y d) := hD
    refine hz_tope (z2 := ((bb % 7) - 3)) (by exact (upZ_s rfl)) ?_
    refine lv_iload hx hb dL_step_529 (lv_at hl 7 rfl) ?_
    refine hz_bipush hx hb dL_step_531 (by decide) ?_
    refine hz_irem hx hb dL_step_533 (by omega) ?_
    refine hz_iconst hx hb dL_step_534 ?_
    refine hz_isub hx hb dL_step_535 ?_
    refine hz_icmp_ne (tgt := 575) hx hb dL_step_536 (by decide) (by omega) (fun q => by exfalso; omega) (fun _ => ?_)
    refine lv_iload hx hb dL_step_539 (lv_at hl 1 rfl) ?_
    refine hz_sipush hx hb dL_step_541 (by decide) ?_
    refine hz_icmp_eq (tgt := 571) hx hb dL_step_544 (by decide) (by omega) (fun q => by exfalso; omega) (fun _ => ?_)
    refine lv_aload_n hx hb dL_step_547 rfl (lv_at hl 3 rfl) ?_
    refine lv_iload hx hb dL_step_548 (lv_at hl 2 rfl) ?_
    refine hz_iconst hx hb dL_step_550 ?_
    refine hz_iconst hx hb dL_step_551 ?_
    refine hz_lawL (As := [.ref (ah 0), zi k, zi 0, zi 3]) (rest := []) ⟨hx, hb, hml, hown, hts⟩ (c_acts3 l hlt G ah mi zE y _ (sA S 4 (upZ (S.2.2 4) k ((bb % 7) - 3))) k (0 : Int) hI6 (show 0 ≤ k ∧ k < (S.2.1 0) by omega)) (vx_cwSW 4 hts gL_step_L_acts rfl rfl rfl (by decide +kernel) ⟨Nat.le_of_ble_eq_true rfl, Nat.le_of_ble_eq_true rfl⟩) hP hK hD hS hA hGP hX hGN rfl hl.1 rfl (Nat.le_of_ble_eq_true rfl) dL_step_552 ⟨Nat.le_of_ble_eq_true rfl, Nat.le_of_ble_eq_true rfl⟩ (fun r u8 H locs hu hP hD hS => ?_)
    rcases hu with ⟨hc9, rfl⟩ | ⟨hc9, rfl⟩
    · have hc9 : (if ¬ (0 ≤ k ∧ k < (S.2.1 0)) then (1 : Int) else if ¬ (0 < (pwS S k 0)) then 2 else 0) = 0 := hc9
      have hP : va_P G vwCl (wH ah y (sA S 4 (upZ (S.2.2 4) k ((bb % 7) - 3))) ++ dW o0 y d) H := hP
      have hD : va_D A (wH ah y (sA S 4 (upZ (S.2.2 4) k ((bb % 7) - 3))) ++ dW o0 y d) := hD
      refine hz_tope (z2 := (((S.2.2 3) k) - ((bb % 7) - 3))) (by first | rfl | (show (S.2.2 3) k - (upZ (S.2.2 4) k ((bb % 7) - 3)) k = ((S.2.2 3) k) - ((bb % 7) - 3); rw [upZ_s rfl])) ?_
      refine lv_iload hx hb dL_step_555 (lv_at hl 1 rfl) ?_
      refine lv_iload hx hb dL_step_557 (lv_at hl 0 rfl) ?_
      refine hz_iadd hx hb dL_step_559 ?_
      refine lv_iload hx hb dL_step_560 (lv_at hl 7 rfl) ?_
      refine hz_bipush hx hb dL_step_562 (by decide) ?_
      refine hz_irem hx hb dL_step_564 (by omega) ?_
      refine hz_isub hx hb dL_step_565 ?_
      refine hz_iconst hx hb dL_step_566 ?_
      refine hz_iadd hx hb dL_step_567 ?_
      refine hz_icmp_ne (tgt := 575) hx hb dL_step_568 (by decide) (by omega) (fun q => by exfalso; omega) (fun _ => ?_)
      refine hz_iconst hx hb dL_step_571 ?_
      refine lv_goto (tgt := 576) hx hb dL_step_572 (by decide) ?_
      exact hz_upM (Nat.le_of_ble_eq_true rfl) (Nat.le_of_ble_eq_true rfl) (W.zret (ty := .boolean) (v := zI 1) hx hb hr (zI_nb (by omega)) (fun t ht hW => ⟨⟨zI 1, ((sA S 4 (upZ (S.2.2 4) k ((bb % 7) - 3))), d), rfl, ⟨rfl, hI6, hd, (show 1 ≤ (S.2.1 0) by omega)⟩, hz_at2 hP hD ht⟩, hS.F ht⟩) hS.2.2 dL_step_576)
    · have hc9 : (if ¬ (0 ≤ k ∧ k < (S.2.1 0)) then (1 : Int) else if ¬ (0 < (pwS S k 0)) then 2 else 0) = 2 := hc9
      exfalso
      omega
  · have hc2 : (if ¬ (0 ≤ k ∧ k < (S.2.1 0)) then (1 : Int) else if ¬ (0 < (pwS S k 0)) then 2 else 0) = 2 := hc2
    have hP : va_P G vwCl (wH ah y S ++ dW o0 y d) H := hP
    have hD : va_D A (wH ah y S ++ dW o0 y d) := hD
    refine lv_istore (lv' := [(13, zi (-200)), (5, zi k), (0, .ref (ah 0)), (1, .ref o0), (2, zi what), (3, zi a), (4, zi bb)]) hx hb dL_step_505 hl (by decide) rfl (fun ls hl => ?_)
    refine lv_aload_n hx hb dL_step_507 rfl (lv_at hl 2 rfl) ?_
    refine lv_iload hx hb dL_step_508 (lv_at hl 1 rfl) ?_
    refine lv_iload hx hb dL_step_510 (lv_at hl 6 rfl) ?_
    refine hz_bipush hx hb dL_step_512 (by decide) ?_
    refine hz_irem hx hb dL_step_514 (by omega) ?_
    refine hz_iconst hx hb dL_step_515 ?_
    refine hz_isub hx hb dL_step_516 ?_
    refine hz_cI (As := [zi k, zi ((bb % 7) - 3)]) (rest := []) ⟨hx, hb, hml, hown, hts⟩ (b_correct l hlt G ah zE y _ S k ((bb % 7) - 3) hI (show 0 ≤ k ∧ k < (S.2.1 0) by omega) (show -3 ≤ ((bb % 7) - 3) ∧ ((bb % 7) - 3) ≤ 3 by omega)) (cwV 2 hts gL_step_X7_correct rfl rfl rfl (by decide +kernel) ⟨Nat.le_of_ble_eq_true rfl, Nat.le_of_ble_eq_true rfl⟩) hP hK hD hS hA hGP 0 8 rfl rfl rfl rfl hl.1 rfl (Nat.le_of_ble_eq_true rfl) dL_step_517 ⟨Nat.le_of_ble_eq_true rfl, Nat.le_of_ble_eq_true rfl⟩ (fun _ => wH_fst rfl rfl rfl) (fun u12 H locs hu hP hD hS => ?_)
    have hI13 : FC zE (sA S 4 (upZ (S.2.2 4) k ((bb % 7) - 3))) := (fc_correct k ((bb % 7) - 3) hI (by omega) (by omega))
    have hP : va_P G vwCl (wH ah y (sA S 4 (upZ (S.2.2 4) k ((bb % 7) - 3))) ++ dW o0 y d) H := hP
    have hD : va_D A (wH ah y (sA S 4 (upZ (S.2.2 4) k ((bb % 7) - 3))) ++ dW o0 y d) := hD
    refine hz_tope (z2 := ((S.2.2 4) k)) (by rfl) ?_
    refine lv_istore (lv' := [(14, zi ((S.2.2 4) k)), (13, zi (-200)), (5, zi k), (0, .ref (ah 0)), (1, .ref o0), (2, zi what), (3, zi a), (4, zi bb)]) hx hb dL_step_520 hl (by decide) rfl (fun ls hl => ?_)
    refine lv_aload_n hx hb dL_step_522 rfl (lv_at hl 3 rfl) ?_
    refine lv_iload hx hb dL_step_523 (lv_at hl 2 rfl) ?_
    refine hz_iconst hx hb dL_step_525 ?_
    refine hz_cI (As := [zi k, zi 3]) (rest := []) ⟨hx, hb, hml, hown, hts⟩ (b_mirrorIs l hlt G ah zE y _ (sA S 4 (upZ (S.2.2 4) k ((bb % 7) - 3))) k (3 : Int) hI13 (show 0 ≤ k ∧ k < (S.2.1 0) by omega) (show 0 ≤ (3 : Int) ∧ (3 : Int) ≤ 7 by omega)) (cwV 2 hts gL_step_X7_mirrorIs rfl rfl rfl (by decide +kernel) ⟨Nat.le_of_ble_eq_true rfl, Nat.le_of_ble_eq_true rfl⟩) hP hK hD hS hA hGP 0 8 rfl rfl rfl rfl hl.1 rfl (Nat.le_of_ble_eq_true rfl) dL_step_526 ⟨Nat.le_of_ble_eq_true rfl, Nat.le_of_ble_eq_true rfl⟩ (fun _ => rfl) (fun u14 H locs hu hP hD hS => ?_)
    have hP : va_P G vwCl (wH ah y (sA S 4 (upZ (S.2.2 4) k ((bb % 7) - 3))) ++ dW o0 y d) H := hP
    have hD : va_D A (wH ah y (sA S 4 (upZ (S.2.2 4) k ((bb % 7) - 3))) ++ dW o0 y d) := hD
    refine hz_tope (z2 := ((bb % 7) - 3)) (by exact (upZ_s rfl)) ?_
    refine lv_iload hx hb dL_step_529 (lv_at hl 7 rfl) ?_
    refine hz_bipush hx hb dL_step_531 (by decide) ?_
    refine hz_irem hx hb dL_step_533 (by omega) ?_
    refine hz_iconst hx hb dL_step_534 ?_
    refine hz_isub hx hb dL_step_535 ?_
    refine hz_icmp_ne (tgt := 575) hx hb dL_step_536 (by decide) (by omega) (fun q => by exfalso; omega) (fun _ => ?_)
    refine lv_iload hx hb dL_step_539 (lv_at hl 1 rfl) ?_
    refine hz_sipush hx hb dL_step_541 (by decide) ?_
    refine hz_icmp_eq (tgt := 571) hx hb dL_step_544 (by decide) (by omega) (fun _ => ?_) (fun q => by exfalso; omega)
    refine hz_iconst hx hb dL_step_571 ?_
    refine lv_goto (tgt := 576) hx hb dL_step_572 (by decide) ?_
    exact hz_upM (Nat.le_of_ble_eq_true rfl) (Nat.le_of_ble_eq_true rfl) (W.zret (ty := .boolean) (v := zI 1) hx hb hr (zI_nb (by omega)) (fun t ht hW => ⟨⟨zI 1, ((sA S 4 (upZ (S.2.2 4) k ((bb % 7) - 3))), d), rfl, ⟨rfl, hI13, hd, (show 1 ≤ (S.2.1 0) by omega)⟩, hz_at2 hP hD ht⟩, hS.F ht⟩) hS.2.2 dL_step_576)
set_option maxHeartbeats 32000000 in
set_option maxRecDepth 100000 in
theorem st_fail {p : Program} {l : Launch} {e : Env} {s : State} {m : MethodId} {below : List Frame} {meth : Method} {c : Code} {A : Nat → Prop} {G : va_G} {mi zE : Nat} {y : Nat → ClassId} {ah : Nat → Nat} {o0 : Nat} {S : ST} {d : Int → Int} {what a bb : Int} {k : Int} (hQ : LC p l s m meth c A G mi zE y 33 cL_step wsL_step [.ref (ah 0), .ref o0, zi what, zi a, zi bb] (some .boolean)) (hI : FC zE S) (hd : FD S d) (ha : 0 ≤ a ∧ a < 2147483648) (hbb : 0 ≤ bb ∧ bb < 2147483648) (hk : 0 ≤ k ∧ k < S.2.1 0) (hP : va_P G vwCl (wH ah y S ++ dW o0 y d) s.heap) (hD : va_D A (wH ah y S ++ dW o0 y d)) : ∀ ls : Array Slot, lv_has ls 33 [(5, zi k), (0, .ref (ah 0)), (1, .ref o0), (2, zi what), (3, zi a), (4, zi bb)] → W p l e (headSpec wsL_step ({ frames := 15, cells := 1250, slots := 7500, locals := 620 })).room s m ([.ref (ah 0), .ref o0, zi what, zi a, zi bb] : List Value).toArray below meth c s.heap [] 0 0 (MQ below (Q_step G ah zE y o0 A) ([.ref (ah 0), .ref o0, zi what, zi a, zi bb] : List Value).toArray s 1250 7500 A) (F0 m 577 ls []) := by
  intro ls hl
  obtain ⟨hx, hb, hr, hts, hown, hlocks, hml, hK, hA, hGP, hX, hGN, hlt⟩ := hQ
  have hS : va_S A s.heap s.heap [] := va_S.rf
  have qN := hI.N
  have qC := hI.C
  have qNow := hI.Now
  have qHz := hI.Haze
  have qS := hI.Salt
  have qP := hI.Pipe
  have qTc := hI.Trc
  have qTb := hI.Turb
  have qLd := hI.Load
  have qTL := hI.TL
  have qW := hI.Water
  have qD0 := hd.D0
  have qD1 := hd.D1
  have qD2 := hd.D2
  have qD3 := hd.D3
  have qst := strZ_rng (S.2.1 2)
  have kE := hI.Err k
  have kC := hI.Cor k
  have kA := hI.Aim k
  have kB := hI.Brk k
  have kD := hI.Dirt k
  have kP := pwS_rng hI k 0
  have kL := hI.Cell k
  refine lv_aload_n hx hb dL_step_577 rfl (lv_at hl 1 rfl) ?_
  refine lv_iload hx hb dL_step_578 (lv_at hl 0 rfl) ?_
  refine hz_iconst hx hb dL_step_580 ?_
  refine hz_cI (As := [zi k, zi 4]) (rest := []) ⟨hx, hb, hml, hown, hts⟩ (b_mirrorIs l hlt G ah zE y _ S k (4 : Int) hI (show 0 ≤ k ∧ k < (S.2.1 0) by omega) (show 0 ≤ (4 : Int) ∧ (4 : Int) ≤ 7 by omega)) (cwV 2 hts gL_step_X7_mirrorIs rfl rfl rfl (by decide +kernel) ⟨Nat.le_of_ble_eq_true rfl, Nat.le_of_ble_eq_true rfl⟩) hP hK hD hS hA hGP 0 8 rfl rfl rfl rfl hl.1 rfl (Nat.le_of_ble_eq_true rfl) dL_step_581 ⟨Nat.le_of_ble_eq_true rfl, Nat.le_of_ble_eq_true rfl⟩ (fun _ => rfl) (fun u1 H locs hu hP hD hS => ?_)
  have hP : va_P G vwCl (wH ah y S ++ dW o0 y d) H := hP
  have hD : va_D A (wH ah y S ++ dW o0 y d) := hD
  refine hz_tope (z2 := ((S.2.2 5) k)) (by rfl) ?_
  refine hz_iconst hx hb dL_step_584 ?_
  refine hz_icmp_ne (tgt := 592) hx hb dL_step_585 (by decide) (by omega) (fun c2 => ?_) (fun c2 => ?_)
  · refine hz_iconst hx hb dL_step_592 ?_
    refine lv_istore (lv' := [(15, zi 0), (5, zi k), (0, .ref (ah 0)), (1, .ref o0), (2, zi what), (3, zi a), (4, zi bb)]) hx hb dL_step_593 hl (by decide) rfl (fun ls hl => ?_)
    refine lv_aload_n hx hb dL_step_595 rfl (lv_at hl 2 rfl) ?_
    refine lv_iload hx hb dL_step_596 (lv_at hl 1 rfl) ?_
    refine lv_iload hx hb dL_step_598 (lv_at hl 6 rfl) ?_
    refine hz_iconst hx hb dL_step_600 ?_
    refine hz_irem hx hb dL_step_601 (by omega) ?_
    refine hz_if_ne (tgt := 609) hx hb dL_step_602 (by decide) (by omega) (fun c3 => ?_) (fun c3 => ?_)
    · refine hz_iconst hx hb dL_step_609 ?_
      refine hz_cI (As := [zi k, zi 0]) (rest := []) ⟨hx, hb, hml, hown, hts⟩ (b_fail l hlt G ah zE y _ S k (0 : Int) hI (show 0 ≤ k ∧ k < (S.2.1 0) by omega) (show (0 : Int) = 0 ∨ (0 : Int) = 1 by omega)) (cwV 2 hts gL_step_X7_fail rfl rfl rfl (by decide +kernel) ⟨Nat.le_of_ble_eq_true rfl, Nat.le_of_ble_eq_true rfl⟩) hP hK hD hS hA hGP 0 8 rfl rfl rfl rfl hl.1 rfl (Nat.le_of_ble_eq_true rfl) dL_step_610 ⟨Nat.le_of_ble_eq_true rfl, Nat.le_of_ble_eq_true rfl⟩ (fun _ => wH_fst rfl rfl rfl) (fun u4 H locs hu hP hD hS => ?_)
      have hI5 : FC zE (sA S 5 (upZ (S.2.2 5) k 0)) := (fc_fail k (0 : Int) hI (by omega) (by omega))
      have hP : va_P G vwCl (wH ah y (sA S 5 (upZ (S.2.2 5) k 0)) ++ dW o0 y d) H := hP
      have hD : va_D A (wH ah y (sA S 5 (upZ (S.2.2 5) k 0)) ++ dW o0 y d) := hD
      refine hz_tope (z2 := ((S.2.2 5) k)) (by rfl) ?_
      refine lv_iload hx hb dL_step_613 (lv_at hl 0 rfl) ?_
      refine hz_icmp_ne (tgt := 644) hx hb dL_step_615 (by decide) (by omega) (fun q => by exfalso; omega) (fun _ => ?_)
      refine lv_aload_n hx hb dL_step_618 rfl (lv_at hl 2 rfl) ?_
      refine lv_iload hx hb dL_step_619 (lv_at hl 1 rfl) ?_
      refine hz_iconst hx hb dL_step_621 ?_
      refine hz_cI (As := [zi k, zi 4]) (rest := []) ⟨hx, hb, hml, hown, hts⟩ (b_mirrorIs l hlt G ah zE y _ (sA S 5 (upZ (S.2.2 5) k 0)) k (4 : Int) hI5 (show 0 ≤ k ∧ k < (S.2.1 0) by omega) (show 0 ≤ (4 : Int) ∧ (4 : Int) ≤ 7 by omega)) (cwV 2 hts gL_step_X7_mirrorIs rfl rfl rfl (by decide +kernel) ⟨Nat.le_of_ble_eq_true rfl, Nat.le_of_ble_eq_true rfl⟩) hP hK hD hS hA hGP 0 8 rfl rfl rfl rfl hl.1 rfl (Nat.le_of_ble_eq_true rfl) dL_step_622 ⟨Nat.le_of_ble_eq_true rfl, Nat.le_of_ble_eq_true rfl⟩ (fun _ => rfl) (fun u6 H locs hu hP hD hS => ?_)
      have hP : va_P G vwCl (wH ah y (sA S 5 (upZ (S.2.2 5) k 0)) ++ dW o0 y d) H := hP
      have hD : va_D A (wH ah y (sA S 5 (upZ (S.2.2 5) k 0)) ++ dW o0 y d) := hD
      refine hz_tope (z2 := 0) (by exact (upZ_s rfl)) ?_
      refine lv_iload hx hb dL_step_625 (lv_at hl 6 rfl) ?_
      refine hz_iconst hx hb dL_step_627 ?_
      refine hz_irem hx hb dL_step_628 (by omega) ?_
      refine hz_if_ne (tgt := 636) hx hb dL_step_629 (by decide) (by omega) (fun _ => ?_) (fun q => by exfalso; omega)
      refine hz_iconst hx hb dL_step_636 ?_
      refine hz_icmp_ne (tgt := 644) hx hb dL_step_637 (by decide) (by omega) (fun q => by exfalso; omega) (fun _ => ?_)
      refine hz_iconst hx hb dL_step_640 ?_
      refine lv_goto (tgt := 645) hx hb dL_step_641 (by decide) ?_
      exact hz_upM (Nat.le_of_ble_eq_true rfl) (Nat.le_of_ble_eq_true rfl) (W.zret (ty := .boolean) (v := zI 1) hx hb hr (zI_nb (by omega)) (fun t ht hW => ⟨⟨zI 1, ((sA S 5 (upZ (S.2.2 5) k 0)), d), rfl, ⟨rfl, hI5, hd, (show 1 ≤ (S.2.1 0) by omega)⟩, hz_at2 hP hD ht⟩, hS.F ht⟩) hS.2.2 dL_step_645)
    · refine hz_iconst hx hb dL_step_605 ?_
      refine lv_goto (tgt := 610) hx hb dL_step_606 (by decide) ?_
      refine hz_cI (As := [zi k, zi 1]) (rest := []) ⟨hx, hb, hml, hown, hts⟩ (b_fail l hlt G ah zE y _ S k (1 : Int) hI (show 0 ≤ k ∧ k < (S.2.1 0) by omega) (show (1 : Int) = 0 ∨ (1 : Int) = 1 by omega)) (cwV 2 hts gL_step_X7_fail rfl rfl rfl (by decide +kernel) ⟨Nat.le_of_ble_eq_true rfl, Nat.le_of_ble_eq_true rfl⟩) hP hK hD hS hA hGP 0 8 rfl rfl rfl rfl hl.1 rfl (Nat.le_of_ble_eq_true rfl) dL_step_610 ⟨Nat.le_of_ble_eq_true rfl, Nat.le_of_ble_eq_true rfl⟩ (fun _ => wH_fst rfl rfl rfl) (fun u7 H locs hu hP hD hS => ?_)
      have hI8 : FC zE (sA S 5 (upZ (S.2.2 5) k 1)) := (fc_fail k (1 : Int) hI (by omega) (by omega))
      have hP : va_P G vwCl (wH ah y (sA S 5 (upZ (S.2.2 5) k 1)) ++ dW o0 y d) H := hP
      have hD : va_D A (wH ah y (sA S 5 (upZ (S.2.2 5) k 1)) ++ dW o0 y d) := hD
      refine hz_tope (z2 := ((S.2.2 5) k)) (by rfl) ?_
      refine lv_iload hx hb dL_step_613 (lv_at hl 0 rfl) ?_
      refine hz_icmp_ne (tgt := 644) hx hb dL_step_615 (by decide) (by omega) (fun q => by exfalso; omega) (fun _ => ?_)
      refine lv_aload_n hx hb dL_step_618 rfl (lv_at hl 2 rfl) ?_
      refine lv_iload hx hb dL_step_619 (lv_at hl 1 rfl) ?_
      refine hz_iconst hx hb dL_step_621 ?_
      refine hz_cI (As := [zi k, zi 4]) (rest := []) ⟨hx, hb, hml, hown, hts⟩ (b_mirrorIs l hlt G ah zE y _ (sA S 5 (upZ (S.2.2 5) k 1)) k (4 : Int) hI8 (show 0 ≤ k ∧ k < (S.2.1 0) by omega) (show 0 ≤ (4 : Int) ∧ (4 : Int) ≤ 7 by omega)) (cwV 2 hts gL_step_X7_mirrorIs rfl rfl rfl (by decide +kernel) ⟨Nat.le_of_ble_eq_true rfl, Nat.le_of_ble_eq_true rfl⟩) hP hK hD hS hA hGP 0 8 rfl rfl rfl rfl hl.1 rfl (Nat.le_of_ble_eq_true rfl) dL_step_622 ⟨Nat.le_of_ble_eq_true rfl, Nat.le_of_ble_eq_true rfl⟩ (fun _ => rfl) (fun u9 H locs hu hP hD hS => ?_)
      have hP : va_P G vwCl (wH ah y (sA S 5 (upZ (S.2.2 5) k 1)) ++ dW o0 y d) H := hP
      have hD : va_D A (wH ah y (sA S 5 (upZ (S.2.2 5) k 1)) ++ dW o0 y d) := hD
      refine hz_tope (z2 := 1) (by exact (upZ_s rfl)) ?_
      refine lv_iload hx hb dL_step_625 (lv_at hl 6 rfl) ?_
      refine hz_iconst hx hb dL_step_627 ?_
      refine hz_irem hx hb dL_step_628 (by omega) ?_
      refine hz_if_ne (tgt := 636) hx hb dL_step_629 (by decide) (by omega) (fun q => by exfalso; omega) (fun _ => ?_)
      refine hz_iconst hx hb dL_step_632 ?_
      refine lv_goto (tgt := 637) hx hb dL_step_633 (by decide) ?_
      refine hz_icmp_ne (tgt := 644) hx hb dL_step_637 (by decide) (by omega) (fun q => by exfalso; omega) (fun _ => ?_)
      refine hz_iconst hx hb dL_step_640 ?_
      refine lv_goto (tgt := 645) hx hb dL_step_641 (by decide) ?_
      exact hz_upM (Nat.le_of_ble_eq_true rfl) (Nat.le_of_ble_eq_true rfl) (W.zret (ty := .boolean) (v := zI 1) hx hb hr (zI_nb (by omega)) (fun t ht hW => ⟨⟨zI 1, ((sA S 5 (upZ (S.2.2 5) k 1)), d), rfl, ⟨rfl, hI8, hd, (show 1 ≤ (S.2.1 0) by omega)⟩, hz_at2 hP hD ht⟩, hS.F ht⟩) hS.2.2 dL_step_645)
  · refine hz_iconst hx hb dL_step_588 ?_
    refine lv_goto (tgt := 593) hx hb dL_step_589 (by decide) ?_
    refine lv_istore (lv' := [(15, zi 1), (5, zi k), (0, .ref (ah 0)), (1, .ref o0), (2, zi what), (3, zi a), (4, zi bb)]) hx hb dL_step_593 hl (by decide) rfl (fun ls hl => ?_)
    refine lv_aload_n hx hb dL_step_595 rfl (lv_at hl 2 rfl) ?_
    refine lv_iload hx hb dL_step_596 (lv_at hl 1 rfl) ?_
    refine lv_iload hx hb dL_step_598 (lv_at hl 6 rfl) ?_
    refine hz_iconst hx hb dL_step_600 ?_
    refine hz_irem hx hb dL_step_601 (by omega) ?_
    refine hz_if_ne (tgt := 609) hx hb dL_step_602 (by decide) (by omega) (fun c10 => ?_) (fun c10 => ?_)
    · refine hz_iconst hx hb dL_step_609 ?_
      refine hz_cI (As := [zi k, zi 0]) (rest := []) ⟨hx, hb, hml, hown, hts⟩ (b_fail l hlt G ah zE y _ S k (0 : Int) hI (show 0 ≤ k ∧ k < (S.2.1 0) by omega) (show (0 : Int) = 0 ∨ (0 : Int) = 1 by omega)) (cwV 2 hts gL_step_X7_fail rfl rfl rfl (by decide +kernel) ⟨Nat.le_of_ble_eq_true rfl, Nat.le_of_ble_eq_true rfl⟩) hP hK hD hS hA hGP 0 8 rfl rfl rfl rfl hl.1 rfl (Nat.le_of_ble_eq_true rfl) dL_step_610 ⟨Nat.le_of_ble_eq_true rfl, Nat.le_of_ble_eq_true rfl⟩ (fun _ => wH_fst rfl rfl rfl) (fun u11 H locs hu hP hD hS => ?_)
      have hI12 : FC zE (sA S 5 (upZ (S.2.2 5) k 0)) := (fc_fail k (0 : Int) hI (by omega) (by omega))
      have hP : va_P G vwCl (wH ah y (sA S 5 (upZ (S.2.2 5) k 0)) ++ dW o0 y d) H := hP
      have hD : va_D A (wH ah y (sA S 5 (upZ (S.2.2 5) k 0)) ++ dW o0 y d) := hD
      refine hz_tope (z2 := ((S.2.2 5) k)) (by rfl) ?_
      refine lv_iload hx hb dL_step_613 (lv_at hl 0 rfl) ?_
      refine hz_icmp_ne (tgt := 644) hx hb dL_step_615 (by decide) (by omega) (fun q => by exfalso; omega) (fun _ => ?_)
      refine lv_aload_n hx hb dL_step_618 rfl (lv_at hl 2 rfl) ?_
      refine lv_iload hx hb dL_step_619 (lv_at hl 1 rfl) ?_
      refine hz_iconst hx hb dL_step_621 ?_
      refine hz_cI (As := [zi k, zi 4]) (rest := []) ⟨hx, hb, hml, hown, hts⟩ (b_mirrorIs l hlt G ah zE y _ (sA S 5 (upZ (S.2.2 5) k 0)) k (4 : Int) hI12 (show 0 ≤ k ∧ k < (S.2.1 0) by omega) (show 0 ≤ (4 : Int) ∧ (4 : Int) ≤ 7 by omega)) (cwV 2 hts gL_step_X7_mirrorIs rfl rfl rfl (by decide +kernel) ⟨Nat.le_of_ble_eq_true rfl, Nat.le_of_ble_eq_true rfl⟩) hP hK hD hS hA hGP 0 8 rfl rfl rfl rfl hl.1 rfl (Nat.le_of_ble_eq_true rfl) dL_step_622 ⟨Nat.le_of_ble_eq_true rfl, Nat.le_of_ble_eq_true rfl⟩ (fun _ => rfl) (fun u13 H locs hu hP hD hS => ?_)
      have hP : va_P G vwCl (wH ah y (sA S 5 (upZ (S.2.2 5) k 0)) ++ dW o0 y d) H := hP
      have hD : va_D A (wH ah y (sA S 5 (upZ (S.2.2 5) k 0)) ++ dW o0 y d) := hD
      refine hz_tope (z2 := 0) (by exact (upZ_s rfl)) ?_
      refine lv_iload hx hb dL_step_625 (lv_at hl 6 rfl) ?_
      refine hz_iconst hx hb dL_step_627 ?_
      refine hz_irem hx hb dL_step_628 (by omega) ?_
      refine hz_if_ne (tgt := 636) hx hb dL_step_629 (by decide) (by omega) (fun _ => ?_) (fun q => by exfalso; omega)
      refine hz_iconst hx hb dL_step_636 ?_
      refine hz_icmp_ne (tgt := 644) hx hb dL_step_637 (by decide) (by omega) (fun q => by exfalso; omega) (fun _ => ?_)
      refine hz_iconst hx hb dL_step_640 ?_
      refine lv_goto (tgt := 645) hx hb dL_step_641 (by decide) ?_
      exact hz_upM (Nat.le_of_ble_eq_true rfl) (Nat.le_of_ble_eq_true rfl) (W.zret (ty := .boolean) (v := zI 1) hx hb hr (zI_nb (by omega)) (fun t ht hW => ⟨⟨zI 1, ((sA S 5 (upZ (S.2.2 5) k 0)), d), rfl, ⟨rfl, hI12, hd, (show 1 ≤ (S.2.1 0) by omega)⟩, hz_at2 hP hD ht⟩, hS.F ht⟩) hS.2.2 dL_step_645)
    · refine hz_iconst hx hb dL_step_605 ?_
      refine lv_goto (tgt := 610) hx hb dL_step_606 (by decide) ?_
      refine hz_cI (As := [zi k, zi 1]) (rest := []) ⟨hx, hb, hml, hown, hts⟩ (b_fail l hlt G ah zE y _ S k (1 : Int) hI (show 0 ≤ k ∧ k < (S.2.1 0) by omega) (show (1 : Int) = 0 ∨ (1 : Int) = 1 by omega)) (cwV 2 hts gL_step_X7_fail rfl rfl rfl (by decide +kernel) ⟨Nat.le_of_ble_eq_true rfl, Nat.le_of_ble_eq_true rfl⟩) hP hK hD hS hA hGP 0 8 rfl rfl rfl rfl hl.1 rfl (Nat.le_of_ble_eq_true rfl) dL_step_610 ⟨Nat.le_of_ble_eq_true rfl, Nat.le_of_ble_eq_true rfl⟩ (fun _ => wH_fst rfl rfl rfl) (fun u14 H locs hu hP hD hS => ?_)
      have hI15 : FC zE (sA S 5 (upZ (S.2.2 5) k 1)) := (fc_fail k (1 : Int) hI (by omega) (by omega))
      have hP : va_P G vwCl (wH ah y (sA S 5 (upZ (S.2.2 5) k 1)) ++ dW o0 y d) H := hP
      have hD : va_D A (wH ah y (sA S 5 (upZ (S.2.2 5) k 1)) ++ dW o0 y d) := hD
      refine hz_tope (z2 := ((S.2.2 5) k)) (by rfl) ?_
      refine lv_iload hx hb dL_step_613 (lv_at hl 0 rfl) ?_
      refine hz_icmp_ne (tgt := 644) hx hb dL_step_615 (by decide) (by omega) (fun q => by exfalso; omega) (fun _ => ?_)
      refine lv_aload_n hx hb dL_step_618 rfl (lv_at hl 2 rfl) ?_
      refine lv_iload hx hb dL_step_619 (lv_at hl 1 rfl) ?_
      refine hz_iconst hx hb dL_step_621 ?_
      refine hz_cI (As := [zi k, zi 4]) (rest := []) ⟨hx, hb, hml, hown, hts⟩ (b_mirrorIs l hlt G ah zE y _ (sA S 5 (upZ (S.2.2 5) k 1)) k (4 : Int) hI15 (show 0 ≤ k ∧ k < (S.2.1 0) by omega) (show 0 ≤ (4 : Int) ∧ (4 : Int) ≤ 7 by omega)) (cwV 2 hts gL_step_X7_mirrorIs rfl rfl rfl (by decide +kernel) ⟨Nat.le_of_ble_eq_true rfl, Nat.le_of_ble_eq_true rfl⟩) hP hK hD hS hA hGP 0 8 rfl rfl rfl rfl hl.1 rfl (Nat.le_of_ble_eq_true rfl) dL_step_622 ⟨Nat.le_of_ble_eq_true rfl, Nat.le_of_ble_eq_true rfl⟩ (fun _ => rfl) (fun u16 H locs hu hP hD hS => ?_)
      have hP : va_P G vwCl (wH ah y (sA S 5 (upZ (S.2.2 5) k 1)) ++ dW o0 y d) H := hP
      have hD : va_D A (wH ah y (sA S 5 (upZ (S.2.2 5) k 1)) ++ dW o0 y d) := hD
      refine hz_tope (z2 := 1) (by exact (upZ_s rfl)) ?_
      refine lv_iload hx hb dL_step_625 (lv_at hl 6 rfl) ?_
      refine hz_iconst hx hb dL_step_627 ?_
      refine hz_irem hx hb dL_step_628 (by omega) ?_
      refine hz_if_ne (tgt := 636) hx hb dL_step_629 (by decide) (by omega) (fun q => by exfalso; omega) (fun _ => ?_)
      refine hz_iconst hx hb dL_step_632 ?_
      refine lv_goto (tgt := 637) hx hb dL_step_633 (by decide) ?_
      refine hz_icmp_ne (tgt := 644) hx hb dL_step_637 (by decide) (by omega) (fun q => by exfalso; omega) (fun _ => ?_)
      refine hz_iconst hx hb dL_step_640 ?_
      refine lv_goto (tgt := 645) hx hb dL_step_641 (by decide) ?_
      exact hz_upM (Nat.le_of_ble_eq_true rfl) (Nat.le_of_ble_eq_true rfl) (W.zret (ty := .boolean) (v := zI 1) hx hb hr (zI_nb (by omega)) (fun t ht hW => ⟨⟨zI 1, ((sA S 5 (upZ (S.2.2 5) k 1)), d), rfl, ⟨rfl, hI15, hd, (show 1 ≤ (S.2.1 0) by omega)⟩, hz_at2 hP hD ht⟩, hS.F ht⟩) hS.2.2 dL_step_645)
set_option maxHeartbeats 32000000 in
set_option maxRecDepth 100000 in
theorem st_wash {p : Program} {l : Launch} {e : Env} {s : State} {m : MethodId} {below : List Frame} {meth : Method} {c : Code} {A : Nat → Prop} {G : va_G} {mi zE : Nat} {y : Nat → ClassId} {ah : Nat → Nat} {o0 : Nat} {S : ST} {d : Int → Int} {what a bb : Int} {k : Int} (hQ : LC p l s m meth c A G mi zE y 33 cL_step wsL_step [.ref (ah 0), .ref o0, zi what, zi a, zi bb] (some .boolean)) (hI : FC zE S) (hd : FD S d) (ha : 0 ≤ a ∧ a < 2147483648) (hbb : 0 ≤ bb ∧ bb < 2147483648) (hk : 0 ≤ k ∧ k < S.2.1 0) (hP : va_P G vwCl (wH ah y S ++ dW o0 y d) s.heap) (hD : va_D A (wH ah y S ++ dW o0 y d)) : ∀ ls : Array Slot, lv_has ls 33 [(5, zi k), (0, .ref (ah 0)), (1, .ref o0), (2, zi what), (3, zi a), (4, zi bb)] → W p l e (headSpec wsL_step ({ frames := 15, cells := 1250, slots := 7500, locals := 620 })).room s m ([.ref (ah 0), .ref o0, zi what, zi a, zi bb] : List Value).toArray below meth c s.heap [] 0 0 (MQ below (Q_step G ah zE y o0 A) ([.ref (ah 0), .ref o0, zi what, zi a, zi bb] : List Value).toArray s 1250 7500 A) (F0 m 646 ls []) := by
  intro ls hl
  obtain ⟨hx, hb, hr, hts, hown, hlocks, hml, hK, hA, hGP, hX, hGN, hlt⟩ := hQ
  have hS : va_S A s.heap s.heap [] := va_S.rf
  have qN := hI.N
  have qC := hI.C
  have qNow := hI.Now
  have qHz := hI.Haze
  have qS := hI.Salt
  have qP := hI.Pipe
  have qTc := hI.Trc
  have qTb := hI.Turb
  have qLd := hI.Load
  have qTL := hI.TL
  have qW := hI.Water
  have qD0 := hd.D0
  have qD1 := hd.D1
  have qD2 := hd.D2
  have qD3 := hd.D3
  have qst := strZ_rng (S.2.1 2)
  have kE := hI.Err k
  have kC := hI.Cor k
  have kA := hI.Aim k
  have kB := hI.Brk k
  have kD := hI.Dirt k
  have kP := pwS_rng hI k 0
  have kL := hI.Cell k
  refine lv_aload_n hx hb dL_step_646 rfl (lv_at hl 1 rfl) ?_
  refine lv_iload hx hb dL_step_647 (lv_at hl 0 rfl) ?_
  refine hz_iconst hx hb dL_step_649 ?_
  refine hz_cI (As := [zi k, zi 1]) (rest := []) ⟨hx, hb, hml, hown, hts⟩ (b_mirrorIs l hlt G ah zE y _ S k (1 : Int) hI (show 0 ≤ k ∧ k < (S.2.1 0) by omega) (show 0 ≤ (1 : Int) ∧ (1 : Int) ≤ 7 by omega)) (cwV 2 hts gL_step_X7_mirrorIs rfl rfl rfl (by decide +kernel) ⟨Nat.le_of_ble_eq_true rfl, Nat.le_of_ble_eq_true rfl⟩) hP hK hD hS hA hGP 0 8 rfl rfl rfl rfl hl.1 rfl (Nat.le_of_ble_eq_true rfl) dL_step_650 ⟨Nat.le_of_ble_eq_true rfl, Nat.le_of_ble_eq_true rfl⟩ (fun _ => rfl) (fun u1 H locs hu hP hD hS => ?_)
  have hP : va_P G vwCl (wH ah y S ++ dW o0 y d) H := hP
  have hD : va_D A (wH ah y S ++ dW o0 y d) := hD
  refine hz_tope (z2 := ((S.2.2 1) k)) (by rfl) ?_
  refine lv_istore (lv' := [(16, zi ((S.2.2 1) k)), (5, zi k), (0, .ref (ah 0)), (1, .ref o0), (2, zi what), (3, zi a), (4, zi bb)]) hx hb dL_step_653 hl (by decide) rfl (fun ls hl => ?_)
  refine lv_aload_n hx hb dL_step_655 rfl (lv_at hl 2 rfl) ?_
  refine hz_bipush hx hb dL_step_656 (by decide) ?_
  refine hz_cI (As := [zi 9]) (rest := []) ⟨hx, hb, hml, hown, hts⟩ (b_plantIs l hlt G ah zE y _ S (9 : Int) hI (show 0 ≤ (9 : Int) ∧ (9 : Int) ≤ 10 by omega)) (cwV 1 hts gL_step_X7_plantIs rfl rfl rfl (by decide +kernel) ⟨Nat.le_of_ble_eq_true rfl, Nat.le_of_ble_eq_true rfl⟩) hP hK hD hS hA hGP 0 8 rfl rfl rfl rfl hl.1 rfl (Nat.le_of_ble_eq_true rfl) dL_step_658 ⟨Nat.le_of_ble_eq_true rfl, Nat.le_of_ble_eq_true rfl⟩ (fun _ => rfl) (fun u2 H locs hu hP hD hS => ?_)
  have hP : va_P G vwCl (wH ah y S ++ dW o0 y d) H := hP
  have hD : va_D A (wH ah y S ++ dW o0 y d) := hD
  refine hz_tope (z2 := (S.2.1 13)) (by rfl) ?_
  refine lv_istore (lv' := [(17, zi (S.2.1 13)), (16, zi ((S.2.2 1) k)), (5, zi k), (0, .ref (ah 0)), (1, .ref o0), (2, zi what), (3, zi a), (4, zi bb)]) hx hb dL_step_661 hl (by decide) rfl (fun ls hl => ?_)
  refine lv_aload_n hx hb dL_step_663 rfl (lv_at hl 3 rfl) ?_
  refine lv_iload hx hb dL_step_664 (lv_at hl 2 rfl) ?_
  refine hz_iconst hx hb dL_step_666 ?_
  refine hz_iconst hx hb dL_step_667 ?_
  refine hz_lawL (As := [.ref (ah 0), zi k, zi 0, zi 2]) (rest := []) ⟨hx, hb, hml, hown, hts⟩ (c_acts2 l hlt G ah mi zE y _ S k (0 : Int) hI (show 0 ≤ k ∧ k < (S.2.1 0) by omega)) (vx_cwSW 4 hts gL_step_L_acts rfl rfl rfl (by decide +kernel) ⟨Nat.le_of_ble_eq_true rfl, Nat.le_of_ble_eq_true rfl⟩) hP hK hD hS hA hGP hX hGN rfl hl.1 rfl (Nat.le_of_ble_eq_true rfl) dL_step_668 ⟨Nat.le_of_ble_eq_true rfl, Nat.le_of_ble_eq_true rfl⟩ (fun r u3 H locs hu hP hD hS => ?_)
  rcases hu with ⟨rfl, hc4, rfl⟩ | ⟨rfl, hc4, rfl⟩
  · have hc4 : (if ¬ (0 ≤ k ∧ k < ((S.2.1 0))) then (1 : Int) else if 0 < strZ ((S.2.1 2)) ∨ ((S.2.1 13)) < 3 then 2 else 0) = 0 := hc4
    have hI7 : FC zE (sA (sI S 13 ((S.2.1 13) - 3)) 1 (upZ (S.2.2 1) k 0)) := (fc_wash k hI (by omega) (show 3 ≤ (S.2.1 13) by omega))
    have hP : va_P G vwCl (wH ah y (sA (sI S 13 ((S.2.1 13) - 3)) 1 (upZ (S.2.2 1) k 0)) ++ dW o0 y d) H := hP
    have hD : va_D A (wH ah y (sA (sI S 13 ((S.2.1 13) - 3)) 1 (upZ (S.2.2 1) k 0)) ++ dW o0 y d) := hD
    refine hz_tope (z2 := ((S.2.2 1) k)) (by rfl) ?_
    refine lv_istore (lv' := [(18, zi ((S.2.2 1) k)), (17, zi (S.2.1 13)), (16, zi ((S.2.2 1) k)), (5, zi k), (0, .ref (ah 0)), (1, .ref o0), (2, zi what), (3, zi a), (4, zi bb)]) hx hb dL_step_671 hl (by decide) rfl (fun ls hl => ?_)
    refine lv_iload hx hb dL_step_673 (lv_at hl 0 rfl) ?_
    refine hz_sipush hx hb dL_step_675 (by decide) ?_
    refine hz_icmp_ne (tgt := 703) hx hb dL_step_678 (by decide) (by omega) (fun _ => ?_) (fun q => by exfalso; omega)
    refine lv_iload hx hb dL_step_703 (lv_at hl 0 rfl) ?_
    refine lv_iload hx hb dL_step_705 (lv_at hl 2 rfl) ?_
    refine hz_icmp_ne (tgt := 745) hx hb dL_step_707 (by decide) (by omega) (fun q => by exfalso; omega) (fun _ => ?_)
    refine lv_aload_n hx hb dL_step_710 rfl (lv_at hl 4 rfl) ?_
    refine lv_iload hx hb dL_step_711 (lv_at hl 3 rfl) ?_
    refine hz_iconst hx hb dL_step_713 ?_
    refine hz_cI (As := [zi k, zi 1]) (rest := []) ⟨hx, hb, hml, hown, hts⟩ (b_mirrorIs l hlt G ah zE y _ (sA (sI S 13 ((S.2.1 13) - 3)) 1 (upZ (S.2.2 1) k 0)) k (1 : Int) hI7 (show 0 ≤ k ∧ k < (S.2.1 0) by omega) (show 0 ≤ (1 : Int) ∧ (1 : Int) ≤ 7 by omega)) (cwV 2 hts gL_step_X7_mirrorIs rfl rfl rfl (by decide +kernel) ⟨Nat.le_of_ble_eq_true rfl, Nat.le_of_ble_eq_true rfl⟩) hP hK hD hS hA hGP 0 8 rfl rfl rfl rfl hl.1 rfl (Nat.le_of_ble_eq_true rfl) dL_step_714 ⟨Nat.le_of_ble_eq_true rfl, Nat.le_of_ble_eq_true rfl⟩ (fun _ => rfl) (fun u8 H locs hu hP hD hS => ?_)
    have hP : va_P G vwCl (wH ah y (sA (sI S 13 ((S.2.1 13) - 3)) 1 (upZ (S.2.2 1) k 0)) ++ dW o0 y d) H := hP
    have hD : va_D A (wH ah y (sA (sI S 13 ((S.2.1 13) - 3)) 1 (upZ (S.2.2 1) k 0)) ++ dW o0 y d) := hD
    refine hz_tope (z2 := 0) (by exact (upZ_s rfl)) ?_
    refine hz_if_ne (tgt := 745) hx hb dL_step_717 (by decide) (by omega) (fun q => by exfalso; omega) (fun _ => ?_)
    refine lv_aload_n hx hb dL_step_720 rfl (lv_at hl 4 rfl) ?_
    refine hz_bipush hx hb dL_step_721 (by decide) ?_
    refine hz_cI (As := [zi 9]) (rest := []) ⟨hx, hb, hml, hown, hts⟩ (b_plantIs l hlt G ah zE y _ (sA (sI S 13 ((S.2.1 13) - 3)) 1 (upZ (S.2.2 1) k 0)) (9 : Int) hI7 (show 0 ≤ (9 : Int) ∧ (9 : Int) ≤ 10 by omega)) (cwV 1 hts gL_step_X7_plantIs rfl rfl rfl (by decide +kernel) ⟨Nat.le_of_ble_eq_true rfl, Nat.le_of_ble_eq_true rfl⟩) hP hK hD hS hA hGP 0 8 rfl rfl rfl rfl hl.1 rfl (Nat.le_of_ble_eq_true rfl) dL_step_723 ⟨Nat.le_of_ble_eq_true rfl, Nat.le_of_ble_eq_true rfl⟩ (fun _ => rfl) (fun u9 H locs hu hP hD hS => ?_)
    have hP : va_P G vwCl (wH ah y (sA (sI S 13 ((S.2.1 13) - 3)) 1 (upZ (S.2.2 1) k 0)) ++ dW o0 y d) H := hP
    have hD : va_D A (wH ah y (sA (sI S 13 ((S.2.1 13) - 3)) 1 (upZ (S.2.2 1) k 0)) ++ dW o0 y d) := hD
    refine hz_tope (z2 := ((S.2.1 13) - 3)) (by rfl) ?_
    refine lv_iload hx hb dL_step_726 (lv_at hl 1 rfl) ?_
    refine hz_iconst hx hb dL_step_728 ?_
    refine hz_isub hx hb dL_step_729 ?_
    refine hz_icmp_ne (tgt := 745) hx hb dL_step_730 (by decide) (by omega) (fun q => by exfalso; omega) (fun _ => ?_)
    refine lv_aload_n hx hb dL_step_733 rfl (lv_at hl 4 rfl) ?_
    refine hz_iconst hx hb dL_step_734 ?_
    refine hz_cI (As := [zi 1]) (rest := []) ⟨hx, hb, hml, hown, hts⟩ (b_plantIs l hlt G ah zE y _ (sA (sI S 13 ((S.2.1 13) - 3)) 1 (upZ (S.2.2 1) k 0)) (1 : Int) hI7 (show 0 ≤ (1 : Int) ∧ (1 : Int) ≤ 10 by omega)) (cwV 1 hts gL_step_X7_plantIs rfl rfl rfl (by decide +kernel) ⟨Nat.le_of_ble_eq_true rfl, Nat.le_of_ble_eq_true rfl⟩) hP hK hD hS hA hGP 0 8 rfl rfl rfl rfl hl.1 rfl (Nat.le_of_ble_eq_true rfl) dL_step_735 ⟨Nat.le_of_ble_eq_true rfl, Nat.le_of_ble_eq_true rfl⟩ (fun _ => rfl) (fun u10 H locs hu hP hD hS => ?_)
    have hP : va_P G vwCl (wH ah y (sA (sI S 13 ((S.2.1 13) - 3)) 1 (upZ (S.2.2 1) k 0)) ++ dW o0 y d) H := hP
    have hD : va_D A (wH ah y (sA (sI S 13 ((S.2.1 13) - 3)) 1 (upZ (S.2.2 1) k 0)) ++ dW o0 y d) := hD
    refine hz_tope (z2 := (strZ (S.2.1 2))) (by rfl) ?_
    refine hz_if_ne (tgt := 745) hx hb dL_step_738 (by decide) (by omega) (fun q => by exfalso; omega) (fun _ => ?_)
    refine hz_iconst hx hb dL_step_741 ?_
    refine lv_goto (tgt := 746) hx hb dL_step_742 (by decide) ?_
    exact hz_upM (Nat.le_of_ble_eq_true rfl) (Nat.le_of_ble_eq_true rfl) (W.zret (ty := .boolean) (v := zI 1) hx hb hr (zI_nb (by omega)) (fun t ht hW => ⟨⟨zI 1, ((sA (sI S 13 ((S.2.1 13) - 3)) 1 (upZ (S.2.2 1) k 0)), d), rfl, ⟨rfl, hI7, hd, (show 1 ≤ (S.2.1 0) by omega)⟩, hz_at2 hP hD ht⟩, hS.F ht⟩) hS.2.2 dL_step_746)
  · have hc4 : (if ¬ (0 ≤ k ∧ k < ((S.2.1 0))) then (1 : Int) else if 0 < strZ ((S.2.1 2)) ∨ ((S.2.1 13)) < 3 then 2 else 0) = 2 := hc4
    have hP : va_P G vwCl (wH ah y S ++ dW o0 y d) H := hP
    have hD : va_D A (wH ah y S ++ dW o0 y d) := hD
    refine lv_istore (lv' := [(18, zi (-200)), (17, zi (S.2.1 13)), (16, zi ((S.2.2 1) k)), (5, zi k), (0, .ref (ah 0)), (1, .ref o0), (2, zi what), (3, zi a), (4, zi bb)]) hx hb dL_step_671 hl (by decide) rfl (fun ls hl => ?_)
    refine lv_iload hx hb dL_step_673 (lv_at hl 0 rfl) ?_
    refine hz_sipush hx hb dL_step_675 (by decide) ?_
    refine hz_icmp_ne (tgt := 703) hx hb dL_step_678 (by decide) (by omega) (fun q => by exfalso; omega) (fun _ => ?_)
    refine lv_aload_n hx hb dL_step_681 rfl (lv_at hl 4 rfl) ?_
    refine hz_iconst hx hb dL_step_682 ?_
    refine hz_cI (As := [zi 1]) (rest := []) ⟨hx, hb, hml, hown, hts⟩ (b_plantIs l hlt G ah zE y _ S (1 : Int) hI (show 0 ≤ (1 : Int) ∧ (1 : Int) ≤ 10 by omega)) (cwV 1 hts gL_step_X7_plantIs rfl rfl rfl (by decide +kernel) ⟨Nat.le_of_ble_eq_true rfl, Nat.le_of_ble_eq_true rfl⟩) hP hK hD hS hA hGP 0 8 rfl rfl rfl rfl hl.1 rfl (Nat.le_of_ble_eq_true rfl) dL_step_683 ⟨Nat.le_of_ble_eq_true rfl, Nat.le_of_ble_eq_true rfl⟩ (fun _ => rfl) (fun u11 H locs hu hP hD hS => ?_)
    have hP : va_P G vwCl (wH ah y S ++ dW o0 y d) H := hP
    have hD : va_D A (wH ah y S ++ dW o0 y d) := hD
    refine hz_tope (z2 := (strZ (S.2.1 2))) (by rfl) ?_
    refine hz_if_gt (tgt := 695) hx hb dL_step_686 (by decide) (by omega) (fun c12 => ?_) (fun c12 => ?_)
    · refine hz_iconst hx hb dL_step_695 ?_
      refine lv_goto (tgt := 746) hx hb dL_step_696 (by decide) ?_
      exact hz_upM (Nat.le_of_ble_eq_true rfl) (Nat.le_of_ble_eq_true rfl) (W.zret (ty := .boolean) (v := zI 1) hx hb hr (zI_nb (by omega)) (fun t ht hW => ⟨⟨zI 1, (S, d), rfl, ⟨rfl, hI, hd, (show 1 ≤ (S.2.1 0) by omega)⟩, hz_at2 hP hD ht⟩, hS.F ht⟩) hS.2.2 dL_step_746)
    · refine lv_iload hx hb dL_step_689 (lv_at hl 1 rfl) ?_
      refine hz_iconst hx hb dL_step_691 ?_
      refine hz_icmp_ge (tgt := 699) hx hb dL_step_692 (by decide) (by omega) (fun q => by exfalso; omega) (fun _ => ?_)
      refine hz_iconst hx hb dL_step_695 ?_
      refine lv_goto (tgt := 746) hx hb dL_step_696 (by decide) ?_
      exact hz_upM (Nat.le_of_ble_eq_true rfl) (Nat.le_of_ble_eq_true rfl) (W.zret (ty := .boolean) (v := zI 1) hx hb hr (zI_nb (by omega)) (fun t ht hW => ⟨⟨zI 1, (S, d), rfl, ⟨rfl, hI, hd, (show 1 ≤ (S.2.1 0) by omega)⟩, hz_at2 hP hD ht⟩, hS.F ht⟩) hS.2.2 dL_step_746)
set_option maxHeartbeats 32000000 in
set_option maxRecDepth 100000 in
theorem st_haze {p : Program} {l : Launch} {e : Env} {s : State} {m : MethodId} {below : List Frame} {meth : Method} {c : Code} {A : Nat → Prop} {G : va_G} {mi zE : Nat} {y : Nat → ClassId} {ah : Nat → Nat} {o0 : Nat} {S : ST} {d : Int → Int} {what a bb : Int} {k : Int} (hQ : LC p l s m meth c A G mi zE y 33 cL_step wsL_step [.ref (ah 0), .ref o0, zi what, zi a, zi bb] (some .boolean)) (hI : FC zE S) (hd : FD S d) (ha : 0 ≤ a ∧ a < 2147483648) (hbb : 0 ≤ bb ∧ bb < 2147483648) (hk : 0 ≤ k ∧ k < S.2.1 0) (hP : va_P G vwCl (wH ah y S ++ dW o0 y d) s.heap) (hD : va_D A (wH ah y S ++ dW o0 y d)) : ∀ ls : Array Slot, lv_has ls 33 [(5, zi k), (0, .ref (ah 0)), (1, .ref o0), (2, zi what), (3, zi a), (4, zi bb)] → W p l e (headSpec wsL_step ({ frames := 15, cells := 1250, slots := 7500, locals := 620 })).room s m ([.ref (ah 0), .ref o0, zi what, zi a, zi bb] : List Value).toArray below meth c s.heap [] 0 0 (MQ below (Q_step G ah zE y o0 A) ([.ref (ah 0), .ref o0, zi what, zi a, zi bb] : List Value).toArray s 1250 7500 A) (F0 m 747 ls []) := by
  intro ls hl
  obtain ⟨hx, hb, hr, hts, hown, hlocks, hml, hK, hA, hGP, hX, hGN, hlt⟩ := hQ
  have hS : va_S A s.heap s.heap [] := va_S.rf
  have qN := hI.N
  have qC := hI.C
  have qNow := hI.Now
  have qHz := hI.Haze
  have qS := hI.Salt
  have qP := hI.Pipe
  have qTc := hI.Trc
  have qTb := hI.Turb
  have qLd := hI.Load
  have qTL := hI.TL
  have qW := hI.Water
  have qD0 := hd.D0
  have qD1 := hd.D1
  have qD2 := hd.D2
  have qD3 := hd.D3
  have qst := strZ_rng (S.2.1 2)
  have kE := hI.Err k
  have kC := hI.Cor k
  have kA := hI.Aim k
  have kB := hI.Brk k
  have kD := hI.Dirt k
  have kP := pwS_rng hI k 0
  have kL := hI.Cell k
  refine lv_aload_n hx hb dL_step_747 rfl (lv_at hl 1 rfl) ?_
  refine lv_iload hx hb dL_step_748 (lv_at hl 5 rfl) ?_
  refine hz_bipush hx hb dL_step_750 (by decide) ?_
  refine hz_irem hx hb dL_step_752 (by omega) ?_
  refine hz_cI (As := [zi (bb % 10)]) (rest := []) ⟨hx, hb, hml, hown, hts⟩ (b_haze l hlt G ah zE y _ S (bb % 10) hI (show 0 ≤ (bb % 10) ∧ (bb % 10) ≤ 9 by omega)) (cwV 1 hts gL_step_X7_haze rfl rfl rfl (by decide +kernel) ⟨Nat.le_of_ble_eq_true rfl, Nat.le_of_ble_eq_true rfl⟩) hP hK hD hS hA hGP 0 8 rfl rfl rfl rfl hl.1 rfl (Nat.le_of_ble_eq_true rfl) dL_step_753 ⟨Nat.le_of_ble_eq_true rfl, Nat.le_of_ble_eq_true rfl⟩ (fun _ => wH_fst rfl rfl rfl) (fun u1 H locs hu hP hD hS => ?_)
  have hI2 : FC zE (sI S 3 (bb % 10)) := (fc_haze (bb % 10) hI (by omega))
  have hP : va_P G vwCl (wH ah y (sI S 3 (bb % 10)) ++ dW o0 y d) H := hP
  have hD : va_D A (wH ah y (sI S 3 (bb % 10)) ++ dW o0 y d) := hD
  refine hz_tope (z2 := (S.2.1 3)) (by rfl) ?_
  have kt : pwS (sI S 3 (bb % 10)) k 0 ≤ 100 * (10 - (bb % 10)) := pwS_top hI2 k
  have kq := pwS_rng hI2 k 0
  refine hz_if_lt (tgt := 784) hx hb dL_step_756 (by decide) (by omega) (fun q => by exfalso; omega) (fun _ => ?_)
  refine lv_aload_n hx hb dL_step_759 rfl (lv_at hl 1 rfl) ?_
  refine lv_iload hx hb dL_step_760 (lv_at hl 0 rfl) ?_
  refine hz_iconst hx hb dL_step_762 ?_
  refine hz_cI (As := [zi k, zi 0]) (rest := []) ⟨hx, hb, hml, hown, hts⟩ (b_power l hlt G ah zE y _ (sI S 3 (bb % 10)) k (0 : Int) hI2 (show 0 ≤ k ∧ k < (S.2.1 0) by omega) (show 0 ≤ (0 : Int) ∧ (0 : Int) ≤ 24 by omega)) (cwV 2 hts gL_step_X7_power rfl rfl rfl (by decide +kernel) ⟨Nat.le_of_ble_eq_true rfl, Nat.le_of_ble_eq_true rfl⟩) hP hK hD hS hA hGP 0 8 rfl rfl rfl rfl hl.1 rfl (Nat.le_of_ble_eq_true rfl) dL_step_763 ⟨Nat.le_of_ble_eq_true rfl, Nat.le_of_ble_eq_true rfl⟩ (fun _ => rfl) (fun u3 H locs hu hP hD hS => ?_)
  have hP : va_P G vwCl (wH ah y (sI S 3 (bb % 10)) ++ dW o0 y d) H := hP
  have hD : va_D A (wH ah y (sI S 3 (bb % 10)) ++ dW o0 y d) := hD
  refine hz_tope (z2 := (pwS (sI S 3 (bb % 10)) k 0)) (by rfl) ?_
  refine hz_bipush hx hb dL_step_766 (by decide) ?_
  refine hz_bipush hx hb dL_step_768 (by decide) ?_
  refine lv_iload hx hb dL_step_770 (lv_at hl 5 rfl) ?_
  refine hz_bipush hx hb dL_step_772 (by decide) ?_
  refine hz_irem hx hb dL_step_774 (by omega) ?_
  refine hz_isub hx hb dL_step_775 ?_
  refine hz_imul hx hb dL_step_776 ?_
  refine hz_icmp_gt (tgt := 784) hx hb dL_step_777 (by decide) (by omega) (fun q => by exfalso; omega) (fun _ => ?_)
  refine hz_iconst hx hb dL_step_780 ?_
  refine lv_goto (tgt := 785) hx hb dL_step_781 (by decide) ?_
  exact hz_upM (Nat.le_of_ble_eq_true rfl) (Nat.le_of_ble_eq_true rfl) (W.zret (ty := .boolean) (v := zI 1) hx hb hr (zI_nb (by omega)) (fun t ht hW => ⟨⟨zI 1, ((sI S 3 (bb % 10)), d), rfl, ⟨rfl, hI2, hd, (show 1 ≤ (S.2.1 0) by omega)⟩, hz_at2 hP hD ht⟩, hS.F ht⟩) hS.2.2 dL_step_785)
set_option maxHeartbeats 32000000 in
set_option maxRecDepth 100000 in
theorem st_cloud {p : Program} {l : Launch} {e : Env} {s : State} {m : MethodId} {below : List Frame} {meth : Method} {c : Code} {A : Nat → Prop} {G : va_G} {mi zE : Nat} {y : Nat → ClassId} {ah : Nat → Nat} {o0 : Nat} {S : ST} {d : Int → Int} {what a bb : Int} {k : Int} (hQ : LC p l s m meth c A G mi zE y 33 cL_step wsL_step [.ref (ah 0), .ref o0, zi what, zi a, zi bb] (some .boolean)) (hI : FC zE S) (hd : FD S d) (ha : 0 ≤ a ∧ a < 2147483648) (hbb : 0 ≤ bb ∧ bb < 2147483648) (hk : 0 ≤ k ∧ k < S.2.1 0) (hP : va_P G vwCl (wH ah y S ++ dW o0 y d) s.heap) (hD : va_D A (wH ah y S ++ dW o0 y d)) : ∀ ls : Array Slot, lv_has ls 33 [(5, zi k), (0, .ref (ah 0)), (1, .ref o0), (2, zi what), (3, zi a), (4, zi bb)] → W p l e (headSpec wsL_step ({ frames := 15, cells := 1250, slots := 7500, locals := 620 })).room s m ([.ref (ah 0), .ref o0, zi what, zi a, zi bb] : List Value).toArray below meth c s.heap [] 0 0 (MQ below (Q_step G ah zE y o0 A) ([.ref (ah 0), .ref o0, zi what, zi a, zi bb] : List Value).toArray s 1250 7500 A) (F0 m 786 ls []) := by
  intro ls hl
  obtain ⟨hx, hb, hr, hts, hown, hlocks, hml, hK, hA, hGP, hX, hGN, hlt⟩ := hQ
  have hS : va_S A s.heap s.heap [] := va_S.rf
  have qN := hI.N
  have qC := hI.C
  have qNow := hI.Now
  have qHz := hI.Haze
  have qS := hI.Salt
  have qP := hI.Pipe
  have qTc := hI.Trc
  have qTb := hI.Turb
  have qLd := hI.Load
  have qTL := hI.TL
  have qW := hI.Water
  have qD0 := hd.D0
  have qD1 := hd.D1
  have qD2 := hd.D2
  have qD3 := hd.D3
  have qst := strZ_rng (S.2.1 2)
  have kE := hI.Err k
  have kC := hI.Cor k
  have kA := hI.Aim k
  have kB := hI.Brk k
  have kD := hI.Dirt k
  have kP := pwS_rng hI k 0
  have kL := hI.Cell k
  refine lv_iload hx hb dL_step_786 (lv_at hl 5 rfl) ?_
  refine hz_iconst hx hb dL_step_788 ?_
  refine hz_irem hx hb dL_step_789 (by omega) ?_
  refine hz_if_ne (tgt := 827) hx hb dL_step_790 (by decide) (by omega) (fun c1 => ?_) (fun c1 => ?_)
  · refine lv_aload_n hx hb dL_step_827 rfl (lv_at hl 1 rfl) ?_
    refine lv_iload hx hb dL_step_828 (lv_at hl 5 rfl) ?_
    refine hz_bipush hx hb dL_step_830 (by decide) ?_
    refine hz_irem hx hb dL_step_832 (by omega) ?_
    refine hz_iconst hx hb dL_step_833 ?_
    refine hz_isub hx hb dL_step_834 ?_
    refine lv_iload hx hb dL_step_835 (lv_at hl 5 rfl) ?_
    refine hz_bipush hx hb dL_step_837 (by decide) ?_
    refine hz_idiv hx hb dL_step_839 (by omega) ?_
    refine hz_bipush hx hb dL_step_840 (by decide) ?_
    refine hz_irem hx hb dL_step_842 (by omega) ?_
    refine hz_iconst hx hb dL_step_843 ?_
    refine hz_isub hx hb dL_step_844 ?_
    refine hz_iconst hx hb dL_step_845 ?_
    refine lv_iload hx hb dL_step_846 (lv_at hl 5 rfl) ?_
    refine hz_sipush hx hb dL_step_848 (by decide) ?_
    refine hz_idiv hx hb dL_step_851 (by omega) ?_
    refine hz_bipush hx hb dL_step_852 (by decide) ?_
    refine hz_irem hx hb dL_step_854 (by omega) ?_
    refine hz_iadd hx hb dL_step_855 ?_
    refine lv_iload hx hb dL_step_856 (lv_at hl 5 rfl) ?_
    refine hz_sipush hx hb dL_step_858 (by decide) ?_
    refine hz_idiv hx hb dL_step_861 (by omega) ?_
    refine hz_iconst hx hb dL_step_862 ?_
    refine hz_irem hx hb dL_step_863 (by omega) ?_
    refine hz_iconst hx hb dL_step_864 ?_
    refine hz_isub hx hb dL_step_865 ?_
    refine lv_iload hx hb dL_step_866 (lv_at hl 5 rfl) ?_
    refine hz_sipush hx hb dL_step_868 (by decide) ?_
    refine hz_idiv hx hb dL_step_871 (by omega) ?_
    refine hz_iconst hx hb dL_step_872 ?_
    refine hz_irem hx hb dL_step_873 (by omega) ?_
    refine hz_iconst hx hb dL_step_874 ?_
    refine hz_isub hx hb dL_step_875 ?_
    refine hz_lawL (As := [.ref (ah 0), zi ((bb % 14) - 5), zi (((bb / 16) % 14) - 5), zi (1 + ((bb / 256) % 8)), zi (((bb / 2048) % 3) - 1), zi (((bb / 8192) % 3) - 1)]) (rest := []) ⟨hx, hb, hml, hown, hts⟩ (c_cloud l hlt G ah mi zE y _ S ((bb % 14) - 5) (((bb / 16) % 14) - 5) (1 + ((bb / 256) % 8)) (((bb / 2048) % 3) - 1) (((bb / 8192) % 3) - 1) hI (show (-16 ≤ ((bb % 14) - 5) ∧ ((bb % 14) - 5) ≤ 16) ∧ (-16 ≤ (((bb / 16) % 14) - 5) ∧ (((bb / 16) % 14) - 5) ≤ 16) ∧ (1 ≤ (1 + ((bb / 256) % 8)) ∧ (1 + ((bb / 256) % 8)) ≤ 8) ∧ (-1 ≤ (((bb / 2048) % 3) - 1) ∧ (((bb / 2048) % 3) - 1) ≤ 1) ∧ (-1 ≤ (((bb / 8192) % 3) - 1) ∧ (((bb / 8192) % 3) - 1) ≤ 1) by omega)) (vx_cwSW 6 hts gL_step_L_cloud rfl rfl rfl (by decide +kernel) ⟨Nat.le_of_ble_eq_true rfl, Nat.le_of_ble_eq_true rfl⟩) hP hK hD hS hA hGP hX hGN rfl hl.1 rfl (Nat.le_of_ble_eq_true rfl) dL_step_876 ⟨Nat.le_of_ble_eq_true rfl, Nat.le_of_ble_eq_true rfl⟩ (fun r u2 H locs hu hP hD hS => ?_)
    rcases hu with ⟨nz5, rfl, hc3, rfl, hz4⟩ | ⟨rfl, hc3, rfl⟩
    · have hc3 : (if ¬ ((-16 ≤ ((bb % 14) - 5) ∧ ((bb % 14) - 5) ≤ 16) ∧ (-16 ≤ (((bb / 16) % 14) - 5) ∧ (((bb / 16) % 14) - 5) ≤ 16) ∧ (1 ≤ (1 + ((bb / 256) % 8)) ∧ (1 + ((bb / 256) % 8)) ≤ 8) ∧ (1 ≤ (1 + ((bb / 256) % 8)) ∧ (1 + ((bb / 256) % 8)) ≤ 8) ∧ (-1 ≤ (((bb / 2048) % 3) - 1) ∧ (((bb / 2048) % 3) - 1) ≤ 1) ∧ (-1 ≤ (((bb / 8192) % 3) - 1) ∧ (((bb / 8192) % 3) - 1) ≤ 1)) then (1 : Int) else if ((S.2.1 1)) = 4 then 2 else 0) = 0 := hc3
      have hI6 : FC zE (sA (sA (sA (sA (sA (sA (sI (sZ S nz5) 1 ((S.2.1 1) + 1)) 6 (upZ (S.2.2 6) (S.2.1 1) ((bb % 14) - 5))) 7 (upZ (S.2.2 7) (S.2.1 1) (((bb / 16) % 14) - 5))) 8 (upZ (S.2.2 8) (S.2.1 1) (1 + ((bb / 256) % 8)))) 9 (upZ (S.2.2 9) (S.2.1 1) (1 + ((bb / 256) % 8)))) 10 (upZ (S.2.2 10) (S.2.1 1) (((bb / 2048) % 3) - 1))) 11 (upZ (S.2.2 11) (S.2.1 1) (((bb / 8192) % 3) - 1))) := (fc_cloud nz5 ((bb % 14) - 5) (((bb / 16) % 14) - 5) (1 + ((bb / 256) % 8)) (1 + ((bb / 256) % 8)) (((bb / 2048) % 3) - 1) (((bb / 8192) % 3) - 1) hI (by omega) (show ¬ (S.2.1 1) = 4 by omega) hz4)
      have hP : va_P G vwCl (wH ah y (sA (sA (sA (sA (sA (sA (sI (sZ S nz5) 1 ((S.2.1 1) + 1)) 6 (upZ (S.2.2 6) (S.2.1 1) ((bb % 14) - 5))) 7 (upZ (S.2.2 7) (S.2.1 1) (((bb / 16) % 14) - 5))) 8 (upZ (S.2.2 8) (S.2.1 1) (1 + ((bb / 256) % 8)))) 9 (upZ (S.2.2 9) (S.2.1 1) (1 + ((bb / 256) % 8)))) 10 (upZ (S.2.2 10) (S.2.1 1) (((bb / 2048) % 3) - 1))) 11 (upZ (S.2.2 11) (S.2.1 1) (((bb / 8192) % 3) - 1))) ++ dW o0 y d) H := hP
      have hD : va_D A (wH ah y (sA (sA (sA (sA (sA (sA (sI (sZ S nz5) 1 ((S.2.1 1) + 1)) 6 (upZ (S.2.2 6) (S.2.1 1) ((bb % 14) - 5))) 7 (upZ (S.2.2 7) (S.2.1 1) (((bb / 16) % 14) - 5))) 8 (upZ (S.2.2 8) (S.2.1 1) (1 + ((bb / 256) % 8)))) 9 (upZ (S.2.2 9) (S.2.1 1) (1 + ((bb / 256) % 8)))) 10 (upZ (S.2.2 10) (S.2.1 1) (((bb / 2048) % 3) - 1))) 11 (upZ (S.2.2 11) (S.2.1 1) (((bb / 8192) % 3) - 1))) ++ dW o0 y d) := hD
      refine hz_tope (z2 := ((S.2.1 1) + 1)) (by rfl) ?_
      refine lv_istore (lv' := [(19, zi ((S.2.1 1) + 1)), (5, zi k), (0, .ref (ah 0)), (1, .ref o0), (2, zi what), (3, zi a), (4, zi bb)]) hx hb dL_step_879 hl (by decide) rfl (fun ls hl => ?_)
      refine lv_aload_n hx hb dL_step_881 rfl (lv_at hl 3 rfl) ?_
      refine hz_iconst hx hb dL_step_882 ?_
      refine lv_dup2_11 hx hb dL_step_883 rfl rfl ?_
      refine hz_dld hx hb hK hP (by omega) dL_step_884 ?_
      refine lv_iload hx hb dL_step_885 (lv_at hl 0 rfl) ?_
      refine hz_if_ge (tgt := 894) hx hb dL_step_887 (by decide) (by omega) (fun _ => ?_) (fun q => by exfalso; omega)
      refine hz_iconst hx hb dL_step_894 ?_
      refine hz_iadd hx hb dL_step_895 ?_
      refine hz_dst hx hb hK hP hD hS (by omega) dL_step_896 (fun H locs hP hD hS => ?_)
      have hP : va_P G vwCl (wH ah y (sA (sA (sA (sA (sA (sA (sI (sZ S nz5) 1 ((S.2.1 1) + 1)) 6 (upZ (S.2.2 6) (S.2.1 1) ((bb % 14) - 5))) 7 (upZ (S.2.2 7) (S.2.1 1) (((bb / 16) % 14) - 5))) 8 (upZ (S.2.2 8) (S.2.1 1) (1 + ((bb / 256) % 8)))) 9 (upZ (S.2.2 9) (S.2.1 1) (1 + ((bb / 256) % 8)))) 10 (upZ (S.2.2 10) (S.2.1 1) (((bb / 2048) % 3) - 1))) 11 (upZ (S.2.2 11) (S.2.1 1) (((bb / 8192) % 3) - 1))) ++ dW o0 y (upZ d 3 ((d 3) + 1))) H := hP
      have hD : va_D A (wH ah y (sA (sA (sA (sA (sA (sA (sI (sZ S nz5) 1 ((S.2.1 1) + 1)) 6 (upZ (S.2.2 6) (S.2.1 1) ((bb % 14) - 5))) 7 (upZ (S.2.2 7) (S.2.1 1) (((bb / 16) % 14) - 5))) 8 (upZ (S.2.2 8) (S.2.1 1) (1 + ((bb / 256) % 8)))) 9 (upZ (S.2.2 9) (S.2.1 1) (1 + ((bb / 256) % 8)))) 10 (upZ (S.2.2 10) (S.2.1 1) (((bb / 2048) % 3) - 1))) 11 (upZ (S.2.2 11) (S.2.1 1) (((bb / 8192) % 3) - 1))) ++ dW o0 y (upZ d 3 ((d 3) + 1))) := hD
      refine lv_iload hx hb dL_step_897 (lv_at hl 0 rfl) ?_
      refine hz_sipush hx hb dL_step_899 (by decide) ?_
      refine hz_icmp_ne (tgt := 920) hx hb dL_step_902 (by decide) (by omega) (fun _ => ?_) (fun q => by exfalso; omega)
      refine lv_iload hx hb dL_step_920 (lv_at hl 0 rfl) ?_
      refine lv_aload_n hx hb dL_step_922 rfl (lv_at hl 3 rfl) ?_
      refine hz_iconst hx hb dL_step_923 ?_
      refine hz_dld hx hb hK hP (by omega) dL_step_924 ?_
      refine hz_tope (z2 := ((d 3) + 1)) (by first | rfl | exact upZ_s rfl | simp [upZ]) ?_
      refine hz_icmp_ne (tgt := 932) hx hb dL_step_925 (by decide) (by omega) (fun q => by exfalso; omega) (fun _ => ?_)
      refine hz_iconst hx hb dL_step_928 ?_
      refine lv_goto (tgt := 933) hx hb dL_step_929 (by decide) ?_
      exact hz_upM (Nat.le_of_ble_eq_true rfl) (Nat.le_of_ble_eq_true rfl) (W.zret (ty := .boolean) (v := zI 1) hx hb hr (zI_nb (by omega)) (fun t ht hW => ⟨⟨zI 1, ((sA (sA (sA (sA (sA (sA (sI (sZ S nz5) 1 ((S.2.1 1) + 1)) 6 (upZ (S.2.2 6) (S.2.1 1) ((bb % 14) - 5))) 7 (upZ (S.2.2 7) (S.2.1 1) (((bb / 16) % 14) - 5))) 8 (upZ (S.2.2 8) (S.2.1 1) (1 + ((bb / 256) % 8)))) 9 (upZ (S.2.2 9) (S.2.1 1) (1 + ((bb / 256) % 8)))) 10 (upZ (S.2.2 10) (S.2.1 1) (((bb / 2048) % 3) - 1))) 11 (upZ (S.2.2 11) (S.2.1 1) (((bb / 8192) % 3) - 1))), (upZ d 3 ((d 3) + 1))), rfl, ⟨rfl, hI6, (fd_3 hd rfl rfl rfl (show _ = ((S.2.1 1) + 1) by omega) rfl rfl), (show 1 ≤ (S.2.1 0) by omega)⟩, hz_at2 hP hD ht⟩, hS.F ht⟩) hS.2.2 dL_step_933)
    · have hc3 : (if ¬ ((-16 ≤ ((bb % 14) - 5) ∧ ((bb % 14) - 5) ≤ 16) ∧ (-16 ≤ (((bb / 16) % 14) - 5) ∧ (((bb / 16) % 14) - 5) ≤ 16) ∧ (1 ≤ (1 + ((bb / 256) % 8)) ∧ (1 + ((bb / 256) % 8)) ≤ 8) ∧ (1 ≤ (1 + ((bb / 256) % 8)) ∧ (1 + ((bb / 256) % 8)) ≤ 8) ∧ (-1 ≤ (((bb / 2048) % 3) - 1) ∧ (((bb / 2048) % 3) - 1) ≤ 1) ∧ (-1 ≤ (((bb / 8192) % 3) - 1) ∧ (((bb / 8192) % 3) - 1) ≤ 1)) then (1 : Int) else if ((S.2.1 1)) = 4 then 2 else 0) = 2 := hc3
      have hP : va_P G vwCl (wH ah y S ++ dW o0 y d) H := hP
      have hD : va_D A (wH ah y S ++ dW o0 y d) := hD
      refine lv_istore (lv' := [(19, zi (-200)), (5, zi k), (0, .ref (ah 0)), (1, .ref o0), (2, zi what), (3, zi a), (4, zi bb)]) hx hb dL_step_879 hl (by decide) rfl (fun ls hl => ?_)
      refine lv_aload_n hx hb dL_step_881 rfl (lv_at hl 3 rfl) ?_
      refine hz_iconst hx hb dL_step_882 ?_
      refine lv_dup2_11 hx hb dL_step_883 rfl rfl ?_
      refine hz_dld hx hb hK hP (by omega) dL_step_884 ?_
      refine lv_iload hx hb dL_step_885 (lv_at hl 0 rfl) ?_
      refine hz_if_ge (tgt := 894) hx hb dL_step_887 (by decide) (by omega) (fun q => by exfalso; omega) (fun _ => ?_)
      refine hz_iconst hx hb dL_step_890 ?_
      refine lv_goto (tgt := 895) hx hb dL_step_891 (by decide) ?_
      refine hz_iadd hx hb dL_step_895 ?_
      refine hz_dst hx hb hK hP hD hS (by omega) dL_step_896 (fun H locs hP hD hS => ?_)
      have hP : va_P G vwCl (wH ah y S ++ dW o0 y (upZ d 3 ((d 3) + 0))) H := hP
      have hD : va_D A (wH ah y S ++ dW o0 y (upZ d 3 ((d 3) + 0))) := hD
      refine lv_iload hx hb dL_step_897 (lv_at hl 0 rfl) ?_
      refine hz_sipush hx hb dL_step_899 (by decide) ?_
      refine hz_icmp_ne (tgt := 920) hx hb dL_step_902 (by decide) (by omega) (fun q => by exfalso; omega) (fun _ => ?_)
      refine lv_aload_n hx hb dL_step_905 rfl (lv_at hl 3 rfl) ?_
      refine hz_iconst hx hb dL_step_906 ?_
      refine hz_dld hx hb hK hP (by omega) dL_step_907 ?_
      refine hz_tope (z2 := ((d 3) + 0)) (by first | rfl | exact upZ_s rfl | simp [upZ]) ?_
      refine hz_iconst hx hb dL_step_908 ?_
      refine hz_icmp_ne (tgt := 916) hx hb dL_step_909 (by decide) (by omega) (fun q => by exfalso; omega) (fun _ => ?_)
      refine hz_iconst hx hb dL_step_912 ?_
      refine lv_goto (tgt := 933) hx hb dL_step_913 (by decide) ?_
      exact hz_upM (Nat.le_of_ble_eq_true rfl) (Nat.le_of_ble_eq_true rfl) (W.zret (ty := .boolean) (v := zI 1) hx hb hr (zI_nb (by omega)) (fun t ht hW => ⟨⟨zI 1, (S, (upZ d 3 ((d 3) + 0))), rfl, ⟨rfl, hI, (fd_3 hd rfl rfl rfl (show _ = (S.2.1 1) by omega) rfl rfl), (show 1 ≤ (S.2.1 0) by omega)⟩, hz_at2 hP hD ht⟩, hS.F ht⟩) hS.2.2 dL_step_933)
  · refine lv_aload_n hx hb dL_step_793 rfl (lv_at hl 2 rfl) ?_
    refine hz_iconst hx hb dL_step_794 ?_
    refine hz_dld hx hb hK hP (by omega) dL_step_795 ?_
    refine lv_istore (lv' := [(19, zi (d 3)), (5, zi k), (0, .ref (ah 0)), (1, .ref o0), (2, zi what), (3, zi a), (4, zi bb)]) hx hb dL_step_796 hl (by decide) rfl (fun ls hl => ?_)
    refine lv_aload_n hx hb dL_step_798 rfl (lv_at hl 3 rfl) ?_
    refine hz_iconst hx hb dL_step_799 ?_
    refine hz_iconst hx hb dL_step_800 ?_
    refine hz_dst hx hb hK hP hD hS (by omega) dL_step_801 (fun H locs hP hD hS => ?_)
    have hP : va_P G vwCl (wH ah y S ++ dW o0 y (upZ d 3 0)) H := hP
    have hD : va_D A (wH ah y S ++ dW o0 y (upZ d 3 0)) := hD
    refine lv_aload_n hx hb dL_step_802 rfl (lv_at hl 2 rfl) ?_
    refine hz_cN (As := []) (rest := []) ⟨hx, hb, hml, hown, hts⟩ (b_clear l G ah zE y _ S  hI ) (cwV 0 hts gL_step_X7_clear rfl rfl rfl (by decide +kernel) ⟨Nat.le_of_ble_eq_true rfl, Nat.le_of_ble_eq_true rfl⟩) hP hK hD hS hA hGP 0 8 rfl rfl rfl rfl hl.1 rfl (Nat.le_of_ble_eq_true rfl) dL_step_803 ⟨Nat.le_of_ble_eq_true rfl, Nat.le_of_ble_eq_true rfl⟩ (fun r u7 H locs hu hP hD hS => ?_)
    obtain ⟨rfl, hz8⟩ := hu
    have hI9 : FC zE (sI (sZ S u7) 1 0) := (fc_clear u7 hI hz8)
    have hP : va_P G vwCl (wH ah y (sI (sZ S u7) 1 0) ++ dW o0 y (upZ d 3 0)) H := hP
    have hD : va_D A (wH ah y (sI (sZ S u7) 1 0) ++ dW o0 y (upZ d 3 0)) := hD
    have kc : cvS (sI (sZ S u7) 1 0) k = 0 := cvZ_0
    refine lv_iload hx hb dL_step_806 (lv_at hl 0 rfl) ?_
    refine hz_icmp_ne (tgt := 825) hx hb dL_step_808 (by decide) (by omega) (fun q => by exfalso; omega) (fun _ => ?_)
    refine lv_aload_n hx hb dL_step_811 rfl (lv_at hl 2 rfl) ?_
    refine lv_iload hx hb dL_step_812 (lv_at hl 1 rfl) ?_
    refine hz_iconst hx hb dL_step_814 ?_
    refine hz_cI (As := [zi k, zi 5]) (rest := []) ⟨hx, hb, hml, hown, hts⟩ (b_mirrorIs l hlt G ah zE y _ (sI (sZ S u7) 1 0) k (5 : Int) hI9 (show 0 ≤ k ∧ k < (S.2.1 0) by omega) (show 0 ≤ (5 : Int) ∧ (5 : Int) ≤ 7 by omega)) (cwV 2 hts gL_step_X7_mirrorIs rfl rfl rfl (by decide +kernel) ⟨Nat.le_of_ble_eq_true rfl, Nat.le_of_ble_eq_true rfl⟩) hP hK hD hS hA hGP 0 8 rfl rfl rfl rfl hl.1 rfl (Nat.le_of_ble_eq_true rfl) dL_step_815 ⟨Nat.le_of_ble_eq_true rfl, Nat.le_of_ble_eq_true rfl⟩ (fun _ => rfl) (fun u10 H locs hu hP hD hS => ?_)
    have hP : va_P G vwCl (wH ah y (sI (sZ S u7) 1 0) ++ dW o0 y (upZ d 3 0)) H := hP
    have hD : va_D A (wH ah y (sI (sZ S u7) 1 0) ++ dW o0 y (upZ d 3 0)) := hD
    refine hz_tope (z2 := (cvS (sI (sZ S u7) 1 0) k)) (by rfl) ?_
    refine hz_if_ne (tgt := 825) hx hb dL_step_818 (by decide) (by omega) (fun q => by exfalso; omega) (fun _ => ?_)
    refine hz_iconst hx hb dL_step_821 ?_
    refine lv_goto (tgt := 826) hx hb dL_step_822 (by decide) ?_
    exact hz_upM (Nat.le_of_ble_eq_true rfl) (Nat.le_of_ble_eq_true rfl) (W.zret (ty := .boolean) (v := zI 1) hx hb hr (zI_nb (by omega)) (fun t ht hW => ⟨⟨zI 1, ((sI (sZ S u7) 1 0), (upZ d 3 0)), rfl, ⟨rfl, hI9, (fd_3 hd rfl rfl rfl (show _ = 0 by omega) rfl rfl), (show 1 ≤ (S.2.1 0) by omega)⟩, hz_at2 hP hD ht⟩, hS.F ht⟩) hS.2.2 dL_step_826)
set_option maxHeartbeats 32000000 in
set_option maxRecDepth 100000 in
theorem st_bound {p : Program} {l : Launch} {e : Env} {s : State} {m : MethodId} {below : List Frame} {meth : Method} {c : Code} {A : Nat → Prop} {G : va_G} {mi zE : Nat} {y : Nat → ClassId} {ah : Nat → Nat} {o0 : Nat} {S : ST} {d : Int → Int} {what a bb : Int} {k : Int} (hQ : LC p l s m meth c A G mi zE y 33 cL_step wsL_step [.ref (ah 0), .ref o0, zi what, zi a, zi bb] (some .boolean)) (hI : FC zE S) (hd : FD S d) (ha : 0 ≤ a ∧ a < 2147483648) (hbb : 0 ≤ bb ∧ bb < 2147483648) (hk : 0 ≤ k ∧ k < S.2.1 0) (hP : va_P G vwCl (wH ah y S ++ dW o0 y d) s.heap) (hD : va_D A (wH ah y S ++ dW o0 y d)) : ∀ ls : Array Slot, lv_has ls 33 [(5, zi k), (0, .ref (ah 0)), (1, .ref o0), (2, zi what), (3, zi a), (4, zi bb)] → W p l e (headSpec wsL_step ({ frames := 15, cells := 1250, slots := 7500, locals := 620 })).room s m ([.ref (ah 0), .ref o0, zi what, zi a, zi bb] : List Value).toArray below meth c s.heap [] 0 0 (MQ below (Q_step G ah zE y o0 A) ([.ref (ah 0), .ref o0, zi what, zi a, zi bb] : List Value).toArray s 1250 7500 A) (F0 m 934 ls []) := by
  intro ls hl
  obtain ⟨hx, hb, hr, hts, hown, hlocks, hml, hK, hA, hGP, hX, hGN, hlt⟩ := hQ
  have hS : va_S A s.heap s.heap [] := va_S.rf
  have qN := hI.N
  have qC := hI.C
  have qNow := hI.Now
  have qHz := hI.Haze
  have qS := hI.Salt
  have qP := hI.Pipe
  have qTc := hI.Trc
  have qTb := hI.Turb
  have qLd := hI.Load
  have qTL := hI.TL
  have qW := hI.Water
  have qD0 := hd.D0
  have qD1 := hd.D1
  have qD2 := hd.D2
  have qD3 := hd.D3
  have qst := strZ_rng (S.2.1 2)
  have kE := hI.Err k
  have kC := hI.Cor k
  have kA := hI.Aim k
  have kB := hI.Brk k
  have kD := hI.Dirt k
  have kP := pwS_rng hI k 0
  have kL := hI.Cell k
  have rb := hI.Bound (a % 6)
  refine lv_aload_n hx hb dL_step_934 rfl (lv_at hl 1 rfl) ?_
  refine lv_iload_n hx hb dL_step_935 rfl (lv_at hl 4 rfl) ?_
  refine hz_bipush hx hb dL_step_936 (by decide) ?_
  refine hz_irem hx hb dL_step_938 (by omega) ?_
  refine lv_iload hx hb dL_step_939 (lv_at hl 5 rfl) ?_
  refine hz_iconst hx hb dL_step_941 ?_
  refine hz_irem hx hb dL_step_942 (by omega) ?_
  refine hz_if_ne (tgt := 952) hx hb dL_step_943 (by decide) (by omega) (fun c1 => ?_) (fun c1 => ?_)
  · refine lv_iload hx hb dL_step_952 (lv_at hl 5 rfl) ?_
    refine hz_sipush hx hb dL_step_954 (by decide) ?_
    refine hz_irem hx hb dL_step_957 (by omega) ?_
    refine hz_cI (As := [zi (a % 6), zi (bb % 4000)]) (rest := []) ⟨hx, hb, hml, hown, hts⟩ (b_bound l hlt G ah zE y _ S (a % 6) (bb % 4000) hI (show 0 ≤ (a % 6) ∧ (a % 6) ≤ 5 by omega) (show 0 ≤ (bb % 4000) ∧ (bb % 4000) ≤ 9999 by omega)) (cwV 2 hts gL_step_X7_bound rfl rfl rfl (by decide +kernel) ⟨Nat.le_of_ble_eq_true rfl, Nat.le_of_ble_eq_true rfl⟩) hP hK hD hS hA hGP 0 8 rfl rfl rfl rfl hl.1 rfl (Nat.le_of_ble_eq_true rfl) dL_step_958 ⟨Nat.le_of_ble_eq_true rfl, Nat.le_of_ble_eq_true rfl⟩ (fun _ => wH_fst rfl rfl rfl) (fun u2 H locs hu hP hD hS => ?_)
    have hI3 : FC zE (sA S 12 (upZ (S.2.2 12) (a % 6) (bb % 4000))) := (fc_bound (a % 6) (bb % 4000) hI (by omega))
    have hP : va_P G vwCl (wH ah y (sA S 12 (upZ (S.2.2 12) (a % 6) (bb % 4000))) ++ dW o0 y d) H := hP
    have hD : va_D A (wH ah y (sA S 12 (upZ (S.2.2 12) (a % 6) (bb % 4000))) ++ dW o0 y d) := hD
    refine hz_tope (z2 := ((S.2.2 12) (a % 6))) (by rfl) ?_
    refine hz_if_lt (tgt := 968) hx hb dL_step_961 (by decide) (by omega) (fun q => by exfalso; omega) (fun _ => ?_)
    refine hz_iconst hx hb dL_step_964 ?_
    refine lv_goto (tgt := 969) hx hb dL_step_965 (by decide) ?_
    exact hz_upM (Nat.le_of_ble_eq_true rfl) (Nat.le_of_ble_eq_true rfl) (W.zret (ty := .boolean) (v := zI 1) hx hb hr (zI_nb (by omega)) (fun t ht hW => ⟨⟨zI 1, ((sA S 12 (upZ (S.2.2 12) (a % 6) (bb % 4000))), d), rfl, ⟨rfl, hI3, hd, (show 1 ≤ (S.2.1 0) by omega)⟩, hz_at2 hP hD ht⟩, hS.F ht⟩) hS.2.2 dL_step_969)
  · refine hz_sipush hx hb dL_step_946 (by decide) ?_
    refine lv_goto (tgt := 958) hx hb dL_step_949 (by decide) ?_
    refine hz_cI (As := [zi (a % 6), zi 9999]) (rest := []) ⟨hx, hb, hml, hown, hts⟩ (b_bound l hlt G ah zE y _ S (a % 6) (9999 : Int) hI (show 0 ≤ (a % 6) ∧ (a % 6) ≤ 5 by omega) (show 0 ≤ (9999 : Int) ∧ (9999 : Int) ≤ 9999 by omega)) (cwV 2 hts gL_step_X7_bound rfl rfl rfl (by decide +kernel) ⟨Nat.le_of_ble_eq_true rfl, Nat.le_of_ble_eq_true rfl⟩) hP hK hD hS hA hGP 0 8 rfl rfl rfl rfl hl.1 rfl (Nat.le_of_ble_eq_true rfl) dL_step_958 ⟨Nat.le_of_ble_eq_true rfl, Nat.le_of_ble_eq_true rfl⟩ (fun _ => wH_fst rfl rfl rfl) (fun u4 H locs hu hP hD hS => ?_)
    have hI5 : FC zE (sA S 12 (upZ (S.2.2 12) (a % 6) 9999)) := (fc_bound (a % 6) (9999 : Int) hI (by omega))
    have hP : va_P G vwCl (wH ah y (sA S 12 (upZ (S.2.2 12) (a % 6) 9999)) ++ dW o0 y d) H := hP
    have hD : va_D A (wH ah y (sA S 12 (upZ (S.2.2 12) (a % 6) 9999)) ++ dW o0 y d) := hD
    refine hz_tope (z2 := ((S.2.2 12) (a % 6))) (by rfl) ?_
    refine hz_if_lt (tgt := 968) hx hb dL_step_961 (by decide) (by omega) (fun q => by exfalso; omega) (fun _ => ?_)
    refine hz_iconst hx hb dL_step_964 ?_
    refine lv_goto (tgt := 969) hx hb dL_step_965 (by decide) ?_
    exact hz_upM (Nat.le_of_ble_eq_true rfl) (Nat.le_of_ble_eq_true rfl) (W.zret (ty := .boolean) (v := zI 1) hx hb hr (zI_nb (by omega)) (fun t ht hW => ⟨⟨zI 1, ((sA S 12 (upZ (S.2.2 12) (a % 6) 9999)), d), rfl, ⟨rfl, hI5, hd, (show 1 ≤ (S.2.1 0) by omega)⟩, hz_at2 hP hD ht⟩, hS.F ht⟩) hS.2.2 dL_step_969)
