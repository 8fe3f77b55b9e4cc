/-! goes: so many ticks, one by one -/
theorem TK.to {S S1 : ST} (h : TK S S1) : tkTo S S1 := h.1
theorem TK.trips {S S1 : ST} (h : TK S S1) : 0 ≤ S1.2.1 14 - S.2.1 14 ∧ S1.2.1 14 - S.2.1 14 ≤ 1 := h.2.2.1
theorem TK.safe {S S1 : ST} (h : TK S S1) : sfS S = 1 → S1.2.1 14 = S.2.1 14 := h.2.2.2.1
theorem TK.pipe {S S1 : ST} (h : TK S S1) : S.2.1 6 = 1 ∨ S1.2.2 16 5 = S.2.2 16 5 := h.2.2.2.2.1
theorem TK.light {S S1 : ST} (h : TK S S1) : alZ (flS S) ≤ S1.2.2 16 0 - S.2.2 16 0 := h.2.2.2.2.2.1
theorem TK.hot {S S1 : ST} (h : TK S S1) : S1.2.1 10 = 2 ∨ S1.2.1 5 = S.2.1 5 + S1.2.2 16 5 - S.2.2 16 5 := h.2.2.2.2.2.2.1
theorem TK.firm {S S1 : ST} (h : TK S S1) : S1.2.2 16 9 + S1.2.2 16 10 = S.2.2 16 9 + S.2.2 16 10 + S.2.2 15 (S.2.1 2 % 24) := h.2.2.2.2.2.2.2.1
theorem TK.salt {S S1 : ST} (h : TK S S1) : S1.2.1 4 + S1.2.1 5 = S.2.1 4 + S.2.1 5 := h.2.2.2.2.2.2.2.2.1
theorem TK.f15 {S S1 : ST} (h : TK S S1) : S1.2.2 15 = S.2.2 15 := h.2.2.2.2.2.2.2.2.2.1
theorem fd_tick {S S1 : ST} {d : Int → Int} (hn : 0 ≤ S.2.1 2) (hd : FD S d) (h : TK S S1) : FD S1 (upZ (upZ d 4 (d 4 + d (5 + d 1 % 24))) 1 (d 1 + 1)) := by
  have k5 := hd.D5 (S.2.1 2 % 24) (by omega) (by omega)
  have k1 := hd.D1
  have k2 := hd.D2
  have k4 := hd.D4
  have t1 := h.to
  have t4 := h.firm
  have t5 := h.salt
  refine ⟨?_, ?_, ?_, ?_, ?_, fun q a b => ?_⟩
  · rw [upZ_n (by decide), upZ_n (by decide), t1.1]; exact hd.D0
  · rw [upZ_s rfl, t1.2.2.2.2.2.2.2.2.1, k1]
  · rw [upZ_n (by decide), upZ_n (by decide)]; omega
  · rw [upZ_n (by decide), upZ_n (by decide), t1.2.1]; exact hd.D3
  · rw [upZ_n (by decide), upZ_s rfl, k1, k5]; omega
  · rw [upZ_n (by omega), upZ_n (by omega), h.f15]; exact hd.D5 q a b
/-- from S to S1 in j ticks, as far as powers show it -/
def GJ (S S1 : ST) (j : Int) : Prop := S1.2.1 0 = S.2.1 0 ∧ S1.2.1 2 = S.2.1 2 + j ∧ ∀ k t : Int, 0 ≤ k → k < S.2.1 0 → 0 ≤ t → pwS S k (t + j) = pwS S1 k t
theorem GJ.zero (S : ST) : GJ S S 0 := ⟨rfl, by omega, fun k t _ _ _ => by rw [Int.add_zero]⟩
theorem GJ.tick {zE : Nat} {S S1 S2 : ST} {j : Int} (h : GJ S S1 j) (hj : 0 ≤ j) (hI : FC zE S1) (hT : TK S1 S2) : GJ S S2 (j + 1) := by
  have t1 := hT.to
  refine ⟨t1.1.trans h.1, ?_, fun k t a b q => ?_⟩
  · have := t1.2.2.2.2.2.2.2.2.1
    have := h.2.1
    omega
  · have e1 := h.2.2 k (t + 1) a b (by omega)
    have e2 := pwS_next hI t1 (k := k) (t := t) ⟨a, by rw [h.1]; exact b⟩ q
    rw [← e2, ← e1, show t + 1 + j = t + (j + 1) by omega]
def GR (S : ST) (n : Int) (S1 : ST) : Prop := ∃ j : Int, (0 ≤ j ∧ j ≤ n) ∧ (j = n ∨ 9999 ≤ S1.2.1 2) ∧ GJ S S1 j
/-- what holds in the law's methods all the time -/
def LC (p : Program) (l : Launch) (s : State) (m : MethodId) (meth : Method) (c : Code) (A : Nat → Prop) (G : va_G) (mi zE : Nat) (y : Nat → ClassId) (nl : Nat) (cc : ByteArray) (ws : List Cond) (av : List Value) (ret : Option FieldType) : Prop := p.tables.exec = Jvm.exec ∧ c.code = cc ∧ meth.sig.returnType = ret ∧ (∀ w ∈ ws, w.before av.toArray s = true) ∧ s.vm.findClass RL = some m.cls ∧ meth.locks = false ∧ c.maxLocals = nl ∧ va_K G vwCl (tyL y) s ∧ (∀ q, s.heap.size ≤ q → A q) ∧ GP zE A s s.heap ∧ GX mi s ∧ GN s ∧ l.stackTraces = false

abbrev Q_goes (G : va_G) (ah : Nat → Nat) (zE : Nat) (y : Nat → ClassId) (o0 : Nat) (S : ST) (d : Int → Int) (n : Int) (A : Nat → Prop) : Array Value → State → Outcome → State → Prop := va_Qi (fun (r : Int32) (u : ST × (Int → Int)) => r = zI 1 ∧ FC zE u.1 ∧ FD u.1 u.2 ∧ GR S n u.1) (fun u t => va_P G vwCl (wH ah y u.1 ++ dW o0 y u.2) t.heap ∧ va_D A (wH ah y u.1 ++ dW o0 y u.2)) A
set_option maxHeartbeats 16000000 in
set_option maxRecDepth 100000 in
theorem goes_loop {p : Program} {l : Launch} {e : Env} {s : State} {m : MethodId} {below : List Frame} {meth : Method} {c : Code} {A : Nat → Prop} {G : va_G} {mi zE : Nat} {y : Nat → ClassId} {ah : Nat → Nat} {o0 : Nat} {S0 : ST} {d0 : Int → Int} {n : Int} (hQ : LC p l s m meth c A G mi zE y 15 cL_goes wsL_goes [.ref (ah 0), .ref o0, zi n] (some .boolean)) (hn : 0 ≤ n ∧ n ≤ 30) : ∀ (f : Nat) (i : Int) (S : ST) (d : Int → Int) (H : Heap) (locs : List Loc) (cells slots : Nat), (0 ≤ i ∧ i ≤ n ∧ n - i < f) → (cells + 40 * (n - i).toNat ≤ 1200 ∧ slots + 240 * (n - i).toNat ≤ 7200) → FC zE S → FD S d → GJ S0 S i → va_P G vwCl (wH ah y S ++ dW o0 y d) H → va_D A (wH ah y S ++ dW o0 y d) → va_S A s.heap H locs → ∀ ls : Array Slot, lv_has ls 15 [(0, .ref (ah 0)), (1, .ref o0), (2, zi n), (3, zi 1), (4, zi i)] → W p l e (headSpec wsL_goes ({ frames := 9, cells := 1200, slots := 7200, locals := 201 })).room s m ([.ref (ah 0), .ref o0, zi n] : List Value).toArray below meth c H locs cells slots (MQ below (Q_goes G ah zE y o0 S0 d0 n A) ([.ref (ah 0), .ref o0, zi n] : List Value).toArray s 1200 7200 A) (F0 m 5 ls []) := by
  intro f
  induction f with
  | zero => exact fun i S d H locs cells slots hi => absurd hi.2.2 (by omega)
  | succ f ih =>
    intro i S d H locs cells slots hi hrm hI hd hG hP hD hS ls hl
    obtain ⟨hx, hb, hr, hts, hown, hlocks, hml, hK, hA, hGP, hX, hGN, hlt⟩ := id hQ
    have qN := hI.N
    have qNow := hI.Now
    have qS := hI.Salt
    have qT := hI.Turb
    have qP := hI.Pipe
    have qR := hI.Trips
    have qD1 := hd.D1
    have qD4 := hd.D4
    have qsf := sfS_01 S
    have a0 := hI.SB 0 (by decide) (by decide)
    have a5 := hI.SB 5 (by decide) (by decide)
    have a9 := hI.SB 9 (by decide) (by decide)
    have a10 := hI.SB 10 (by decide) (by decide)
    have l0 := flS_rng hI 0
    have l1 := flS_rng hI 1
    have l2 := flS_rng hI 2
    have l3 := flS_rng hI 3
    have l4 := flS_rng hI 4
    have l5 := flS_rng hI 5
    have kD : d (5 + d 1 % 24) = S.2.2 15 (S.2.1 2 % 24) := by rw [qD1]; exact hd.D5 _ (by omega) (by omega)
    have qF := hI.Firm (S.2.1 2 % 24)
    refine lv_iload hx hb dL_goes_5 (lv_at hl 4 rfl) ?_
    refine lv_iload_n hx hb dL_goes_7 rfl (lv_at hl 2 rfl) ?_
    refine hz_icmp_ge (tgt := 271) hx hb dL_goes_8 (by decide) (by omega) (fun c1 => ?_) (fun c1 => ?_)
    · refine lv_iload_n hx hb dL_goes_271 rfl (lv_at hl 3 rfl) ?_
      exact hz_upM (by show cells ≤ 1200; omega) (by show slots ≤ 7200; omega) (W.zret (ty := .boolean) (v := zI 1) hx hb hr (zI_nb (by omega)) (fun t ht hW => ⟨⟨zI 1, (S, d), rfl, ⟨rfl, hI, hd, i, ⟨hi.1, hi.2.1⟩, (show i = n ∨ 9999 ≤ S.2.1 2 by omega), hG⟩, hz_at2 hP hD ht⟩, hS.F ht⟩) hS.2.2 dL_goes_272)
    · refine lv_iload_n hx hb dL_goes_11 rfl (lv_at hl 3 rfl) ?_
      refine hz_if_eq (tgt := 271) hx hb dL_goes_12 (by decide) (by omega) (fun q => by exfalso; omega) (fun _ => ?_)
      refine lv_aload_n hx hb dL_goes_15 rfl (lv_at hl 1 rfl) ?_
      refine hz_iconst hx hb dL_goes_16 ?_
      refine hz_dld hx hb hK hP (by omega) dL_goes_17 ?_
      refine hz_sipush hx hb dL_goes_18 (by decide) ?_
      refine hz_icmp_ge (tgt := 271) hx hb dL_goes_21 (by decide) (by omega) (fun c2 => ?_) (fun c2 => ?_)
      · refine lv_iload_n hx hb dL_goes_271 rfl (lv_at hl 3 rfl) ?_
        exact hz_upM (by show cells ≤ 1200; omega) (by show slots ≤ 7200; omega) (W.zret (ty := .boolean) (v := zI 1) hx hb hr (zI_nb (by omega)) (fun t ht hW => ⟨⟨zI 1, (S, d), rfl, ⟨rfl, hI, hd, i, ⟨hi.1, hi.2.1⟩, (show i = n ∨ 9999 ≤ S.2.1 2 by omega), hG⟩, hz_at2 hP hD ht⟩, hS.F ht⟩) hS.2.2 dL_goes_272)
      · refine lv_aload_n hx hb dL_goes_24 rfl (lv_at hl 0 rfl) ?_
        refine hz_cI (As := []) (rest := []) ⟨hx, hb, hml, hown, hts⟩ (b_isSafe l G ah zE y _ S  hI ) (cwV 0 hts gL_goes_X7_isSafe rfl rfl rfl (by decide +kernel) ⟨Nat.le_of_ble_eq_true rfl, Nat.le_of_ble_eq_true rfl⟩) hP hK hD hS hA hGP 0 8 rfl rfl rfl rfl hl.1 rfl (Nat.le_of_ble_eq_true rfl) dL_goes_25 ⟨by show cells + 0 ≤ 1200; omega, by show slots + 0 ≤ 7200; omega⟩ (fun _ => wH_fst rfl rfl rfl) (fun u3 H locs hu hP hD hS => ?_)
        have hP : va_P G vwCl (wH ah y (sF S u3.1 u3.2) ++ dW o0 y d) H := hP
        have hD : va_D A (wH ah y (sF S u3.1 u3.2) ++ dW o0 y d) := hD
        refine hz_tope (z2 := (sfS S)) (by rfl) ?_
        refine lv_istore (lv' := [(5, zi (sfS S)), (0, .ref (ah 0)), (1, .ref o0), (2, zi n), (3, zi 1), (4, zi i)]) hx hb dL_goes_28 hl (by decide) rfl (fun ls hl => ?_)
        refine lv_aload_n hx hb dL_goes_30 rfl (lv_at hl 1 rfl) ?_
        refine hz_bipush hx hb dL_goes_31 (by decide) ?_
        refine hz_cI (As := [zi 10]) (rest := []) ⟨hx, hb, hml, hown, hts⟩ (b_plantIs l hlt G ah zE y _ (sF S u3.1 u3.2) (10 : Int) (fc_F u3.1 u3.2 hI) (show 0 ≤ (10 : Int) ∧ (10 : Int) ≤ 10 by omega)) (cwV 1 hts gL_goes_X7_plantIs rfl rfl rfl (by decide +kernel) ⟨Nat.le_of_ble_eq_true rfl, Nat.le_of_ble_eq_true rfl⟩) hP hK hD hS hA hGP 0 8 rfl rfl rfl rfl hl.1 rfl (Nat.le_of_ble_eq_true rfl) dL_goes_33 ⟨by show cells + 1 ≤ 1200; omega, by show slots + 6 ≤ 7200; omega⟩ (fun _ => rfl) (fun u4 H locs hu hP hD hS => ?_)
        have hP : va_P G vwCl (wH ah y (sF S u3.1 u3.2) ++ dW o0 y d) H := hP
        have hD : va_D A (wH ah y (sF S u3.1 u3.2) ++ dW o0 y d) := hD
        refine hz_tope (z2 := (S.2.1 14)) (by rfl) ?_
        refine lv_istore (lv' := [(6, zi (S.2.1 14)), (5, zi (sfS S)), (0, .ref (ah 0)), (1, .ref o0), (2, zi n), (3, zi 1), (4, zi i)]) hx hb dL_goes_36 hl (by decide) rfl (fun ls hl => ?_)
        refine lv_aload_n hx hb dL_goes_38 rfl (lv_at hl 2 rfl) ?_
        refine hz_iconst hx hb dL_goes_39 ?_
        refine hz_cI (As := [zi 5]) (rest := []) ⟨hx, hb, hml, hown, hts⟩ (b_plantIs l hlt G ah zE y _ (sF S u3.1 u3.2) (5 : Int) (fc_F u3.1 u3.2 hI) (show 0 ≤ (5 : Int) ∧ (5 : Int) ≤ 10 by omega)) (cwV 1 hts gL_goes_X7_plantIs rfl rfl rfl (by decide +kernel) ⟨Nat.le_of_ble_eq_true rfl, Nat.le_of_ble_eq_true rfl⟩) hP hK hD hS hA hGP 0 8 rfl rfl rfl rfl hl.1 rfl (Nat.le_of_ble_eq_true rfl) dL_goes_40 ⟨by show (cells + 1) + 1 ≤ 1200; omega, by show (slots + 6) + 6 ≤ 7200; omega⟩ (fun _ => rfl) (fun u5 H locs hu hP hD hS => ?_)
        have hP : va_P G vwCl (wH ah y (sF S u3.1 u3.2) ++ dW o0 y d) H := hP
        have hD : va_D A (wH ah y (sF S u3.1 u3.2) ++ dW o0 y d) := hD
        refine hz_tope (z2 := (S.2.1 6)) (by rfl) ?_
        refine lv_istore (lv' := [(7, zi (S.2.1 6)), (6, zi (S.2.1 14)), (5, zi (sfS S)), (0, .ref (ah 0)), (1, .ref o0), (2, zi n), (3, zi 1), (4, zi i)]) hx hb dL_goes_43 hl (by decide) rfl (fun ls hl => ?_)
        refine lv_aload_n hx hb dL_goes_45 rfl (lv_at hl 3 rfl) ?_
        refine hz_iconst hx hb dL_goes_46 ?_
        refine hz_cI (As := [zi 3]) (rest := []) ⟨hx, hb, hml, hown, hts⟩ (b_plantIs l hlt G ah zE y _ (sF S u3.1 u3.2) (3 : Int) (fc_F u3.1 u3.2 hI) (show 0 ≤ (3 : Int) ∧ (3 : Int) ≤ 10 by omega)) (cwV 1 hts gL_goes_X7_plantIs rfl rfl rfl (by decide +kernel) ⟨Nat.le_of_ble_eq_true rfl, Nat.le_of_ble_eq_true rfl⟩) hP hK hD hS hA hGP 0 8 rfl rfl rfl rfl hl.1 rfl (Nat.le_of_ble_eq_true rfl) dL_goes_47 ⟨by show ((cells + 1) + 1) + 1 ≤ 1200; omega, by show ((slots + 6) + 6) + 6 ≤ 7200; omega⟩ (fun _ => rfl) (fun u6 H locs hu hP hD hS => ?_)
        have hP : va_P G vwCl (wH ah y (sF S u3.1 u3.2) ++ dW o0 y d) H := hP
        have hD : va_D A (wH ah y (sF S u3.1 u3.2) ++ dW o0 y d) := hD
        refine hz_tope (z2 := (S.2.1 5)) (by rfl) ?_
        refine lv_istore (lv' := [(8, zi (S.2.1 5)), (7, zi (S.2.1 6)), (6, zi (S.2.1 14)), (5, zi (sfS S)), (0, .ref (ah 0)), (1, .ref o0), (2, zi n), (3, zi 1), (4, zi i)]) hx hb dL_goes_50 hl (by decide) rfl (fun ls hl => ?_)
        refine lv_aload_n hx hb dL_goes_52 rfl (lv_at hl 4 rfl) ?_
        refine hz_iconst hx hb dL_goes_53 ?_
        refine hz_cL (As := [zi 5]) (rest := []) ⟨hx, hb, hml, hown, hts⟩ (b_sum l hlt G ah zE y _ (sF S u3.1 u3.2) (5 : Int) (fc_F u3.1 u3.2 hI) (show 0 ≤ (5 : Int) ∧ (5 : Int) ≤ 12 by omega)) (cwV 1 hts gL_goes_X7_sum rfl rfl rfl (by decide +kernel) ⟨Nat.le_of_ble_eq_true rfl, Nat.le_of_ble_eq_true rfl⟩) hP hK hD hS hA hGP 0 8 rfl rfl rfl rfl hl.1 rfl (Nat.le_of_ble_eq_true rfl) dL_goes_54 ⟨by show (((cells + 1) + 1) + 1) + 1 ≤ 1200; omega, by show (((slots + 6) + 6) + 6) + 6 ≤ 7200; omega⟩ (fun _ => rfl) (fun u7 H locs hu hP hD hS => ?_)
        have hP : va_P G vwCl (wH ah y (sF S u3.1 u3.2) ++ dW o0 y d) H := hP
        have hD : va_D A (wH ah y (sF S u3.1 u3.2) ++ dW o0 y d) := hD
        refine W.eq (g2 := F0 m 57 ls (zl ((S.2.2 16) 5) :: [])) rfl ?_
        refine lv_lstore (lv' := [(9, zl ((S.2.2 16) 5)), (8, zi (S.2.1 5)), (7, zi (S.2.1 6)), (6, zi (S.2.1 14)), (5, zi (sfS S)), (0, .ref (ah 0)), (1, .ref o0), (2, zi n), (3, zi 1), (4, zi i)]) hx hb dL_goes_57 hl (by decide) rfl (fun ls hl => ?_)
        refine lv_aload_n hx hb dL_goes_59 rfl (lv_at hl 5 rfl) ?_
        refine hz_iconst hx hb dL_goes_60 ?_
        refine hz_cL (As := [zi 0]) (rest := []) ⟨hx, hb, hml, hown, hts⟩ (b_sum l hlt G ah zE y _ (sF S u3.1 u3.2) (0 : Int) (fc_F u3.1 u3.2 hI) (show 0 ≤ (0 : Int) ∧ (0 : Int) ≤ 12 by omega)) (cwV 1 hts gL_goes_X7_sum rfl rfl rfl (by decide +kernel) ⟨Nat.le_of_ble_eq_true rfl, Nat.le_of_ble_eq_true rfl⟩) hP hK hD hS hA hGP 0 8 rfl rfl rfl rfl hl.1 rfl (Nat.le_of_ble_eq_true rfl) dL_goes_61 ⟨by show ((((cells + 1) + 1) + 1) + 1) + 1 ≤ 1200; omega, by show ((((slots + 6) + 6) + 6) + 6) + 6 ≤ 7200; omega⟩ (fun _ => rfl) (fun u8 H locs hu hP hD hS => ?_)
        have hP : va_P G vwCl (wH ah y (sF S u3.1 u3.2) ++ dW o0 y d) H := hP
        have hD : va_D A (wH ah y (sF S u3.1 u3.2) ++ dW o0 y d) := hD
        refine W.eq (g2 := F0 m 64 ls (zl ((S.2.2 16) 0) :: [])) rfl ?_
        refine lv_lstore (lv' := [(11, zl ((S.2.2 16) 0)), (9, zl ((S.2.2 16) 5)), (8, zi (S.2.1 5)), (7, zi (S.2.1 6)), (6, zi (S.2.1 14)), (5, zi (sfS S)), (0, .ref (ah 0)), (1, .ref o0), (2, zi n), (3, zi 1), (4, zi i)]) hx hb dL_goes_64 hl (by decide) rfl (fun ls hl => ?_)
        refine hz_iconst hx hb dL_goes_66 ?_
        refine lv_istore (lv' := [(13, zi 0), (11, zl ((S.2.2 16) 0)), (9, zl ((S.2.2 16) 5)), (8, zi (S.2.1 5)), (7, zi (S.2.1 6)), (6, zi (S.2.1 14)), (5, zi (sfS S)), (0, .ref (ah 0)), (1, .ref o0), (2, zi n), (3, zi 1), (4, zi i)]) hx hb dL_goes_67 hl (by decide) rfl (fun ls hl => ?_)
        refine hz_iconst hx hb dL_goes_69 ?_
        refine lv_istore (lv' := [(14, zi 0), (13, zi 0), (11, zl ((S.2.2 16) 0)), (9, zl ((S.2.2 16) 5)), (8, zi (S.2.1 5)), (7, zi (S.2.1 6)), (6, zi (S.2.1 14)), (5, zi (sfS S)), (0, .ref (ah 0)), (1, .ref o0), (2, zi n), (3, zi 1), (4, zi i)]) hx hb dL_goes_70 hl (by decide) rfl (fun ls hl => ?_)
        refine lv_iload hx hb dL_goes_72 (lv_at hl 0 rfl) ?_
        refine hz_bipush hx hb dL_goes_74 (by decide) ?_
        refine hz_icmp_ge (tgt := 96) hx hb dL_goes_76 (by decide) (by omega) (fun q => by exfalso; omega) (fun _ => ?_)
        refine lv_iload hx hb dL_goes_79 (lv_at hl 1 rfl) ?_
        refine lv_aload_n hx hb dL_goes_81 rfl (lv_at hl 8 rfl) ?_
        refine lv_iload hx hb dL_goes_82 (lv_at hl 0 rfl) ?_
        refine hz_cI (As := [zi 0]) (rest := [zi 0]) ⟨hx, hb, hml, hown, hts⟩ (b_flux l hlt G ah zE y _ (sF S u3.1 u3.2) (0 : Int) (fc_F u3.1 u3.2 hI) (show 0 ≤ (0 : Int) ∧ (0 : Int) ≤ 5 by omega)) (cwV 1 hts gL_goes_X7_flux rfl rfl rfl (by decide +kernel) ⟨Nat.le_of_ble_eq_true rfl, Nat.le_of_ble_eq_true rfl⟩) hP hK hD hS hA hGP 0 8 rfl rfl rfl rfl hl.1 rfl (Nat.le_of_ble_eq_true rfl) dL_goes_84 ⟨by show (((((cells + 1) + 1) + 1) + 1) + 1) + 1 ≤ 1200; omega, by show (((((slots + 6) + 6) + 6) + 6) + 6) + 6 ≤ 7200; omega⟩ (fun _ => wH_fst rfl rfl rfl) (fun u9 H locs hu hP hD hS => ?_)
        have hP : va_P G vwCl (wH ah y (sF S u9.1 u9.2) ++ dW o0 y d) H := hP
        have hD : va_D A (wH ah y (sF S u9.1 u9.2) ++ dW o0 y d) := hD
        refine hz_tope (z2 := (flS S 0)) (by rfl) ?_
        refine hz_iadd hx hb dL_goes_87 ?_
        refine lv_istore (lv' := [(13, zi (0 + (flS S 0))), (14, zi 0), (11, zl ((S.2.2 16) 0)), (9, zl ((S.2.2 16) 5)), (8, zi (S.2.1 5)), (7, zi (S.2.1 6)), (6, zi (S.2.1 14)), (5, zi (sfS S)), (0, .ref (ah 0)), (1, .ref o0), (2, zi n), (3, zi 1), (4, zi i)]) hx hb dL_goes_88 hl (by decide) rfl (fun ls hl => ?_)
        refine hz_iinc (v := 1) (lv' := [(14, zi 1), (13, zi (0 + (flS S 0))), (11, zl ((S.2.2 16) 0)), (9, zl ((S.2.2 16) 5)), (8, zi (S.2.1 5)), (7, zi (S.2.1 6)), (6, zi (S.2.1 14)), (5, zi (sfS S)), (0, .ref (ah 0)), (1, .ref o0), (2, zi n), (3, zi 1), (4, zi i)]) hx hb dL_goes_90 hl (k := 1) rfl (by omega) (by decide) rfl (fun ls hl => ?_)
        refine lv_goto (tgt := 72) hx hb dL_goes_93 (by decide) ?_
        refine lv_iload hx hb dL_goes_72 (lv_at hl 0 rfl) ?_
        refine hz_bipush hx hb dL_goes_74 (by decide) ?_
        refine hz_icmp_ge (tgt := 96) hx hb dL_goes_76 (by decide) (by omega) (fun q => by exfalso; omega) (fun _ => ?_)
        refine lv_iload hx hb dL_goes_79 (lv_at hl 1 rfl) ?_
        refine lv_aload_n hx hb dL_goes_81 rfl (lv_at hl 8 rfl) ?_
        refine lv_iload hx hb dL_goes_82 (lv_at hl 0 rfl) ?_
        refine hz_cI (As := [zi 1]) (rest := [zi (0 + (flS S 0))]) ⟨hx, hb, hml, hown, hts⟩ (b_flux l hlt G ah zE y _ (sF S u9.1 u9.2) (1 : Int) (fc_F u9.1 u9.2 hI) (show 0 ≤ (1 : Int) ∧ (1 : Int) ≤ 5 by omega)) (cwV 1 hts gL_goes_X7_flux rfl rfl rfl (by decide +kernel) ⟨Nat.le_of_ble_eq_true rfl, Nat.le_of_ble_eq_true rfl⟩) hP hK hD hS hA hGP 0 8 rfl rfl rfl rfl hl.1 rfl (Nat.le_of_ble_eq_true rfl) dL_goes_84 ⟨by show ((((((cells + 1) + 1) + 1) + 1) + 1) + 1) + 1 ≤ 1200; omega, by show ((((((slots + 6) + 6) + 6) + 6) + 6) + 6) + 6 ≤ 7200; omega⟩ (fun _ => wH_fst rfl rfl rfl) (fun u10 H locs hu hP hD hS => ?_)
        have hP : va_P G vwCl (wH ah y (sF S u10.1 u10.2) ++ dW o0 y d) H := hP
        have hD : va_D A (wH ah y (sF S u10.1 u10.2) ++ dW o0 y d) := hD
        refine hz_tope (z2 := (flS S 1)) (by rfl) ?_
        refine hz_iadd hx hb dL_goes_87 ?_
        refine lv_istore (lv' := [(13, zi ((0 + (flS S 0)) + (flS S 1))), (14, zi 1), (11, zl ((S.2.2 16) 0)), (9, zl ((S.2.2 16) 5)), (8, zi (S.2.1 5)), (7, zi (S.2.1 6)), (6, zi (S.2.1 14)), (5, zi (sfS S)), (0, .ref (ah 0)), (1, .ref o0), (2, zi n), (3, zi 1), (4, zi i)]) hx hb dL_goes_88 hl (by decide) rfl (fun ls hl => ?_)
        refine hz_iinc (v := 2) (lv' := [(14, zi 2), (13, zi ((0 + (flS S 0)) + (flS S 1))), (11, zl ((S.2.2 16) 0)), (9, zl ((S.2.2 16) 5)), (8, zi (S.2.1 5)), (7, zi (S.2.1 6)), (6, zi (S.2.1 14)), (5, zi (sfS S)), (0, .ref (ah 0)), (1, .ref o0), (2, zi n), (3, zi 1), (4, zi i)]) hx hb dL_goes_90 hl (k := 1) rfl (by omega) (by decide) rfl (fun ls hl => ?_)
        refine lv_goto (tgt := 72) hx hb dL_goes_93 (by decide) ?_
        refine lv_iload hx hb dL_goes_72 (lv_at hl 0 rfl) ?_
        refine hz_bipush hx hb dL_goes_74 (by decide) ?_
        refine hz_icmp_ge (tgt := 96) hx hb dL_goes_76 (by decide) (by omega) (fun q => by exfalso; omega) (fun _ => ?_)
        refine lv_iload hx hb dL_goes_79 (lv_at hl 1 rfl) ?_
        refine lv_aload_n hx hb dL_goes_81 rfl (lv_at hl 8 rfl) ?_
        refine lv_iload hx hb dL_goes_82 (lv_at hl 0 rfl) ?_
        refine hz_cI (As := [zi 2]) (rest := [zi ((0 + (flS S 0)) + (flS S 1))]) ⟨hx, hb, hml, hown, hts⟩ (b_flux l hlt G ah zE y _ (sF S u10.1 u10.2) (2 : Int) (fc_F u10.1 u10.2 hI) (show 0 ≤ (2 : Int) ∧ (2 : Int) ≤ 5 by omega)) (cwV 1 hts gL_goes_X7_flux rfl rfl rfl (by decide +kernel) ⟨Nat.le_of_ble_eq_true rfl, Nat.le_of_ble_eq_true rfl⟩) hP hK hD hS hA hGP 0 8 rfl rfl rfl rfl hl.1 rfl (Nat.le_of_ble_eq_true rfl) dL_goes_84 ⟨by show (((((((cells + 1) + 1) + 1) + 1) + 1) + 1) + 1) + 1 ≤ 1200; omega, by show (((((((slots + 6) + 6) + 6) + 6) + 6) + 6) + 6) + 6 ≤ 7200; omega⟩ (fun _ => wH_fst rfl rfl rfl) (fun u11 H locs hu hP hD hS => ?_)
        have hP : va_P G vwCl (wH ah y (sF S u11.1 u11.2) ++ dW o0 y d) H := hP
        have hD : va_D A (wH ah y (sF S u11.1 u11.2) ++ dW o0 y d) := hD
        refine hz_tope (z2 := (flS S 2)) (by rfl) ?_
        refine hz_iadd hx hb dL_goes_87 ?_
        refine lv_istore (lv' := [(13, zi (((0 + (flS S 0)) + (flS S 1)) + (flS S 2))), (14, zi 2), (11, zl ((S.2.2 16) 0)), (9, zl ((S.2.2 16) 5)), (8, zi (S.2.1 5)), (7, zi (S.2.1 6)), (6, zi (S.2.1 14)), (5, zi (sfS S)), (0, .ref (ah 0)), (1, .ref o0), (2, zi n), (3, zi 1), (4, zi i)]) hx hb dL_goes_88 hl (by decide) rfl (fun ls hl => ?_)
        refine hz_iinc (v := 3) (lv' := [(14, zi 3), (13, zi (((0 + (flS S 0)) + (flS S 1)) + (flS S 2))), (11, zl ((S.2.2 16) 0)), (9, zl ((S.2.2 16) 5)), (8, zi (S.2.1 5)), (7, zi (S.2.1 6)), (6, zi (S.2.1 14)), (5, zi (sfS S)), (0, .ref (ah 0)), (1, .ref o0), (2, zi n), (3, zi 1), (4, zi i)]) hx hb dL_goes_90 hl (k := 1) rfl (by omega) (by decide) rfl (fun ls hl => ?_)
        refine lv_goto (tgt := 72) hx hb dL_goes_93 (by decide) ?_
        refine lv_iload hx hb dL_goes_72 (lv_at hl 0 rfl) ?_
        refine hz_bipush hx hb dL_goes_74 (by decide) ?_
        refine hz_icmp_ge (tgt := 96) hx hb dL_goes_76 (by decide) (by omega) (fun q => by exfalso; omega) (fun _ => ?_)
        refine lv_iload hx hb dL_goes_79 (lv_at hl 1 rfl) ?_
        refine lv_aload_n hx hb dL_goes_81 rfl (lv_at hl 8 rfl) ?_
        refine lv_iload hx hb dL_goes_82 (lv_at hl 0 rfl) ?_
        refine hz_cI (As := [zi 3]) (rest := [zi (((0 + (flS S 0)) + (flS S 1)) + (flS S 2))]) ⟨hx, hb, hml, hown, hts⟩ (b_flux l hlt G ah zE y _ (sF S u11.1 u11.2) (3 : Int) (fc_F u11.1 u11.2 hI) (show 0 ≤ (3 : Int) ∧ (3 : Int) ≤ 5 by omega)) (cwV 1 hts gL_goes_X7_flux rfl rfl rfl (by decide +kernel) ⟨Nat.le_of_ble_eq_true rfl, Nat.le_of_ble_eq_true rfl⟩) hP hK hD hS hA hGP 0 8 rfl rfl rfl rfl hl.1 rfl (Nat.le_of_ble_eq_true rfl) dL_goes_84 ⟨by show ((((((((cells + 1) + 1) + 1) + 1) + 1) + 1) + 1) + 1) + 1 ≤ 1200; omega, by show ((((((((slots + 6) + 6) + 6) + 6) + 6) + 6) + 6) + 6) + 6 ≤ 7200; omega⟩ (fun _ => wH_fst rfl rfl rfl) (fun u12 H locs hu hP hD hS => ?_)
        have hP : va_P G vwCl (wH ah y (sF S u12.1 u12.2) ++ dW o0 y d) H := hP
        have hD : va_D A (wH ah y (sF S u12.1 u12.2) ++ dW o0 y d) := hD
        refine hz_tope (z2 := (flS S 3)) (by rfl) ?_
        refine hz_iadd hx hb dL_goes_87 ?_
        refine lv_istore (lv' := [(13, zi ((((0 + (flS S 0)) + (flS S 1)) + (flS S 2)) + (flS S 3))), (14, zi 3), (11, zl ((S.2.2 16) 0)), (9, zl ((S.2.2 16) 5)), (8, zi (S.2.1 5)), (7, zi (S.2.1 6)), (6, zi (S.2.1 14)), (5, zi (sfS S)), (0, .ref (ah 0)), (1, .ref o0), (2, zi n), (3, zi 1), (4, zi i)]) hx hb dL_goes_88 hl (by decide) rfl (fun ls hl => ?_)
        refine hz_iinc (v := 4) (lv' := [(14, zi 4), (13, zi ((((0 + (flS S 0)) + (flS S 1)) + (flS S 2)) + (flS S 3))), (11, zl ((S.2.2 16) 0)), (9, zl ((S.2.2 16) 5)), (8, zi (S.2.1 5)), (7, zi (S.2.1 6)), (6, zi (S.2.1 14)), (5, zi (sfS S)), (0, .ref (ah 0)), (1, .ref o0), (2, zi n), (3, zi 1), (4, zi i)]) hx hb dL_goes_90 hl (k := 1) rfl (by omega) (by decide) rfl (fun ls hl => ?_)
        refine lv_goto (tgt := 72) hx hb dL_goes_93 (by decide) ?_
        refine lv_iload hx hb dL_goes_72 (lv_at hl 0 rfl) ?_
        refine hz_bipush hx hb dL_goes_74 (by decide) ?_
        refine hz_icmp_ge (tgt := 96) hx hb dL_goes_76 (by decide) (by omega) (fun q => by exfalso; omega) (fun _ => ?_)
        refine lv_iload hx hb dL_goes_79 (lv_at hl 1 rfl) ?_
        refine lv_aload_n hx hb dL_goes_81 rfl (lv_at hl 8 rfl) ?_
        refine lv_iload hx hb dL_goes_82 (lv_at hl 0 rfl) ?_
        refine hz_cI (As := [zi 4]) (rest := [zi ((((0 + (flS S 0)) + (flS S 1)) + (flS S 2)) + (flS S 3))]) ⟨hx, hb, hml, hown, hts⟩ (b_flux l hlt G ah zE y _ (sF S u12.1 u12.2) (4 : Int) (fc_F u12.1 u12.2 hI) (show 0 ≤ (4 : Int) ∧ (4 : Int) ≤ 5 by omega)) (cwV 1 hts gL_goes_X7_flux rfl rfl rfl (by decide +kernel) ⟨Nat.le_of_ble_eq_true rfl, Nat.le_of_ble_eq_true rfl⟩) hP hK hD hS hA hGP 0 8 rfl rfl rfl rfl hl.1 rfl (Nat.le_of_ble_eq_true rfl) dL_goes_84 ⟨by show (((((((((cells + 1) + 1) + 1) + 1) + 1) + 1) + 1) + 1) + 1) + 1 ≤ 1200; omega, by show (((((((((slots + 6) + 6) + 6) + 6) + 6) + 6) + 6) + 6) + 6) + 6 ≤ 7200; omega⟩ (fun _ => wH_fst rfl rfl rfl) (fun u13 H locs hu hP hD hS => ?_)
        have hP : va_P G vwCl (wH ah y (sF S u13.1 u13.2) ++ dW o0 y d) H := hP
        have hD : va_D A (wH ah y (sF S u13.1 u13.2) ++ dW o0 y d) := hD
        refine hz_tope (z2 := (flS S 4)) (by rfl) ?_
        refine hz_iadd hx hb dL_goes_87 ?_
        refine lv_istore (lv' := [(13, zi (((((0 + (flS S 0)) + (flS S 1)) + (flS S 2)) + (flS S 3)) + (flS S 4))), (14, zi 4), (11, zl ((S.2.2 16) 0)), (9, zl ((S.2.2 16) 5)), (8, zi (S.2.1 5)), (7, zi (S.2.1 6)), (6, zi (S.2.1 14)), (5, zi (sfS S)), (0, .ref (ah 0)), (1, .ref o0), (2, zi n), (3, zi 1), (4, zi i)]) hx hb dL_goes_88 hl (by decide) rfl (fun ls hl => ?_)
        refine hz_iinc (v := 5) (lv' := [(14, zi 5), (13, zi (((((0 + (flS S 0)) + (flS S 1)) + (flS S 2)) + (flS S 3)) + (flS S 4))), (11, zl ((S.2.2 16) 0)), (9, zl ((S.2.2 16) 5)), (8, zi (S.2.1 5)), (7, zi (S.2.1 6)), (6, zi (S.2.1 14)), (5, zi (sfS S)), (0, .ref (ah 0)), (1, .ref o0), (2, zi n), (3, zi 1), (4, zi i)]) hx hb dL_goes_90 hl (k := 1) rfl (by omega) (by decide) rfl (fun ls hl => ?_)
        refine lv_goto (tgt := 72) hx hb dL_goes_93 (by decide) ?_
        refine lv_iload hx hb dL_goes_72 (lv_at hl 0 rfl) ?_
        refine hz_bipush hx hb dL_goes_74 (by decide) ?_
        refine hz_icmp_ge (tgt := 96) hx hb dL_goes_76 (by decide) (by omega) (fun q => by exfalso; omega) (fun _ => ?_)
        refine lv_iload hx hb dL_goes_79 (lv_at hl 1 rfl) ?_
        refine lv_aload_n hx hb dL_goes_81 rfl (lv_at hl 8 rfl) ?_
        refine lv_iload hx hb dL_goes_82 (lv_at hl 0 rfl) ?_
        refine hz_cI (As := [zi 5]) (rest := [zi (((((0 + (flS S 0)) + (flS S 1)) + (flS S 2)) + (flS S 3)) + (flS S 4))]) ⟨hx, hb, hml, hown, hts⟩ (b_flux l hlt G ah zE y _ (sF S u13.1 u13.2) (5 : Int) (fc_F u13.1 u13.2 hI) (show 0 ≤ (5 : Int) ∧ (5 : Int) ≤ 5 by omega)) (cwV 1 hts gL_goes_X7_flux rfl rfl rfl (by decide +kernel) ⟨Nat.le_of_ble_eq_true rfl, Nat.le_of_ble_eq_true rfl⟩) hP hK hD hS hA hGP 0 8 rfl rfl rfl rfl hl.1 rfl (Nat.le_of_ble_eq_true rfl) dL_goes_84 ⟨by show ((((((((((cells + 1) + 1) + 1) + 1) + 1) + 1) + 1) + 1) + 1) + 1) + 1 ≤ 1200; omega, by show ((((((((((slots + 6) + 6) + 6) + 6) + 6) + 6) + 6) + 6) + 6) + 6) + 6 ≤ 7200; omega⟩ (fun _ => wH_fst rfl rfl rfl) (fun u14 H locs hu hP hD hS => ?_)
        have hP : va_P G vwCl (wH ah y (sF S u14.1 u14.2) ++ dW o0 y d) H := hP
        have hD : va_D A (wH ah y (sF S u14.1 u14.2) ++ dW o0 y d) := hD
        refine hz_tope (z2 := (flS S 5)) (by rfl) ?_
        refine hz_iadd hx hb dL_goes_87 ?_
        refine lv_istore (lv' := [(13, zi ((((((0 + (flS S 0)) + (flS S 1)) + (flS S 2)) + (flS S 3)) + (flS S 4)) + (flS S 5))), (14, zi 5), (11, zl ((S.2.2 16) 0)), (9, zl ((S.2.2 16) 5)), (8, zi (S.2.1 5)), (7, zi (S.2.1 6)), (6, zi (S.2.1 14)), (5, zi (sfS S)), (0, .ref (ah 0)), (1, .ref o0), (2, zi n), (3, zi 1), (4, zi i)]) hx hb dL_goes_88 hl (by decide) rfl (fun ls hl => ?_)
        refine hz_iinc (v := 6) (lv' := [(14, zi 6), (13, zi ((((((0 + (flS S 0)) + (flS S 1)) + (flS S 2)) + (flS S 3)) + (flS S 4)) + (flS S 5))), (11, zl ((S.2.2 16) 0)), (9, zl ((S.2.2 16) 5)), (8, zi (S.2.1 5)), (7, zi (S.2.1 6)), (6, zi (S.2.1 14)), (5, zi (sfS S)), (0, .ref (ah 0)), (1, .ref o0), (2, zi n), (3, zi 1), (4, zi i)]) hx hb dL_goes_90 hl (k := 1) rfl (by omega) (by decide) rfl (fun ls hl => ?_)
        refine lv_goto (tgt := 72) hx hb dL_goes_93 (by decide) ?_
        refine lv_iload hx hb dL_goes_72 (lv_at hl 0 rfl) ?_
        refine hz_bipush hx hb dL_goes_74 (by decide) ?_
        refine hz_icmp_ge (tgt := 96) hx hb dL_goes_76 (by decide) (by omega) (fun _ => ?_) (fun q => by exfalso; omega)
        refine lv_aload_n hx hb dL_goes_96 rfl (lv_at hl 9 rfl) ?_
        refine hz_iconst hx hb dL_goes_97 ?_
        refine lv_dup2_11 hx hb dL_goes_98 rfl rfl ?_
        refine hz_dld hx hb hK hP (by omega) dL_goes_99 ?_
        refine lv_aload_n hx hb dL_goes_100 rfl (lv_at hl 9 rfl) ?_
        refine hz_iconst hx hb dL_goes_101 ?_
        refine lv_aload_n hx hb dL_goes_102 rfl (lv_at hl 9 rfl) ?_
        refine hz_iconst hx hb dL_goes_103 ?_
        refine hz_dld hx hb hK hP (by omega) dL_goes_104 ?_
        refine hz_bipush hx hb dL_goes_105 (by decide) ?_
        refine hz_irem hx hb dL_goes_107 (by omega) ?_
        refine hz_iadd hx hb dL_goes_108 ?_
        refine hz_dld hx hb hK hP (by omega) dL_goes_109 ?_
        refine hz_iadd hx hb dL_goes_110 ?_
        refine hz_dst hx hb hK hP hD hS (by omega) dL_goes_111 (fun H locs hP hD hS => ?_)
        have hP : va_P G vwCl (wH ah y (sF S u14.1 u14.2) ++ dW o0 y (upZ d 4 ((d 4) + (d (5 + ((d 1) % 24)))))) H := hP
        have hD : va_D A (wH ah y (sF S u14.1 u14.2) ++ dW o0 y (upZ d 4 ((d 4) + (d (5 + ((d 1) % 24)))))) := hD
        refine lv_aload_n hx hb dL_goes_112 rfl (lv_at hl 9 rfl) ?_
        refine hz_iconst hx hb dL_goes_113 ?_
        refine lv_dup2_11 hx hb dL_goes_114 rfl rfl ?_
        refine hz_dld hx hb hK hP (by omega) dL_goes_115 ?_
        refine hz_tope (z2 := (d 1)) (by simp [upZ]) ?_
        refine hz_iconst hx hb dL_goes_116 ?_
        refine hz_iadd hx hb dL_goes_117 ?_
        refine hz_dst hx hb hK hP hD hS (by omega) dL_goes_118 (fun H locs hP hD hS => ?_)
        have hP : va_P G vwCl (wH ah y (sF S u14.1 u14.2) ++ dW o0 y (upZ (upZ d 4 ((d 4) + (d (5 + ((d 1) % 24))))) 1 ((d 1) + 1))) H := hP
        have hD : va_D A (wH ah y (sF S u14.1 u14.2) ++ dW o0 y (upZ (upZ d 4 ((d 4) + (d (5 + ((d 1) % 24))))) 1 ((d 1) + 1))) := hD
        refine lv_aload_n hx hb dL_goes_119 rfl (lv_at hl 8 rfl) ?_
        refine hz_iconst hx hb dL_goes_120 ?_
        refine hz_cN (As := [zi 1]) (rest := []) ⟨hx, hb, hml, hown, hts⟩ (b_pass l hlt G ah zE y _ (sF S u14.1 u14.2) (fc_F u14.1 u14.2 hI) (show (S.2.1 2) + 1 ≤ 9999 by omega)) (cwV 1 hts gL_goes_X7_pass rfl rfl rfl (by decide +kernel) ⟨Nat.le_of_ble_eq_true rfl, Nat.le_of_ble_eq_true rfl⟩) hP hK hD hS hA hGP 0 8 rfl rfl rfl rfl hl.1 rfl (Nat.le_of_ble_eq_true rfl) dL_goes_121 ⟨by show (((((((((((cells + 1) + 1) + 1) + 1) + 1) + 1) + 1) + 1) + 1) + 1) + 1) + 2 ≤ 1200; omega, by show (((((((((((slots + 6) + 6) + 6) + 6) + 6) + 6) + 6) + 6) + 6) + 6) + 6) + 12 ≤ 7200; omega⟩ (fun r u15 H locs hu hP hD hS => ?_)
        obtain ⟨rfl, hTK, hI1⟩ := hu
        have hTK : TK S u15 := hTK
        refine hz_tope (z2 := (S.2.1 2) + 1) (by rfl) ?_
        have hP : va_P G vwCl (wH ah y u15 ++ dW o0 y (upZ (upZ d 4 ((d 4) + (d (5 + ((d 1) % 24))))) 1 ((d 1) + 1))) H := hP
        have hD : va_D A (wH ah y u15 ++ dW o0 y (upZ (upZ d 4 ((d 4) + (d (5 + ((d 1) % 24))))) 1 ((d 1) + 1))) := hD
        have kA := hTK.trips
        have kL := hTK.light
        rw [alS6] at kL
        have kF := hTK.firm
        have kN := hTK.to.2.2.2.2.2.2.2.2.1
        have b0 := hI1.SB 0 (by decide) (by decide)
        have b5 := hI1.SB 5 (by decide) (by decide)
        have b9 := hI1.SB 9 (by decide) (by decide)
        have b10 := hI1.SB 10 (by decide) (by decide)
        have bS := hI1.Salt
        have bN := hI1.Now
        have bT := hI1.Turb
        have bR := hI1.Trips
        refine lv_aload_n hx hb dL_goes_124 rfl (lv_at hl 9 rfl) ?_
        refine hz_iconst hx hb dL_goes_125 ?_
        refine hz_dld hx hb hK hP (by omega) dL_goes_126 ?_
        refine hz_tope (z2 := ((d 1) + 1)) (by first | rfl | exact upZ_s rfl | simp [upZ]) ?_
        refine hz_icmp_ne (tgt := 200) hx hb dL_goes_127 (by decide) (by omega) (fun q => by exfalso; omega) (fun _ => ?_)
        refine lv_aload_n hx hb dL_goes_130 rfl (lv_at hl 8 rfl) ?_
        refine hz_bipush hx hb dL_goes_131 (by decide) ?_
        refine hz_cI (As := [zi 10]) (rest := []) ⟨hx, hb, hml, hown, hts⟩ (b_plantIs l hlt G ah zE y _ u15 (10 : Int) hI1 (show 0 ≤ (10 : Int) ∧ (10 : Int) ≤ 10 by omega)) (cwV 1 hts gL_goes_X7_plantIs rfl rfl rfl (by decide +kernel) ⟨Nat.le_of_ble_eq_true rfl, Nat.le_of_ble_eq_true rfl⟩) hP hK hD hS hA hGP 0 8 rfl rfl rfl rfl hl.1 rfl (Nat.le_of_ble_eq_true rfl) dL_goes_133 ⟨by show ((((((((((((cells + 1) + 1) + 1) + 1) + 1) + 1) + 1) + 1) + 1) + 1) + 1) + 2) + 1 ≤ 1200; omega, by show ((((((((((((slots + 6) + 6) + 6) + 6) + 6) + 6) + 6) + 6) + 6) + 6) + 6) + 12) + 6 ≤ 7200; omega⟩ (fun _ => rfl) (fun u16 H locs hu hP hD hS => ?_)
        have hP : va_P G vwCl (wH ah y u15 ++ dW o0 y (upZ (upZ d 4 ((d 4) + (d (5 + ((d 1) % 24))))) 1 ((d 1) + 1))) H := hP
        have hD : va_D A (wH ah y u15 ++ dW o0 y (upZ (upZ d 4 ((d 4) + (d (5 + ((d 1) % 24))))) 1 ((d 1) + 1))) := hD
        refine hz_tope (z2 := (u15.2.1 14)) (by rfl) ?_
        refine lv_iload hx hb dL_goes_136 (lv_at hl 6 rfl) ?_
        refine hz_isub hx hb dL_goes_138 ?_
        refine hz_if_lt (tgt := 200) hx hb dL_goes_139 (by decide) (by omega) (fun q => by exfalso; omega) (fun _ => ?_)
        refine lv_aload_n hx hb dL_goes_142 rfl (lv_at hl 8 rfl) ?_
        refine hz_bipush hx hb dL_goes_143 (by decide) ?_
        refine hz_cI (As := [zi 10]) (rest := []) ⟨hx, hb, hml, hown, hts⟩ (b_plantIs l hlt G ah zE y _ u15 (10 : Int) hI1 (show 0 ≤ (10 : Int) ∧ (10 : Int) ≤ 10 by omega)) (cwV 1 hts gL_goes_X7_plantIs rfl rfl rfl (by decide +kernel) ⟨Nat.le_of_ble_eq_true rfl, Nat.le_of_ble_eq_true rfl⟩) hP hK hD hS hA hGP 0 8 rfl rfl rfl rfl hl.1 rfl (Nat.le_of_ble_eq_true rfl) dL_goes_145 ⟨by show (((((((((((((cells + 1) + 1) + 1) + 1) + 1) + 1) + 1) + 1) + 1) + 1) + 1) + 2) + 1) + 1 ≤ 1200; omega, by show (((((((((((((slots + 6) + 6) + 6) + 6) + 6) + 6) + 6) + 6) + 6) + 6) + 6) + 12) + 6) + 6 ≤ 7200; omega⟩ (fun _ => rfl) (fun u17 H locs hu hP hD hS => ?_)
        have hP : va_P G vwCl (wH ah y u15 ++ dW o0 y (upZ (upZ d 4 ((d 4) + (d (5 + ((d 1) % 24))))) 1 ((d 1) + 1))) H := hP
        have hD : va_D A (wH ah y u15 ++ dW o0 y (upZ (upZ d 4 ((d 4) + (d (5 + ((d 1) % 24))))) 1 ((d 1) + 1))) := hD
        refine hz_tope (z2 := (u15.2.1 14)) (by rfl) ?_
        refine lv_iload hx hb dL_goes_148 (lv_at hl 6 rfl) ?_
        refine hz_isub hx hb dL_goes_150 ?_
        refine lv_iload hx hb dL_goes_151 (lv_at hl 7 rfl) ?_
        refine hz_if_eq (tgt := 160) hx hb dL_goes_153 (by decide) (by omega) (fun c18 => ?_) (fun c18 => ?_)
        · refine hz_iconst hx hb dL_goes_160 ?_
          refine hz_icmp_gt (tgt := 200) hx hb dL_goes_161 (by decide) (by omega) (fun q => by exfalso; omega) (fun _ => ?_)
          refine lv_iload hx hb dL_goes_164 (lv_at hl 5 rfl) ?_
          refine hz_iconst hx hb dL_goes_166 ?_
          refine hz_icmp_eq (tgt := 181) hx hb dL_goes_167 (by decide) (by omega) (fun c19 => ?_) (fun c19 => ?_)
          · refine lv_aload_n hx hb dL_goes_181 rfl (lv_at hl 8 rfl) ?_
            refine hz_iconst hx hb dL_goes_182 ?_
            refine hz_cL (As := [zi 0]) (rest := []) ⟨hx, hb, hml, hown, hts⟩ (b_sum l hlt G ah zE y _ u15 (0 : Int) hI1 (show 0 ≤ (0 : Int) ∧ (0 : Int) ≤ 12 by omega)) (cwV 1 hts gL_goes_X7_sum rfl rfl rfl (by decide +kernel) ⟨Nat.le_of_ble_eq_true rfl, Nat.le_of_ble_eq_true rfl⟩) hP hK hD hS hA hGP 0 8 rfl rfl rfl rfl hl.1 rfl (Nat.le_of_ble_eq_true rfl) dL_goes_183 ⟨by show ((((((((((((((cells + 1) + 1) + 1) + 1) + 1) + 1) + 1) + 1) + 1) + 1) + 1) + 2) + 1) + 1) + 1 ≤ 1200; omega, by show ((((((((((((((slots + 6) + 6) + 6) + 6) + 6) + 6) + 6) + 6) + 6) + 6) + 6) + 12) + 6) + 6) + 6 ≤ 7200; omega⟩ (fun _ => rfl) (fun u20 H locs hu hP hD hS => ?_)
            have hP : va_P G vwCl (wH ah y u15 ++ dW o0 y (upZ (upZ d 4 ((d 4) + (d (5 + ((d 1) % 24))))) 1 ((d 1) + 1))) H := hP
            have hD : va_D A (wH ah y u15 ++ dW o0 y (upZ (upZ d 4 ((d 4) + (d (5 + ((d 1) % 24))))) 1 ((d 1) + 1))) := hD
            refine W.eq (g2 := F0 m 186 ls (zl ((u15.2.2 16) 0) :: [])) rfl ?_
            refine lv_lload hx hb dL_goes_186 (lv_at hl 2 rfl) ?_
            refine hz_lsub hx hb dL_goes_188 ?_
            refine lv_iload hx hb dL_goes_189 (lv_at hl 1 rfl) ?_
            refine hz_i2l hx hb dL_goes_191 (by omega) ?_
            refine hz_lcmp3 hx hb (by omega) dL_goes_192 ?_
            refine hz_if_lt (tgt := 200) hx hb dL_goes_193 (by decide) (by omega) (fun q => by exfalso; omega) (fun _ => ?_)
            refine hz_iconst hx hb dL_goes_196 ?_
            refine lv_goto (tgt := 201) hx hb dL_goes_197 (by decide) ?_
            refine lv_istore_n (lv' := [(3, zi 1), (14, zi 6), (13, zi ((((((0 + (flS S 0)) + (flS S 1)) + (flS S 2)) + (flS S 3)) + (flS S 4)) + (flS S 5))), (11, zl ((S.2.2 16) 0)), (9, zl ((S.2.2 16) 5)), (8, zi (S.2.1 5)), (7, zi (S.2.1 6)), (6, zi (S.2.1 14)), (5, zi (sfS S)), (0, .ref (ah 0)), (1, .ref o0), (2, zi n), (4, zi i)]) hx hb dL_goes_201 rfl hl (by decide) rfl (fun ls hl => ?_)
            refine lv_iload_n hx hb dL_goes_202 rfl (lv_at hl 0 rfl) ?_
            refine hz_if_eq (tgt := 263) hx hb dL_goes_203 (by decide) (by omega) (fun q => by exfalso; omega) (fun _ => ?_)
            refine lv_aload_n hx hb dL_goes_206 rfl (lv_at hl 9 rfl) ?_
            refine hz_bipush hx hb dL_goes_207 (by decide) ?_
            refine hz_cI (As := [zi 7]) (rest := []) ⟨hx, hb, hml, hown, hts⟩ (b_plantIs l hlt G ah zE y _ u15 (7 : Int) hI1 (show 0 ≤ (7 : Int) ∧ (7 : Int) ≤ 10 by omega)) (cwV 1 hts gL_goes_X7_plantIs rfl rfl rfl (by decide +kernel) ⟨Nat.le_of_ble_eq_true rfl, Nat.le_of_ble_eq_true rfl⟩) hP hK hD hS hA hGP 0 8 rfl rfl rfl rfl hl.1 rfl (Nat.le_of_ble_eq_true rfl) dL_goes_209 ⟨by show (((((((((((((((cells + 1) + 1) + 1) + 1) + 1) + 1) + 1) + 1) + 1) + 1) + 1) + 2) + 1) + 1) + 1) + 1 ≤ 1200; omega, by show (((((((((((((((slots + 6) + 6) + 6) + 6) + 6) + 6) + 6) + 6) + 6) + 6) + 6) + 12) + 6) + 6) + 6) + 6 ≤ 7200; omega⟩ (fun _ => rfl) (fun u21 H locs hu hP hD hS => ?_)
            have hP : va_P G vwCl (wH ah y u15 ++ dW o0 y (upZ (upZ d 4 ((d 4) + (d (5 + ((d 1) % 24))))) 1 ((d 1) + 1))) H := hP
            have hD : va_D A (wH ah y u15 ++ dW o0 y (upZ (upZ d 4 ((d 4) + (d (5 + ((d 1) % 24))))) 1 ((d 1) + 1))) := hD
            refine hz_tope (z2 := (u15.2.1 10)) (by rfl) ?_
            refine hz_iconst hx hb dL_goes_212 ?_
            refine hz_icmp_eq (tgt := 238) hx hb dL_goes_213 (by decide) (by omega) (fun c22 => ?_) (fun c22 => ?_)
            · refine lv_aload_n hx hb dL_goes_238 rfl (lv_at hl 9 rfl) ?_
              refine hz_bipush hx hb dL_goes_239 (by decide) ?_
              refine hz_cL (As := [zi 9]) (rest := []) ⟨hx, hb, hml, hown, hts⟩ (b_sum l hlt G ah zE y _ u15 (9 : Int) hI1 (show 0 ≤ (9 : Int) ∧ (9 : Int) ≤ 12 by omega)) (cwV 1 hts gL_goes_X7_sum rfl rfl rfl (by decide +kernel) ⟨Nat.le_of_ble_eq_true rfl, Nat.le_of_ble_eq_true rfl⟩) hP hK hD hS hA hGP 0 8 rfl rfl rfl rfl hl.1 rfl (Nat.le_of_ble_eq_true rfl) dL_goes_241 ⟨by show ((((((((((((((((cells + 1) + 1) + 1) + 1) + 1) + 1) + 1) + 1) + 1) + 1) + 1) + 2) + 1) + 1) + 1) + 1) + 1 ≤ 1200; omega, by show ((((((((((((((((slots + 6) + 6) + 6) + 6) + 6) + 6) + 6) + 6) + 6) + 6) + 6) + 12) + 6) + 6) + 6) + 6) + 6 ≤ 7200; omega⟩ (fun _ => rfl) (fun u23 H locs hu hP hD hS => ?_)
              have hP : va_P G vwCl (wH ah y u15 ++ dW o0 y (upZ (upZ d 4 ((d 4) + (d (5 + ((d 1) % 24))))) 1 ((d 1) + 1))) H := hP
              have hD : va_D A (wH ah y u15 ++ dW o0 y (upZ (upZ d 4 ((d 4) + (d (5 + ((d 1) % 24))))) 1 ((d 1) + 1))) := hD
              refine W.eq (g2 := F0 m 244 ls (zl ((u15.2.2 16) 9) :: [])) rfl ?_
              refine lv_aload_n hx hb dL_goes_244 rfl (lv_at hl 9 rfl) ?_
              refine hz_bipush hx hb dL_goes_245 (by decide) ?_
              refine hz_cL (As := [zi 10]) (rest := [zl ((u15.2.2 16) 9)]) ⟨hx, hb, hml, hown, hts⟩ (b_sum l hlt G ah zE y _ u15 (10 : Int) hI1 (show 0 ≤ (10 : Int) ∧ (10 : Int) ≤ 12 by omega)) (cwV 1 hts gL_goes_X7_sum rfl rfl rfl (by decide +kernel) ⟨Nat.le_of_ble_eq_true rfl, Nat.le_of_ble_eq_true rfl⟩) hP hK hD hS hA hGP 0 8 rfl rfl rfl rfl hl.1 rfl (Nat.le_of_ble_eq_true rfl) dL_goes_247 ⟨by show (((((((((((((((((cells + 1) + 1) + 1) + 1) + 1) + 1) + 1) + 1) + 1) + 1) + 1) + 2) + 1) + 1) + 1) + 1) + 1) + 1 ≤ 1200; omega, by show (((((((((((((((((slots + 6) + 6) + 6) + 6) + 6) + 6) + 6) + 6) + 6) + 6) + 6) + 12) + 6) + 6) + 6) + 6) + 6) + 6 ≤ 7200; omega⟩ (fun _ => rfl) (fun u24 H locs hu hP hD hS => ?_)
              have hP : va_P G vwCl (wH ah y u15 ++ dW o0 y (upZ (upZ d 4 ((d 4) + (d (5 + ((d 1) % 24))))) 1 ((d 1) + 1))) H := hP
              have hD : va_D A (wH ah y u15 ++ dW o0 y (upZ (upZ d 4 ((d 4) + (d (5 + ((d 1) % 24))))) 1 ((d 1) + 1))) := hD
              refine W.eq (g2 := F0 m 250 ls (zl ((u15.2.2 16) 10) :: zl ((u15.2.2 16) 9) :: [])) rfl ?_
              refine hz_ladd hx hb dL_goes_250 ?_
              refine lv_aload_n hx hb dL_goes_251 rfl (lv_at hl 10 rfl) ?_
              refine hz_iconst hx hb dL_goes_252 ?_
              refine hz_dld hx hb hK hP (by omega) dL_goes_253 ?_
              refine hz_tope (z2 := ((d 4) + (d (5 + ((d 1) % 24))))) (by first | rfl | exact upZ_s rfl | simp [upZ]) ?_
              refine hz_i2l hx hb dL_goes_254 (by omega) ?_
              refine hz_lcmp3 hx hb (by omega) dL_goes_255 ?_
              refine hz_if_ne (tgt := 263) hx hb dL_goes_256 (by decide) (by omega) (fun q => by exfalso; omega) (fun _ => ?_)
              refine hz_iconst hx hb dL_goes_259 ?_
              refine lv_goto (tgt := 264) hx hb dL_goes_260 (by decide) ?_
              refine lv_istore_n (lv' := [(3, zi 1), (14, zi 6), (13, zi ((((((0 + (flS S 0)) + (flS S 1)) + (flS S 2)) + (flS S 3)) + (flS S 4)) + (flS S 5))), (11, zl ((S.2.2 16) 0)), (9, zl ((S.2.2 16) 5)), (8, zi (S.2.1 5)), (7, zi (S.2.1 6)), (6, zi (S.2.1 14)), (5, zi (sfS S)), (0, .ref (ah 0)), (1, .ref o0), (2, zi n), (4, zi i)]) hx hb dL_goes_264 rfl hl (by decide) rfl (fun ls hl => ?_)
              refine hz_iinc (v := (i + 1)) (lv' := [(4, zi (i + 1)), (3, zi 1), (14, zi 6), (13, zi ((((((0 + (flS S 0)) + (flS S 1)) + (flS S 2)) + (flS S 3)) + (flS S 4)) + (flS S 5))), (11, zl ((S.2.2 16) 0)), (9, zl ((S.2.2 16) 5)), (8, zi (S.2.1 5)), (7, zi (S.2.1 6)), (6, zi (S.2.1 14)), (5, zi (sfS S)), (0, .ref (ah 0)), (1, .ref o0), (2, zi n)]) hx hb dL_goes_265 hl (k := 12) rfl (by omega) (by decide) rfl (fun ls hl => ?_)
              refine lv_goto (tgt := 5) hx hb dL_goes_268 (by decide) ?_
              exact ih (i + 1) u15 _ H locs ((((((((((((((((((cells + 1) + 1) + 1) + 1) + 1) + 1) + 1) + 1) + 1) + 1) + 1) + 2) + 1) + 1) + 1) + 1) + 1) + 1) ((((((((((((((((((slots + 6) + 6) + 6) + 6) + 6) + 6) + 6) + 6) + 6) + 6) + 6) + 12) + 6) + 6) + 6) + 6) + 6) + 6) ⟨by omega, by omega, by omega⟩ ⟨by omega, by omega⟩ hI1 (fd_tick qNow.1 hd hTK) (hG.tick hi.1 hI hTK) hP hD hS ls (lv_sub hl [10, 11, 12, 1, 0] rfl)
            · have kT := hTK.hot.resolve_left c22
              refine lv_aload_n hx hb dL_goes_216 rfl (lv_at hl 9 rfl) ?_
              refine hz_iconst hx hb dL_goes_217 ?_
              refine hz_cI (As := [zi 3]) (rest := []) ⟨hx, hb, hml, hown, hts⟩ (b_plantIs l hlt G ah zE y _ u15 (3 : Int) hI1 (show 0 ≤ (3 : Int) ∧ (3 : Int) ≤ 10 by omega)) (cwV 1 hts gL_goes_X7_plantIs rfl rfl rfl (by decide +kernel) ⟨Nat.le_of_ble_eq_true rfl, Nat.le_of_ble_eq_true rfl⟩) hP hK hD hS hA hGP 0 8 rfl rfl rfl rfl hl.1 rfl (Nat.le_of_ble_eq_true rfl) dL_goes_218 ⟨by show ((((((((((((((((cells + 1) + 1) + 1) + 1) + 1) + 1) + 1) + 1) + 1) + 1) + 1) + 2) + 1) + 1) + 1) + 1) + 1 ≤ 1200; omega, by show ((((((((((((((((slots + 6) + 6) + 6) + 6) + 6) + 6) + 6) + 6) + 6) + 6) + 6) + 12) + 6) + 6) + 6) + 6) + 6 ≤ 7200; omega⟩ (fun _ => rfl) (fun u25 H locs hu hP hD hS => ?_)
              have hP : va_P G vwCl (wH ah y u15 ++ dW o0 y (upZ (upZ d 4 ((d 4) + (d (5 + ((d 1) % 24))))) 1 ((d 1) + 1))) H := hP
              have hD : va_D A (wH ah y u15 ++ dW o0 y (upZ (upZ d 4 ((d 4) + (d (5 + ((d 1) % 24))))) 1 ((d 1) + 1))) := hD
              refine hz_tope (z2 := (u15.2.1 5)) (by rfl) ?_
              refine hz_i2l hx hb dL_goes_221 (by omega) ?_
              refine lv_iload hx hb dL_goes_222 (lv_at hl 5 rfl) ?_
              refine hz_i2l hx hb dL_goes_224 (by omega) ?_
              refine lv_aload_n hx hb dL_goes_225 rfl (lv_at hl 9 rfl) ?_
              refine hz_iconst hx hb dL_goes_226 ?_
              refine hz_cL (As := [zi 5]) (rest := [zl (S.2.1 5), zl (u15.2.1 5)]) ⟨hx, hb, hml, hown, hts⟩ (b_sum l hlt G ah zE y _ u15 (5 : Int) hI1 (show 0 ≤ (5 : Int) ∧ (5 : Int) ≤ 12 by omega)) (cwV 1 hts gL_goes_X7_sum rfl rfl rfl (by decide +kernel) ⟨Nat.le_of_ble_eq_true rfl, Nat.le_of_ble_eq_true rfl⟩) hP hK hD hS hA hGP 0 8 rfl rfl rfl rfl hl.1 rfl (Nat.le_of_ble_eq_true rfl) dL_goes_227 ⟨by show (((((((((((((((((cells + 1) + 1) + 1) + 1) + 1) + 1) + 1) + 1) + 1) + 1) + 1) + 2) + 1) + 1) + 1) + 1) + 1) + 1 ≤ 1200; omega, by show (((((((((((((((((slots + 6) + 6) + 6) + 6) + 6) + 6) + 6) + 6) + 6) + 6) + 6) + 12) + 6) + 6) + 6) + 6) + 6) + 6 ≤ 7200; omega⟩ (fun _ => rfl) (fun u26 H locs hu hP hD hS => ?_)
              have hP : va_P G vwCl (wH ah y u15 ++ dW o0 y (upZ (upZ d 4 ((d 4) + (d (5 + ((d 1) % 24))))) 1 ((d 1) + 1))) H := hP
              have hD : va_D A (wH ah y u15 ++ dW o0 y (upZ (upZ d 4 ((d 4) + (d (5 + ((d 1) % 24))))) 1 ((d 1) + 1))) := hD
              refine W.eq (g2 := F0 m 230 ls (zl ((u15.2.2 16) 5) :: zl (S.2.1 5) :: zl (u15.2.1 5) :: [])) rfl ?_
              refine hz_ladd hx hb dL_goes_230 ?_
              refine lv_lload hx hb dL_goes_231 (lv_at hl 4 rfl) ?_
              refine hz_lsub hx hb dL_goes_233 ?_
              refine hz_lcmp3 hx hb (by omega) dL_goes_234 ?_
              refine hz_if_ne (tgt := 263) hx hb dL_goes_235 (by decide) (by omega) (fun q => by exfalso; omega) (fun _ => ?_)
              refine lv_aload_n hx hb dL_goes_238 rfl (lv_at hl 9 rfl) ?_
              refine hz_bipush hx hb dL_goes_239 (by decide) ?_
              refine hz_cL (As := [zi 9]) (rest := []) ⟨hx, hb, hml, hown, hts⟩ (b_sum l hlt G ah zE y _ u15 (9 : Int) hI1 (show 0 ≤ (9 : Int) ∧ (9 : Int) ≤ 12 by omega)) (cwV 1 hts gL_goes_X7_sum rfl rfl rfl (by decide +kernel) ⟨Nat.le_of_ble_eq_true rfl, Nat.le_of_ble_eq_true rfl⟩) hP hK hD hS hA hGP 0 8 rfl rfl rfl rfl hl.1 rfl (Nat.le_of_ble_eq_true rfl) dL_goes_241 ⟨by show ((((((((((((((((((cells + 1) + 1) + 1) + 1) + 1) + 1) + 1) + 1) + 1) + 1) + 1) + 2) + 1) + 1) + 1) + 1) + 1) + 1) + 1 ≤ 1200; omega, by show ((((((((((((((((((slots + 6) + 6) + 6) + 6) + 6) + 6) + 6) + 6) + 6) + 6) + 6) + 12) + 6) + 6) + 6) + 6) + 6) + 6) + 6 ≤ 7200; omega⟩ (fun _ => rfl) (fun u27 H locs hu hP hD hS => ?_)
              have hP : va_P G vwCl (wH ah y u15 ++ dW o0 y (upZ (upZ d 4 ((d 4) + (d (5 + ((d 1) % 24))))) 1 ((d 1) + 1))) H := hP
              have hD : va_D A (wH ah y u15 ++ dW o0 y (upZ (upZ d 4 ((d 4) + (d (5 + ((d 1) % 24))))) 1 ((d 1) + 1))) := hD
              refine W.eq (g2 := F0 m 244 ls (zl ((u15.2.2 16) 9) :: [])) rfl ?_
              refine lv_aload_n hx hb dL_goes_244 rfl (lv_at hl 9 rfl) ?_
              refine hz_bipush hx hb dL_goes_245 (by decide) ?_
              refine hz_cL (As := [zi 10]) (rest := [zl ((u15.2.2 16) 9)]) ⟨hx, hb, hml, hown, hts⟩ (b_sum l hlt G ah zE y _ u15 (10 : Int) hI1 (show 0 ≤ (10 : Int) ∧ (10 : Int) ≤ 12 by omega)) (cwV 1 hts gL_goes_X7_sum rfl rfl rfl (by decide +kernel) ⟨Nat.le_of_ble_eq_true rfl, Nat.le_of_ble_eq_true rfl⟩) hP hK hD hS hA hGP 0 8 rfl rfl rfl rfl hl.1 rfl (Nat.le_of_ble_eq_true rfl) dL_goes_247 ⟨by show (((((((((((((((((((cells + 1) + 1) + 1) + 1) + 1) + 1) + 1) + 1) + 1) + 1) + 1) + 2) + 1) + 1) + 1) + 1) + 1) + 1) + 1) + 1 ≤ 1200; omega, by show (((((((((((((((((((slots + 6) + 6) + 6) + 6) + 6) + 6) + 6) + 6) + 6) + 6) + 6) + 12) + 6) + 6) + 6) + 6) + 6) + 6) + 6) + 6 ≤ 7200; omega⟩ (fun _ => rfl) (fun u28 H locs hu hP hD hS => ?_)
              have hP : va_P G vwCl (wH ah y u15 ++ dW o0 y (upZ (upZ d 4 ((d 4) + (d (5 + ((d 1) % 24))))) 1 ((d 1) + 1))) H := hP
              have hD : va_D A (wH ah y u15 ++ dW o0 y (upZ (upZ d 4 ((d 4) + (d (5 + ((d 1) % 24))))) 1 ((d 1) + 1))) := hD
              refine W.eq (g2 := F0 m 250 ls (zl ((u15.2.2 16) 10) :: zl ((u15.2.2 16) 9) :: [])) rfl ?_
              refine hz_ladd hx hb dL_goes_250 ?_
              refine lv_aload_n hx hb dL_goes_251 rfl (lv_at hl 10 rfl) ?_
              refine hz_iconst hx hb dL_goes_252 ?_
              refine hz_dld hx hb hK hP (by omega) dL_goes_253 ?_
              refine hz_tope (z2 := ((d 4) + (d (5 + ((d 1) % 24))))) (by first | rfl | exact upZ_s rfl | simp [upZ]) ?_
              refine hz_i2l hx hb dL_goes_254 (by omega) ?_
              refine hz_lcmp3 hx hb (by omega) dL_goes_255 ?_
              refine hz_if_ne (tgt := 263) hx hb dL_goes_256 (by decide) (by omega) (fun q => by exfalso; omega) (fun _ => ?_)
              refine hz_iconst hx hb dL_goes_259 ?_
              refine lv_goto (tgt := 264) hx hb dL_goes_260 (by decide) ?_
              refine lv_istore_n (lv' := [(3, zi 1), (14, zi 6), (13, zi ((((((0 + (flS S 0)) + (flS S 1)) + (flS S 2)) + (flS S 3)) + (flS S 4)) + (flS S 5))), (11, zl ((S.2.2 16) 0)), (9, zl ((S.2.2 16) 5)), (8, zi (S.2.1 5)), (7, zi (S.2.1 6)), (6, zi (S.2.1 14)), (5, zi (sfS S)), (0, .ref (ah 0)), (1, .ref o0), (2, zi n), (4, zi i)]) hx hb dL_goes_264 rfl hl (by decide) rfl (fun ls hl => ?_)
              refine hz_iinc (v := (i + 1)) (lv' := [(4, zi (i + 1)), (3, zi 1), (14, zi 6), (13, zi ((((((0 + (flS S 0)) + (flS S 1)) + (flS S 2)) + (flS S 3)) + (flS S 4)) + (flS S 5))), (11, zl ((S.2.2 16) 0)), (9, zl ((S.2.2 16) 5)), (8, zi (S.2.1 5)), (7, zi (S.2.1 6)), (6, zi (S.2.1 14)), (5, zi (sfS S)), (0, .ref (ah 0)), (1, .ref o0), (2, zi n)]) hx hb dL_goes_265 hl (k := 12) rfl (by omega) (by decide) rfl (fun ls hl => ?_)
              refine lv_goto (tgt := 5) hx hb dL_goes_268 (by decide) ?_
              exact ih (i + 1) u15 _ H locs ((((((((((((((((((((cells + 1) + 1) + 1) + 1) + 1) + 1) + 1) + 1) + 1) + 1) + 1) + 2) + 1) + 1) + 1) + 1) + 1) + 1) + 1) + 1) ((((((((((((((((((((slots + 6) + 6) + 6) + 6) + 6) + 6) + 6) + 6) + 6) + 6) + 6) + 12) + 6) + 6) + 6) + 6) + 6) + 6) + 6) + 6) ⟨by omega, by omega, by omega⟩ ⟨by omega, by omega⟩ hI1 (fd_tick qNow.1 hd hTK) (hG.tick hi.1 hI hTK) hP hD hS ls (lv_sub hl [10, 11, 12, 1, 0] rfl)
          · have kP := hTK.pipe.resolve_left c19
            refine lv_aload_n hx hb dL_goes_170 rfl (lv_at hl 8 rfl) ?_
            refine hz_iconst hx hb dL_goes_171 ?_
            refine hz_cL (As := [zi 5]) (rest := []) ⟨hx, hb, hml, hown, hts⟩ (b_sum l hlt G ah zE y _ u15 (5 : Int) hI1 (show 0 ≤ (5 : Int) ∧ (5 : Int) ≤ 12 by omega)) (cwV 1 hts gL_goes_X7_sum rfl rfl rfl (by decide +kernel) ⟨Nat.le_of_ble_eq_true rfl, Nat.le_of_ble_eq_true rfl⟩) hP hK hD hS hA hGP 0 8 rfl rfl rfl rfl hl.1 rfl (Nat.le_of_ble_eq_true rfl) dL_goes_172 ⟨by show ((((((((((((((cells + 1) + 1) + 1) + 1) + 1) + 1) + 1) + 1) + 1) + 1) + 1) + 2) + 1) + 1) + 1 ≤ 1200; omega, by show ((((((((((((((slots + 6) + 6) + 6) + 6) + 6) + 6) + 6) + 6) + 6) + 6) + 6) + 12) + 6) + 6) + 6 ≤ 7200; omega⟩ (fun _ => rfl) (fun u29 H locs hu hP hD hS => ?_)
            have hP : va_P G vwCl (wH ah y u15 ++ dW o0 y (upZ (upZ d 4 ((d 4) + (d (5 + ((d 1) % 24))))) 1 ((d 1) + 1))) H := hP
            have hD : va_D A (wH ah y u15 ++ dW o0 y (upZ (upZ d 4 ((d 4) + (d (5 + ((d 1) % 24))))) 1 ((d 1) + 1))) := hD
            refine W.eq (g2 := F0 m 175 ls (zl ((u15.2.2 16) 5) :: [])) rfl ?_
            refine lv_lload hx hb dL_goes_175 (lv_at hl 3 rfl) ?_
            refine hz_lcmp3 hx hb (by omega) dL_goes_177 ?_
            refine hz_if_ne (tgt := 200) hx hb dL_goes_178 (by decide) (by omega) (fun q => by exfalso; omega) (fun _ => ?_)
            refine lv_aload_n hx hb dL_goes_181 rfl (lv_at hl 8 rfl) ?_
            refine hz_iconst hx hb dL_goes_182 ?_
            refine hz_cL (As := [zi 0]) (rest := []) ⟨hx, hb, hml, hown, hts⟩ (b_sum l hlt G ah zE y _ u15 (0 : Int) hI1 (show 0 ≤ (0 : Int) ∧ (0 : Int) ≤ 12 by omega)) (cwV 1 hts gL_goes_X7_sum rfl rfl rfl (by decide +kernel) ⟨Nat.le_of_ble_eq_true rfl, Nat.le_of_ble_eq_true rfl⟩) hP hK hD hS hA hGP 0 8 rfl rfl rfl rfl hl.1 rfl (Nat.le_of_ble_eq_true rfl) dL_goes_183 ⟨by show (((((((((((((((cells + 1) + 1) + 1) + 1) + 1) + 1) + 1) + 1) + 1) + 1) + 1) + 2) + 1) + 1) + 1) + 1 ≤ 1200; omega, by show (((((((((((((((slots + 6) + 6) + 6) + 6) + 6) + 6) + 6) + 6) + 6) + 6) + 6) + 12) + 6) + 6) + 6) + 6 ≤ 7200; omega⟩ (fun _ => rfl) (fun u30 H locs hu hP hD hS => ?_)
            have hP : va_P G vwCl (wH ah y u15 ++ dW o0 y (upZ (upZ d 4 ((d 4) + (d (5 + ((d 1) % 24))))) 1 ((d 1) + 1))) H := hP
            have hD : va_D A (wH ah y u15 ++ dW o0 y (upZ (upZ d 4 ((d 4) + (d (5 + ((d 1) % 24))))) 1 ((d 1) + 1))) := hD
            refine W.eq (g2 := F0 m 186 ls (zl ((u15.2.2 16) 0) :: [])) rfl ?_
            refine lv_lload hx hb dL_goes_186 (lv_at hl 2 rfl) ?_
            refine hz_lsub hx hb dL_goes_188 ?_
            refine lv_iload hx hb dL_goes_189 (lv_at hl 1 rfl) ?_
            refine hz_i2l hx hb dL_goes_191 (by omega) ?_
            refine hz_lcmp3 hx hb (by omega) dL_goes_192 ?_
            refine hz_if_lt (tgt := 200) hx hb dL_goes_193 (by decide) (by omega) (fun q => by exfalso; omega) (fun _ => ?_)
            refine hz_iconst hx hb dL_goes_196 ?_
            refine lv_goto (tgt := 201) hx hb dL_goes_197 (by decide) ?_
            refine lv_istore_n (lv' := [(3, zi 1), (14, zi 6), (13, zi ((((((0 + (flS S 0)) + (flS S 1)) + (flS S 2)) + (flS S 3)) + (flS S 4)) + (flS S 5))), (11, zl ((S.2.2 16) 0)), (9, zl ((S.2.2 16) 5)), (8, zi (S.2.1 5)), (7, zi (S.2.1 6)), (6, zi (S.2.1 14)), (5, zi (sfS S)), (0, .ref (ah 0)), (1, .ref o0), (2, zi n), (4, zi i)]) hx hb dL_goes_201 rfl hl (by decide) rfl (fun ls hl => ?_)
            refine lv_iload_n hx hb dL_goes_202 rfl (lv_at hl 0 rfl) ?_
            refine hz_if_eq (tgt := 263) hx hb dL_goes_203 (by decide) (by omega) (fun q => by exfalso; omega) (fun _ => ?_)
            refine lv_aload_n hx hb dL_goes_206 rfl (lv_at hl 9 rfl) ?_
            refine hz_bipush hx hb dL_goes_207 (by decide) ?_
            refine hz_cI (As := [zi 7]) (rest := []) ⟨hx, hb, hml, hown, hts⟩ (b_plantIs l hlt G ah zE y _ u15 (7 : Int) hI1 (show 0 ≤ (7 : Int) ∧ (7 : Int) ≤ 10 by omega)) (cwV 1 hts gL_goes_X7_plantIs rfl rfl rfl (by decide +kernel) ⟨Nat.le_of_ble_eq_true rfl, Nat.le_of_ble_eq_true rfl⟩) hP hK hD hS hA hGP 0 8 rfl rfl rfl rfl hl.1 rfl (Nat.le_of_ble_eq_true rfl) dL_goes_209 ⟨by show ((((((((((((((((cells + 1) + 1) + 1) + 1) + 1) + 1) + 1) + 1) + 1) + 1) + 1) + 2) + 1) + 1) + 1) + 1) + 1 ≤ 1200; omega, by show ((((((((((((((((slots + 6) + 6) + 6) + 6) + 6) + 6) + 6) + 6) + 6) + 6) + 6) + 12) + 6) + 6) + 6) + 6) + 6 ≤ 7200; omega⟩ (fun _ => rfl) (fun u31 H locs hu hP hD hS => ?_)
            have hP : va_P G vwCl (wH ah y u15 ++ dW o0 y (upZ (upZ d 4 ((d 4) + (d (5 + ((d 1) % 24))))) 1 ((d 1) + 1))) H := hP
            have hD : va_D A (wH ah y u15 ++ dW o0 y (upZ (upZ d 4 ((d 4) + (d (5 + ((d 1) % 24))))) 1 ((d 1) + 1))) := hD
            refine hz_tope (z2 := (u15.2.1 10)) (by rfl) ?_
            refine hz_iconst hx hb dL_goes_212 ?_
            refine hz_icmp_eq (tgt := 238) hx hb dL_goes_213 (by decide) (by omega) (fun c32 => ?_) (fun c32 => ?_)
            · refine lv_aload_n hx hb dL_goes_238 rfl (lv_at hl 9 rfl) ?_
              refine hz_bipush hx hb dL_goes_239 (by decide) ?_
              refine hz_cL (As := [zi 9]) (rest := []) ⟨hx, hb, hml, hown, hts⟩ (b_sum l hlt G ah zE y _ u15 (9 : Int) hI1 (show 0 ≤ (9 : Int) ∧ (9 : Int) ≤ 12 by omega)) (cwV 1 hts gL_goes_X7_sum rfl rfl rfl (by decide +kernel) ⟨Nat.le_of_ble_eq_true rfl, Nat.le_of_ble_eq_true rfl⟩) hP hK hD hS hA hGP 0 8 rfl rfl rfl rfl hl.1 rfl (Nat.le_of_ble_eq_true rfl) dL_goes_241 ⟨by show (((((((((((((((((cells + 1) + 1) + 1) + 1) + 1) + 1) + 1) + 1) + 1) + 1) + 1) + 2) + 1) + 1) + 1) + 1) + 1) + 1 ≤ 1200; omega, by show (((((((((((((((((slots + 6) + 6) + 6) + 6) + 6) + 6) + 6) + 6) + 6) + 6) + 6) + 12) + 6) + 6) + 6) + 6) + 6) + 6 ≤ 7200; omega⟩ (fun _ => rfl) (fun u33 H locs hu hP hD hS => ?_)
              have hP : va_P G vwCl (wH ah y u15 ++ dW o0 y (upZ (upZ d 4 ((d 4) + (d (5 + ((d 1) % 24))))) 1 ((d 1) + 1))) H := hP
              have hD : va_D A (wH ah y u15 ++ dW o0 y (upZ (upZ d 4 ((d 4) + (d (5 + ((d 1) % 24))))) 1 ((d 1) + 1))) := hD
              refine W.eq (g2 := F0 m 244 ls (zl ((u15.2.2 16) 9) :: [])) rfl ?_
              refine lv_aload_n hx hb dL_goes_244 rfl (lv_at hl 9 rfl) ?_
              refine hz_bipush hx hb dL_goes_245 (by decide) ?_
              refine hz_cL (As := [zi 10]) (rest := [zl ((u15.2.2 16) 9)]) ⟨hx, hb, hml, hown, hts⟩ (b_sum l hlt G ah zE y _ u15 (10 : Int) hI1 (show 0 ≤ (10 : Int) ∧ (10 : Int) ≤ 12 by omega)) (cwV 1 hts gL_goes_X7_sum rfl rfl rfl (by decide +kernel) ⟨Nat.le_of_ble_eq_true rfl, Nat.le_of_ble_eq_true rfl⟩) hP hK hD hS hA hGP 0 8 rfl rfl rfl rfl hl.1 rfl (Nat.le_of_ble_eq_true rfl) dL_goes_247 ⟨by show ((((((((((((((((((cells + 1) + 1) + 1) + 1) + 1) + 1) + 1) + 1) + 1) + 1) + 1) + 2) + 1) + 1) + 1) + 1) + 1) + 1) + 1 ≤ 1200; omega, by show ((((((((((((((((((slots + 6) + 6) + 6) + 6) + 6) + 6) + 6) + 6) + 6) + 6) + 6) + 12) + 6) + 6) + 6) + 6) + 6) + 6) + 6 ≤ 7200; omega⟩ (fun _ => rfl) (fun u34 H locs hu hP hD hS => ?_)
              have hP : va_P G vwCl (wH ah y u15 ++ dW o0 y (upZ (upZ d 4 ((d 4) + (d (5 + ((d 1) % 24))))) 1 ((d 1) + 1))) H := hP
              have hD : va_D A (wH ah y u15 ++ dW o0 y (upZ (upZ d 4 ((d 4) + (d (5 + ((d 1) % 24))))) 1 ((d 1) + 1))) := hD
              refine W.eq (g2 := F0 m 250 ls (zl ((u15.2.2 16) 10) :: zl ((u15.2.2 16) 9) :: [])) rfl ?_
              refine hz_ladd hx hb dL_goes_250 ?_
              refine lv_aload_n hx hb dL_goes_251 rfl (lv_at hl 10 rfl) ?_
              refine hz_iconst hx hb dL_goes_252 ?_
              refine hz_dld hx hb hK hP (by omega) dL_goes_253 ?_
              refine hz_tope (z2 := ((d 4) + (d (5 + ((d 1) % 24))))) (by first | rfl | exact upZ_s rfl | simp [upZ]) ?_
              refine hz_i2l hx hb dL_goes_254 (by omega) ?_
              refine hz_lcmp3 hx hb (by omega) dL_goes_255 ?_
              refine hz_if_ne (tgt := 263) hx hb dL_goes_256 (by decide) (by omega) (fun q => by exfalso; omega) (fun _ => ?_)
              refine hz_iconst hx hb dL_goes_259 ?_
              refine lv_goto (tgt := 264) hx hb dL_goes_260 (by decide) ?_
              refine lv_istore_n (lv' := [(3, zi 1), (14, zi 6), (13, zi ((((((0 + (flS S 0)) + (flS S 1)) + (flS S 2)) + (flS S 3)) + (flS S 4)) + (flS S 5))), (11, zl ((S.2.2 16) 0)), (9, zl ((S.2.2 16) 5)), (8, zi (S.2.1 5)), (7, zi (S.2.1 6)), (6, zi (S.2.1 14)), (5, zi (sfS S)), (0, .ref (ah 0)), (1, .ref o0), (2, zi n), (4, zi i)]) hx hb dL_goes_264 rfl hl (by decide) rfl (fun ls hl => ?_)
              refine hz_iinc (v := (i + 1)) (lv' := [(4, zi (i + 1)), (3, zi 1), (14, zi 6), (13, zi ((((((0 + (flS S 0)) + (flS S 1)) + (flS S 2)) + (flS S 3)) + (flS S 4)) + (flS S 5))), (11, zl ((S.2.2 16) 0)), (9, zl ((S.2.2 16) 5)), (8, zi (S.2.1 5)), (7, zi (S.2.1 6)), (6, zi (S.2.1 14)), (5, zi (sfS S)), (0, .ref (ah 0)), (1, .ref o0), (2, zi n)]) hx hb dL_goes_265 hl (k := 12) rfl (by omega) (by decide) rfl (fun ls hl => ?_)
              refine lv_goto (tgt := 5) hx hb dL_goes_268 (by decide) ?_
              exact ih (i + 1) u15 _ H locs (((((((((((((((((((cells + 1) + 1) + 1) + 1) + 1) + 1) + 1) + 1) + 1) + 1) + 1) + 2) + 1) + 1) + 1) + 1) + 1) + 1) + 1) (((((((((((((((((((slots + 6) + 6) + 6) + 6) + 6) + 6) + 6) + 6) + 6) + 6) + 6) + 12) + 6) + 6) + 6) + 6) + 6) + 6) + 6) ⟨by omega, by omega, by omega⟩ ⟨by omega, by omega⟩ hI1 (fd_tick qNow.1 hd hTK) (hG.tick hi.1 hI hTK) hP hD hS ls (lv_sub hl [10, 11, 12, 1, 0] rfl)
            · have kT := hTK.hot.resolve_left c32
              refine lv_aload_n hx hb dL_goes_216 rfl (lv_at hl 9 rfl) ?_
              refine hz_iconst hx hb dL_goes_217 ?_
              refine hz_cI (As := [zi 3]) (rest := []) ⟨hx, hb, hml, hown, hts⟩ (b_plantIs l hlt G ah zE y _ u15 (3 : Int) hI1 (show 0 ≤ (3 : Int) ∧ (3 : Int) ≤ 10 by omega)) (cwV 1 hts gL_goes_X7_plantIs rfl rfl rfl (by decide +kernel) ⟨Nat.le_of_ble_eq_true rfl, Nat.le_of_ble_eq_true rfl⟩) hP hK hD hS hA hGP 0 8 rfl rfl rfl rfl hl.1 rfl (Nat.le_of_ble_eq_true rfl) dL_goes_218 ⟨by show (((((((((((((((((cells + 1) + 1) + 1) + 1) + 1) + 1) + 1) + 1) + 1) + 1) + 1) + 2) + 1) + 1) + 1) + 1) + 1) + 1 ≤ 1200; omega, by show (((((((((((((((((slots + 6) + 6) + 6) + 6) + 6) + 6) + 6) + 6) + 6) + 6) + 6) + 12) + 6) + 6) + 6) + 6) + 6) + 6 ≤ 7200; omega⟩ (fun _ => rfl) (fun u35 H locs hu hP hD hS => ?_)
              have hP : va_P G vwCl (wH ah y u15 ++ dW o0 y (upZ (upZ d 4 ((d 4) + (d (5 + ((d 1) % 24))))) 1 ((d 1) + 1))) H := hP
              have hD : va_D A (wH ah y u15 ++ dW o0 y (upZ (upZ d 4 ((d 4) + (d (5 + ((d 1) % 24))))) 1 ((d 1) + 1))) := hD
              refine hz_tope (z2 := (u15.2.1 5)) (by rfl) ?_
              refine hz_i2l hx hb dL_goes_221 (by omega) ?_
              refine lv_iload hx hb dL_goes_222 (lv_at hl 5 rfl) ?_
              refine hz_i2l hx hb dL_goes_224 (by omega) ?_
              refine lv_aload_n hx hb dL_goes_225 rfl (lv_at hl 9 rfl) ?_
              refine hz_iconst hx hb dL_goes_226 ?_
              refine hz_cL (As := [zi 5]) (rest := [zl (S.2.1 5), zl (u15.2.1 5)]) ⟨hx, hb, hml, hown, hts⟩ (b_sum l hlt G ah zE y _ u15 (5 : Int) hI1 (show 0 ≤ (5 : Int) ∧ (5 : Int) ≤ 12 by omega)) (cwV 1 hts gL_goes_X7_sum rfl rfl rfl (by decide +kernel) ⟨Nat.le_of_ble_eq_true rfl, Nat.le_of_ble_eq_true rfl⟩) hP hK hD hS hA hGP 0 8 rfl rfl rfl rfl hl.1 rfl (Nat.le_of_ble_eq_true rfl) dL_goes_227 ⟨by show ((((((((((((((((((cells + 1) + 1) + 1) + 1) + 1) + 1) + 1) + 1) + 1) + 1) + 1) + 2) + 1) + 1) + 1) + 1) + 1) + 1) + 1 ≤ 1200; omega, by show ((((((((((((((((((slots + 6) + 6) + 6) + 6) + 6) + 6) + 6) + 6) + 6) + 6) + 6) + 12) + 6) + 6) + 6) + 6) + 6) + 6) + 6 ≤ 7200; omega⟩ (fun _ => rfl) (fun u36 H locs hu hP hD hS => ?_)
              have hP : va_P G vwCl (wH ah y u15 ++ dW o0 y (upZ (upZ d 4 ((d 4) + (d (5 + ((d 1) % 24))))) 1 ((d 1) + 1))) H := hP
              have hD : va_D A (wH ah y u15 ++ dW o0 y (upZ (upZ d 4 ((d 4) + (d (5 + ((d 1) % 24))))) 1 ((d 1) + 1))) := hD
              refine W.eq (g2 := F0 m 230 ls (zl ((u15.2.2 16) 5) :: zl (S.2.1 5) :: zl (u15.2.1 5) :: [])) rfl ?_
              refine hz_ladd hx hb dL_goes_230 ?_
              refine lv_lload hx hb dL_goes_231 (lv_at hl 4 rfl) ?_
              refine hz_lsub hx hb dL_goes_233 ?_
              refine hz_lcmp3 hx hb (by omega) dL_goes_234 ?_
              refine hz_if_ne (tgt := 263) hx hb dL_goes_235 (by decide) (by omega) (fun q => by exfalso; omega) (fun _ => ?_)
              refine lv_aload_n hx hb dL_goes_238 rfl (lv_at hl 9 rfl) ?_
              refine hz_bipush hx hb dL_goes_239 (by decide) ?_
              refine hz_cL (As := [zi 9]) (rest := []) ⟨hx, hb, hml, hown, hts⟩ (b_sum l hlt G ah zE y _ u15 (9 : Int) hI1 (show 0 ≤ (9 : Int) ∧ (9 : Int) ≤ 12 by omega)) (cwV 1 hts gL_goes_X7_sum rfl rfl rfl (by decide +kernel) ⟨Nat.le_of_ble_eq_true rfl, Nat.le_of_ble_eq_true rfl⟩) hP hK hD hS hA hGP 0 8 rfl rfl rfl rfl hl.1 rfl (Nat.le_of_ble_eq_true rfl) dL_goes_241 ⟨by show (((((((((((((((((((cells + 1) + 1) + 1) + 1) + 1) + 1) + 1) + 1) + 1) + 1) + 1) + 2) + 1) + 1) + 1) + 1) + 1) + 1) + 1) + 1 ≤ 1200; omega, by show (((((((((((((((((((slots + 6) + 6) + 6) + 6) + 6) + 6) + 6) + 6) + 6) + 6) + 6) + 12) + 6) + 6) + 6) + 6) + 6) + 6) + 6) + 6 ≤ 7200; omega⟩ (fun _ => rfl) (fun u37 H locs hu hP hD hS => ?_)
              have hP : va_P G vwCl (wH ah y u15 ++ dW o0 y (upZ (upZ d 4 ((d 4) + (d (5 + ((d 1) % 24))))) 1 ((d 1) + 1))) H := hP
              have hD : va_D A (wH ah y u15 ++ dW o0 y (upZ (upZ d 4 ((d 4) + (d (5 + ((d 1) % 24))))) 1 ((d 1) + 1))) := hD
              refine W.eq (g2 := F0 m 244 ls (zl ((u15.2.2 16) 9) :: [])) rfl ?_
              refine lv_aload_n hx hb dL_goes_244 rfl (lv_at hl 9 rfl) ?_
              refine hz_bipush hx hb dL_goes_245 (by decide) ?_
              refine hz_cL (As := [zi 10]) (rest := [zl ((u15.2.2 16) 9)]) ⟨hx, hb, hml, hown, hts⟩ (b_sum l hlt G ah zE y _ u15 (10 : Int) hI1 (show 0 ≤ (10 : Int) ∧ (10 : Int) ≤ 12 by omega)) (cwV 1 hts gL_goes_X7_sum rfl rfl rfl (by decide +kernel) ⟨Nat.le_of_ble_eq_true rfl, Nat.le_of_ble_eq_true rfl⟩) hP hK hD hS hA hGP 0 8 rfl rfl rfl rfl hl.1 rfl (Nat.le_of_ble_eq_true rfl) dL_goes_247 ⟨by show ((((((((((((((((((((cells + 1) + 1) + 1) + 1) + 1) + 1) + 1) + 1) + 1) + 1) + 1) + 2) + 1) + 1) + 1) + 1) + 1) + 1) + 1) + 1) + 1 ≤ 1200; omega, by show ((((((((((((((((((((slots + 6) + 6) + 6) + 6) + 6) + 6) + 6) + 6) + 6) + 6) + 6) + 12) + 6) + 6) + 6) + 6) + 6) + 6) + 6) + 6) + 6 ≤ 7200; omega⟩ (fun _ => rfl) (fun u38 H locs hu hP hD hS => ?_)
              have hP : va_P G vwCl (wH ah y u15 ++ dW o0 y (upZ (upZ d 4 ((d 4) + (d (5 + ((d 1) % 24))))) 1 ((d 1) + 1))) H := hP
              have hD : va_D A (wH ah y u15 ++ dW o0 y (upZ (upZ d 4 ((d 4) + (d (5 + ((d 1) % 24))))) 1 ((d 1) + 1))) := hD
              refine W.eq (g2 := F0 m 250 ls (zl ((u15.2.2 16) 10) :: zl ((u15.2.2 16) 9) :: [])) rfl ?_
              refine hz_ladd hx hb dL_goes_250 ?_
              refine lv_aload_n hx hb dL_goes_251 rfl (lv_at hl 10 rfl) ?_
              refine hz_iconst hx hb dL_goes_252 ?_
              refine hz_dld hx hb hK hP (by omega) dL_goes_253 ?_
              refine hz_tope (z2 := ((d 4) + (d (5 + ((d 1) % 24))))) (by first | rfl | exact upZ_s rfl | simp [upZ]) ?_
              refine hz_i2l hx hb dL_goes_254 (by omega) ?_
              refine hz_lcmp3 hx hb (by omega) dL_goes_255 ?_
              refine hz_if_ne (tgt := 263) hx hb dL_goes_256 (by decide) (by omega) (fun q => by exfalso; omega) (fun _ => ?_)
              refine hz_iconst hx hb dL_goes_259 ?_
              refine lv_goto (tgt := 264) hx hb dL_goes_260 (by decide) ?_
              refine lv_istore_n (lv' := [(3, zi 1), (14, zi 6), (13, zi ((((((0 + (flS S 0)) + (flS S 1)) + (flS S 2)) + (flS S 3)) + (flS S 4)) + (flS S 5))), (11, zl ((S.2.2 16) 0)), (9, zl ((S.2.2 16) 5)), (8, zi (S.2.1 5)), (7, zi (S.2.1 6)), (6, zi (S.2.1 14)), (5, zi (sfS S)), (0, .ref (ah 0)), (1, .ref o0), (2, zi n), (4, zi i)]) hx hb dL_goes_264 rfl hl (by decide) rfl (fun ls hl => ?_)
              refine hz_iinc (v := (i + 1)) (lv' := [(4, zi (i + 1)), (3, zi 1), (14, zi 6), (13, zi ((((((0 + (flS S 0)) + (flS S 1)) + (flS S 2)) + (flS S 3)) + (flS S 4)) + (flS S 5))), (11, zl ((S.2.2 16) 0)), (9, zl ((S.2.2 16) 5)), (8, zi (S.2.1 5)), (7, zi (S.2.1 6)), (6, zi (S.2.1 14)), (5, zi (sfS S)), (0, .ref (ah 0)), (1, .ref o0), (2, zi n)]) hx hb dL_goes_265 hl (k := 12) rfl (by omega) (by decide) rfl (fun ls hl => ?_)
              refine lv_goto (tgt := 5) hx hb dL_goes_268 (by decide) ?_
              exact ih (i + 1) u15 _ H locs (((((((((((((((((((((cells + 1) + 1) + 1) + 1) + 1) + 1) + 1) + 1) + 1) + 1) + 1) + 2) + 1) + 1) + 1) + 1) + 1) + 1) + 1) + 1) + 1) (((((((((((((((((((((slots + 6) + 6) + 6) + 6) + 6) + 6) + 6) + 6) + 6) + 6) + 6) + 12) + 6) + 6) + 6) + 6) + 6) + 6) + 6) + 6) + 6) ⟨by omega, by omega, by omega⟩ ⟨by omega, by omega⟩ hI1 (fd_tick qNow.1 hd hTK) (hG.tick hi.1 hI hTK) hP hD hS ls (lv_sub hl [10, 11, 12, 1, 0] rfl)
        · have kS := hTK.safe (by omega)
          refine hz_iconst hx hb dL_goes_156 ?_
          refine lv_goto (tgt := 161) hx hb dL_goes_157 (by decide) ?_
          refine hz_icmp_gt (tgt := 200) hx hb dL_goes_161 (by decide) (by omega) (fun q => by exfalso; omega) (fun _ => ?_)
          refine lv_iload hx hb dL_goes_164 (lv_at hl 5 rfl) ?_
          refine hz_iconst hx hb dL_goes_166 ?_
          refine hz_icmp_eq (tgt := 181) hx hb dL_goes_167 (by decide) (by omega) (fun c39 => ?_) (fun c39 => ?_)
          · refine lv_aload_n hx hb dL_goes_181 rfl (lv_at hl 8 rfl) ?_
            refine hz_iconst hx hb dL_goes_182 ?_
            refine hz_cL (As := [zi 0]) (rest := []) ⟨hx, hb, hml, hown, hts⟩ (b_sum l hlt G ah zE y _ u15 (0 : Int) hI1 (show 0 ≤ (0 : Int) ∧ (0 : Int) ≤ 12 by omega)) (cwV 1 hts gL_goes_X7_sum rfl rfl rfl (by decide +kernel) ⟨Nat.le_of_ble_eq_true rfl, Nat.le_of_ble_eq_true rfl⟩) hP hK hD hS hA hGP 0 8 rfl rfl rfl rfl hl.1 rfl (Nat.le_of_ble_eq_true rfl) dL_goes_183 ⟨by show ((((((((((((((cells + 1) + 1) + 1) + 1) + 1) + 1) + 1) + 1) + 1) + 1) + 1) + 2) + 1) + 1) + 1 ≤ 1200; omega, by show ((((((((((((((slots + 6) + 6) + 6) + 6) + 6) + 6) + 6) + 6) + 6) + 6) + 6) + 12) + 6) + 6) + 6 ≤ 7200; omega⟩ (fun _ => rfl) (fun u40 H locs hu hP hD hS => ?_)
            have hP : va_P G vwCl (wH ah y u15 ++ dW o0 y (upZ (upZ d 4 ((d 4) + (d (5 + ((d 1) % 24))))) 1 ((d 1) + 1))) H := hP
            have hD : va_D A (wH ah y u15 ++ dW o0 y (upZ (upZ d 4 ((d 4) + (d (5 + ((d 1) % 24))))) 1 ((d 1) + 1))) := hD
            refine W.eq (g2 := F0 m 186 ls (zl ((u15.2.2 16) 0) :: [])) rfl ?_
            refine lv_lload hx hb dL_goes_186 (lv_at hl 2 rfl) ?_
            refine hz_lsub hx hb dL_goes_188 ?_
            refine lv_iload hx hb dL_goes_189 (lv_at hl 1 rfl) ?_
            refine hz_i2l hx hb dL_goes_191 (by omega) ?_
            refine hz_lcmp3 hx hb (by omega) dL_goes_192 ?_
            refine hz_if_lt (tgt := 200) hx hb dL_goes_193 (by decide) (by omega) (fun q => by exfalso; omega) (fun _ => ?_)
            refine hz_iconst hx hb dL_goes_196 ?_
            refine lv_goto (tgt := 201) hx hb dL_goes_197 (by decide) ?_
            refine lv_istore_n (lv' := [(3, zi 1), (14, zi 6), (13, zi ((((((0 + (flS S 0)) + (flS S 1)) + (flS S 2)) + (flS S 3)) + (flS S 4)) + (flS S 5))), (11, zl ((S.2.2 16) 0)), (9, zl ((S.2.2 16) 5)), (8, zi (S.2.1 5)), (7, zi (S.2.1 6)), (6, zi (S.2.1 14)), (5, zi (sfS S)), (0, .ref (ah 0)), (1, .ref o0), (2, zi n), (4, zi i)]) hx hb dL_goes_201 rfl hl (by decide) rfl (fun ls hl => ?_)
            refine lv_iload_n hx hb dL_goes_202 rfl (lv_at hl 0 rfl) ?_
            refine hz_if_eq (tgt := 263) hx hb dL_goes_203 (by decide) (by omega) (fun q => by exfalso; omega) (fun _ => ?_)
            refine lv_aload_n hx hb dL_goes_206 rfl (lv_at hl 9 rfl) ?_
            refine hz_bipush hx hb dL_goes_207 (by decide) ?_
            refine hz_cI (As := [zi 7]) (rest := []) ⟨hx, hb, hml, hown, hts⟩ (b_plantIs l hlt G ah zE y _ u15 (7 : Int) hI1 (show 0 ≤ (7 : Int) ∧ (7 : Int) ≤ 10 by omega)) (cwV 1 hts gL_goes_X7_plantIs rfl rfl rfl (by decide +kernel) ⟨Nat.le_of_ble_eq_true rfl, Nat.le_of_ble_eq_true rfl⟩) hP hK hD hS hA hGP 0 8 rfl rfl rfl rfl hl.1 rfl (Nat.le_of_ble_eq_true rfl) dL_goes_209 ⟨by show (((((((((((((((cells + 1) + 1) + 1) + 1) + 1) + 1) + 1) + 1) + 1) + 1) + 1) + 2) + 1) + 1) + 1) + 1 ≤ 1200; omega, by show (((((((((((((((slots + 6) + 6) + 6) + 6) + 6) + 6) + 6) + 6) + 6) + 6) + 6) + 12) + 6) + 6) + 6) + 6 ≤ 7200; omega⟩ (fun _ => rfl) (fun u41 H locs hu hP hD hS => ?_)
            have hP : va_P G vwCl (wH ah y u15 ++ dW o0 y (upZ (upZ d 4 ((d 4) + (d (5 + ((d 1) % 24))))) 1 ((d 1) + 1))) H := hP
            have hD : va_D A (wH ah y u15 ++ dW o0 y (upZ (upZ d 4 ((d 4) + (d (5 + ((d 1) % 24))))) 1 ((d 1) + 1))) := hD
            refine hz_tope (z2 := (u15.2.1 10)) (by rfl) ?_
            refine hz_iconst hx hb dL_goes_212 ?_
            refine hz_icmp_eq (tgt := 238) hx hb dL_goes_213 (by decide) (by omega) (fun c42 => ?_) (fun c42 => ?_)
            · refine lv_aload_n hx hb dL_goes_238 rfl (lv_at hl 9 rfl) ?_
              refine hz_bipush hx hb dL_goes_239 (by decide) ?_
              refine hz_cL (As := [zi 9]) (rest := []) ⟨hx, hb, hml, hown, hts⟩ (b_sum l hlt G ah zE y _ u15 (9 : Int) hI1 (show 0 ≤ (9 : Int) ∧ (9 : Int) ≤ 12 by omega)) (cwV 1 hts gL_goes_X7_sum rfl rfl rfl (by decide +kernel) ⟨Nat.le_of_ble_eq_true rfl, Nat.le_of_ble_eq_true rfl⟩) hP hK hD hS hA hGP 0 8 rfl rfl rfl rfl hl.1 rfl (Nat.le_of_ble_eq_true rfl) dL_goes_241 ⟨by show ((((((((((((((((cells + 1) + 1) + 1) + 1) + 1) + 1) + 1) + 1) + 1) + 1) + 1) + 2) + 1) + 1) + 1) + 1) + 1 ≤ 1200; omega, by show ((((((((((((((((slots + 6) + 6) + 6) + 6) + 6) + 6) + 6) + 6) + 6) + 6) + 6) + 12) + 6) + 6) + 6) + 6) + 6 ≤ 7200; omega⟩ (fun _ => rfl) (fun u43 H locs hu hP hD hS => ?_)
              have hP : va_P G vwCl (wH ah y u15 ++ dW o0 y (upZ (upZ d 4 ((d 4) + (d (5 + ((d 1) % 24))))) 1 ((d 1) + 1))) H := hP
              have hD : va_D A (wH ah y u15 ++ dW o0 y (upZ (upZ d 4 ((d 4) + (d (5 + ((d 1) % 24))))) 1 ((d 1) + 1))) := hD
              refine W.eq (g2 := F0 m 244 ls (zl ((u15.2.2 16) 9) :: [])) rfl ?_
              refine lv_aload_n hx hb dL_goes_244 rfl (lv_at hl 9 rfl) ?_
              refine hz_bipush hx hb dL_goes_245 (by decide) ?_
              refine hz_cL (As := [zi 10]) (rest := [zl ((u15.2.2 16) 9)]) ⟨hx, hb, hml, hown, hts⟩ (b_sum l hlt G ah zE y _ u15 (10 : Int) hI1 (show 0 ≤ (10 : Int) ∧ (10 : Int) ≤ 12 by omega)) (cwV 1 hts gL_goes_X7_sum rfl rfl rfl (by decide +kernel) ⟨Nat.le_of_ble_eq_true rfl, Nat.le_of_ble_eq_true rfl⟩) hP hK hD hS hA hGP 0 8 rfl rfl rfl rfl hl.1 rfl (Nat.le_of_ble_eq_true rfl) dL_goes_247 ⟨by show (((((((((((((((((cells + 1) + 1) + 1) + 1) + 1) + 1) + 1) + 1) + 1) + 1) + 1) + 2) + 1) + 1) + 1) + 1) + 1) + 1 ≤ 1200; omega, by show (((((((((((((((((slots + 6) + 6) + 6) + 6) + 6) + 6) + 6) + 6) + 6) + 6) + 6) + 12) + 6) + 6) + 6) + 6) + 6) + 6 ≤ 7200; omega⟩ (fun _ => rfl) (fun u44 H locs hu hP hD hS => ?_)
              have hP : va_P G vwCl (wH ah y u15 ++ dW o0 y (upZ (upZ d 4 ((d 4) + (d (5 + ((d 1) % 24))))) 1 ((d 1) + 1))) H := hP
              have hD : va_D A (wH ah y u15 ++ dW o0 y (upZ (upZ d 4 ((d 4) + (d (5 + ((d 1) % 24))))) 1 ((d 1) + 1))) := hD
              refine W.eq (g2 := F0 m 250 ls (zl ((u15.2.2 16) 10) :: zl ((u15.2.2 16) 9) :: [])) rfl ?_
              refine hz_ladd hx hb dL_goes_250 ?_
              refine lv_aload_n hx hb dL_goes_251 rfl (lv_at hl 10 rfl) ?_
              refine hz_iconst hx hb dL_goes_252 ?_
              refine hz_dld hx hb hK hP (by omega) dL_goes_253 ?_
              refine hz_tope (z2 := ((d 4) + (d (5 + ((d 1) % 24))))) (by first | rfl | exact upZ_s rfl | simp [upZ]) ?_
              refine hz_i2l hx hb dL_goes_254 (by omega) ?_
              refine hz_lcmp3 hx hb (by omega) dL_goes_255 ?_
              refine hz_if_ne (tgt := 263) hx hb dL_goes_256 (by decide) (by omega) (fun q => by exfalso; omega) (fun _ => ?_)
              refine hz_iconst hx hb dL_goes_259 ?_
              refine lv_goto (tgt := 264) hx hb dL_goes_260 (by decide) ?_
              refine lv_istore_n (lv' := [(3, zi 1), (14, zi 6), (13, zi ((((((0 + (flS S 0)) + (flS S 1)) + (flS S 2)) + (flS S 3)) + (flS S 4)) + (flS S 5))), (11, zl ((S.2.2 16) 0)), (9, zl ((S.2.2 16) 5)), (8, zi (S.2.1 5)), (7, zi (S.2.1 6)), (6, zi (S.2.1 14)), (5, zi (sfS S)), (0, .ref (ah 0)), (1, .ref o0), (2, zi n), (4, zi i)]) hx hb dL_goes_264 rfl hl (by decide) rfl (fun ls hl => ?_)
              refine hz_iinc (v := (i + 1)) (lv' := [(4, zi (i + 1)), (3, zi 1), (14, zi 6), (13, zi ((((((0 + (flS S 0)) + (flS S 1)) + (flS S 2)) + (flS S 3)) + (flS S 4)) + (flS S 5))), (11, zl ((S.2.2 16) 0)), (9, zl ((S.2.2 16) 5)), (8, zi (S.2.1 5)), (7, zi (S.2.1 6)), (6, zi (S.2.1 14)), (5, zi (sfS S)), (0, .ref (ah 0)), (1, .ref o0), (2, zi n)]) hx hb dL_goes_265 hl (k := 12) rfl (by omega) (by decide) rfl (fun ls hl => ?_)
              refine lv_goto (tgt := 5) hx hb dL_goes_268 (by decide) ?_
              exact ih (i + 1) u15 _ H locs ((((((((((((((((((cells + 1) + 1) + 1) + 1) + 1) + 1) + 1) + 1) + 1) + 1) + 1) + 2) + 1) + 1) + 1) + 1) + 1) + 1) ((((((((((((((((((slots + 6) + 6) + 6) + 6) + 6) + 6) + 6) + 6) + 6) + 6) + 6) + 12) + 6) + 6) + 6) + 6) + 6) + 6) ⟨by omega, by omega, by omega⟩ ⟨by omega, by omega⟩ hI1 (fd_tick qNow.1 hd hTK) (hG.tick hi.1 hI hTK) hP hD hS ls (lv_sub hl [10, 11, 12, 1, 0] rfl)
            · have kT := hTK.hot.resolve_left c42
              refine lv_aload_n hx hb dL_goes_216 rfl (lv_at hl 9 rfl) ?_
              refine hz_iconst hx hb dL_goes_217 ?_
              refine hz_cI (As := [zi 3]) (rest := []) ⟨hx, hb, hml, hown, hts⟩ (b_plantIs l hlt G ah zE y _ u15 (3 : Int) hI1 (show 0 ≤ (3 : Int) ∧ (3 : Int) ≤ 10 by omega)) (cwV 1 hts gL_goes_X7_plantIs rfl rfl rfl (by decide +kernel) ⟨Nat.le_of_ble_eq_true rfl, Nat.le_of_ble_eq_true rfl⟩) hP hK hD hS hA hGP 0 8 rfl rfl rfl rfl hl.1 rfl (Nat.le_of_ble_eq_true rfl) dL_goes_218 ⟨by show ((((((((((((((((cells + 1) + 1) + 1) + 1) + 1) + 1) + 1) + 1) + 1) + 1) + 1) + 2) + 1) + 1) + 1) + 1) + 1 ≤ 1200; omega, by show ((((((((((((((((slots + 6) + 6) + 6) + 6) + 6) + 6) + 6) + 6) + 6) + 6) + 6) + 12) + 6) + 6) + 6) + 6) + 6 ≤ 7200; omega⟩ (fun _ => rfl) (fun u45 H locs hu hP hD hS => ?_)
              have hP : va_P G vwCl (wH ah y u15 ++ dW o0 y (upZ (upZ d 4 ((d 4) + (d (5 + ((d 1) % 24))))) 1 ((d 1) + 1))) H := hP
              have hD : va_D A (wH ah y u15 ++ dW o0 y (upZ (upZ d 4 ((d 4) + (d (5 + ((d 1) % 24))))) 1 ((d 1) + 1))) := hD
              refine hz_tope (z2 := (u15.2.1 5)) (by rfl) ?_
              refine hz_i2l hx hb dL_goes_221 (by omega) ?_
              refine lv_iload hx hb dL_goes_222 (lv_at hl 5 rfl) ?_
              refine hz_i2l hx hb dL_goes_224 (by omega) ?_
              refine lv_aload_n hx hb dL_goes_225 rfl (lv_at hl 9 rfl) ?_
              refine hz_iconst hx hb dL_goes_226 ?_
              refine hz_cL (As := [zi 5]) (rest := [zl (S.2.1 5), zl (u15.2.1 5)]) ⟨hx, hb, hml, hown, hts⟩ (b_sum l hlt G ah zE y _ u15 (5 : Int) hI1 (show 0 ≤ (5 : Int) ∧ (5 : Int) ≤ 12 by omega)) (cwV 1 hts gL_goes_X7_sum rfl rfl rfl (by decide +kernel) ⟨Nat.le_of_ble_eq_true rfl, Nat.le_of_ble_eq_true rfl⟩) hP hK hD hS hA hGP 0 8 rfl rfl rfl rfl hl.1 rfl (Nat.le_of_ble_eq_true rfl) dL_goes_227 ⟨by show (((((((((((((((((cells + 1) + 1) + 1) + 1) + 1) + 1) + 1) + 1) + 1) + 1) + 1) + 2) + 1) + 1) + 1) + 1) + 1) + 1 ≤ 1200; omega, by show (((((((((((((((((slots + 6) + 6) + 6) + 6) + 6) + 6) + 6) + 6) + 6) + 6) + 6) + 12) + 6) + 6) + 6) + 6) + 6) + 6 ≤ 7200; omega⟩ (fun _ => rfl) (fun u46 H locs hu hP hD hS => ?_)
              have hP : va_P G vwCl (wH ah y u15 ++ dW o0 y (upZ (upZ d 4 ((d 4) + (d (5 + ((d 1) % 24))))) 1 ((d 1) + 1))) H := hP
              have hD : va_D A (wH ah y u15 ++ dW o0 y (upZ (upZ d 4 ((d 4) + (d (5 + ((d 1) % 24))))) 1 ((d 1) + 1))) := hD
              refine W.eq (g2 := F0 m 230 ls (zl ((u15.2.2 16) 5) :: zl (S.2.1 5) :: zl (u15.2.1 5) :: [])) rfl ?_
              refine hz_ladd hx hb dL_goes_230 ?_
              refine lv_lload hx hb dL_goes_231 (lv_at hl 4 rfl) ?_
              refine hz_lsub hx hb dL_goes_233 ?_
              refine hz_lcmp3 hx hb (by omega) dL_goes_234 ?_
              refine hz_if_ne (tgt := 263) hx hb dL_goes_235 (by decide) (by omega) (fun q => by exfalso; omega) (fun _ => ?_)
              refine lv_aload_n hx hb dL_goes_238 rfl (lv_at hl 9 rfl) ?_
              refine hz_bipush hx hb dL_goes_239 (by decide) ?_
              refine hz_cL (As := [zi 9]) (rest := []) ⟨hx, hb, hml, hown, hts⟩ (b_sum l hlt G ah zE y _ u15 (9 : Int) hI1 (show 0 ≤ (9 : Int) ∧ (9 : Int) ≤ 12 by omega)) (cwV 1 hts gL_goes_X7_sum rfl rfl rfl (by decide +kernel) ⟨Nat.le_of_ble_eq_true rfl, Nat.le_of_ble_eq_true rfl⟩) hP hK hD hS hA hGP 0 8 rfl rfl rfl rfl hl.1 rfl (Nat.le_of_ble_eq_true rfl) dL_goes_241 ⟨by show ((((((((((((((((((cells + 1) + 1) + 1) + 1) + 1) + 1) + 1) + 1) + 1) + 1) + 1) + 2) + 1) + 1) + 1) + 1) + 1) + 1) + 1 ≤ 1200; omega, by show ((((((((((((((((((slots + 6) + 6) + 6) + 6) + 6) + 6) + 6) + 6) + 6) + 6) + 6) + 12) + 6) + 6) + 6) + 6) + 6) + 6) + 6 ≤ 7200; omega⟩ (fun _ => rfl) (fun u47 H locs hu hP hD hS => ?_)
              have hP : va_P G vwCl (wH ah y u15 ++ dW o0 y (upZ (upZ d 4 ((d 4) + (d (5 + ((d 1) % 24))))) 1 ((d 1) + 1))) H := hP
              have hD : va_D A (wH ah y u15 ++ dW o0 y (upZ (upZ d 4 ((d 4) + (d (5 + ((d 1) % 24))))) 1 ((d 1) + 1))) := hD
              refine W.eq (g2 := F0 m 244 ls (zl ((u15.2.2 16) 9) :: [])) rfl ?_
              refine lv_aload_n hx hb dL_goes_244 rfl (lv_at hl 9 rfl) ?_
              refine hz_bipush hx hb dL_goes_245 (by decide) ?_
              refine hz_cL (As := [zi 10]) (rest := [zl ((u15.2.2 16) 9)]) ⟨hx, hb, hml, hown, hts⟩ (b_sum l hlt G ah zE y _ u15 (10 : Int) hI1 (show 0 ≤ (10 : Int) ∧ (10 : Int) ≤ 12 by omega)) (cwV 1 hts gL_goes_X7_sum rfl rfl rfl (by decide +kernel) ⟨Nat.le_of_ble_eq_true rfl, Nat.le_of_ble_eq_true rfl⟩) hP hK hD hS hA hGP 0 8 rfl rfl rfl rfl hl.1 rfl (Nat.le_of_ble_eq_true rfl) dL_goes_247 ⟨by show (((((((((((((((((((cells + 1) + 1) + 1) + 1) + 1) + 1) + 1) + 1) + 1) + 1) + 1) + 2) + 1) + 1) + 1) + 1) + 1) + 1) + 1) + 1 ≤ 1200; omega, by show (((((((((((((((((((slots + 6) + 6) + 6) + 6) + 6) + 6) + 6) + 6) + 6) + 6) + 6) + 12) + 6) + 6) + 6) + 6) + 6) + 6) + 6) + 6 ≤ 7200; omega⟩ (fun _ => rfl) (fun u48 H locs hu hP hD hS => ?_)
              have hP : va_P G vwCl (wH ah y u15 ++ dW o0 y (upZ (upZ d 4 ((d 4) + (d (5 + ((d 1) % 24))))) 1 ((d 1) + 1))) H := hP
              have hD : va_D A (wH ah y u15 ++ dW o0 y (upZ (upZ d 4 ((d 4) + (d (5 + ((d 1) % 24))))) 1 ((d 1) + 1))) := hD
              refine W.eq (g2 := F0 m 250 ls (zl ((u15.2.2 16) 10) :: zl ((u15.2.2 16) 9) :: [])) rfl ?_
              refine hz_ladd hx hb dL_goes_250 ?_
              refine lv_aload_n hx hb dL_goes_251 rfl (lv_at hl 10 rfl) ?_
              refine hz_iconst hx hb dL_goes_252 ?_
              refine hz_dld hx hb hK hP (by omega) dL_goes_253 ?_
              refine hz_tope (z2 := ((d 4) + (d (5 + ((d 1) % 24))))) (by first | rfl | exact upZ_s rfl | simp [upZ]) ?_
              refine hz_i2l hx hb dL_goes_254 (by omega) ?_
              refine hz_lcmp3 hx hb (by omega) dL_goes_255 ?_
              refine hz_if_ne (tgt := 263) hx hb dL_goes_256 (by decide) (by omega) (fun q => by exfalso; omega) (fun _ => ?_)
              refine hz_iconst hx hb dL_goes_259 ?_
              refine lv_goto (tgt := 264) hx hb dL_goes_260 (by decide) ?_
              refine lv_istore_n (lv' := [(3, zi 1), (14, zi 6), (13, zi ((((((0 + (flS S 0)) + (flS S 1)) + (flS S 2)) + (flS S 3)) + (flS S 4)) + (flS S 5))), (11, zl ((S.2.2 16) 0)), (9, zl ((S.2.2 16) 5)), (8, zi (S.2.1 5)), (7, zi (S.2.1 6)), (6, zi (S.2.1 14)), (5, zi (sfS S)), (0, .ref (ah 0)), (1, .ref o0), (2, zi n), (4, zi i)]) hx hb dL_goes_264 rfl hl (by decide) rfl (fun ls hl => ?_)
              refine hz_iinc (v := (i + 1)) (lv' := [(4, zi (i + 1)), (3, zi 1), (14, zi 6), (13, zi ((((((0 + (flS S 0)) + (flS S 1)) + (flS S 2)) + (flS S 3)) + (flS S 4)) + (flS S 5))), (11, zl ((S.2.2 16) 0)), (9, zl ((S.2.2 16) 5)), (8, zi (S.2.1 5)), (7, zi (S.2.1 6)), (6, zi (S.2.1 14)), (5, zi (sfS S)), (0, .ref (ah 0)), (1, .ref o0), (2, zi n)]) hx hb dL_goes_265 hl (k := 12) rfl (by omega) (by decide) rfl (fun ls hl => ?_)
              refine lv_goto (tgt := 5) hx hb dL_goes_268 (by decide) ?_
              exact ih (i + 1) u15 _ H locs ((((((((((((((((((((cells + 1) + 1) + 1) + 1) + 1) + 1) + 1) + 1) + 1) + 1) + 1) + 2) + 1) + 1) + 1) + 1) + 1) + 1) + 1) + 1) ((((((((((((((((((((slots + 6) + 6) + 6) + 6) + 6) + 6) + 6) + 6) + 6) + 6) + 6) + 12) + 6) + 6) + 6) + 6) + 6) + 6) + 6) + 6) ⟨by omega, by omega, by omega⟩ ⟨by omega, by omega⟩ hI1 (fd_tick qNow.1 hd hTK) (hG.tick hi.1 hI hTK) hP hD hS ls (lv_sub hl [10, 11, 12, 1, 0] rfl)
          · have kP := hTK.pipe.resolve_left c39
            refine lv_aload_n hx hb dL_goes_170 rfl (lv_at hl 8 rfl) ?_
            refine hz_iconst hx hb dL_goes_171 ?_
            refine hz_cL (As := [zi 5]) (rest := []) ⟨hx, hb, hml, hown, hts⟩ (b_sum l hlt G ah zE y _ u15 (5 : Int) hI1 (show 0 ≤ (5 : Int) ∧ (5 : Int) ≤ 12 by omega)) (cwV 1 hts gL_goes_X7_sum rfl rfl rfl (by decide +kernel) ⟨Nat.le_of_ble_eq_true rfl, Nat.le_of_ble_eq_true rfl⟩) hP hK hD hS hA hGP 0 8 rfl rfl rfl rfl hl.1 rfl (Nat.le_of_ble_eq_true rfl) dL_goes_172 ⟨by show ((((((((((((((cells + 1) + 1) + 1) + 1) + 1) + 1) + 1) + 1) + 1) + 1) + 1) + 2) + 1) + 1) + 1 ≤ 1200; omega, by show ((((((((((((((slots + 6) + 6) + 6) + 6) + 6) + 6) + 6) + 6) + 6) + 6) + 6) + 12) + 6) + 6) + 6 ≤ 7200; omega⟩ (fun _ => rfl) (fun u49 H locs hu hP hD hS => ?_)
            have hP : va_P G vwCl (wH ah y u15 ++ dW o0 y (upZ (upZ d 4 ((d 4) + (d (5 + ((d 1) % 24))))) 1 ((d 1) + 1))) H := hP
            have hD : va_D A (wH ah y u15 ++ dW o0 y (upZ (upZ d 4 ((d 4) + (d (5 + ((d 1) % 24))))) 1 ((d 1) + 1))) := hD
            refine W.eq (g2 := F0 m 175 ls (zl ((u15.2.2 16) 5) :: [])) rfl ?_
            refine lv_lload hx hb dL_goes_175 (lv_at hl 3 rfl) ?_
            refine hz_lcmp3 hx hb (by omega) dL_goes_177 ?_
            refine hz_if_ne (tgt := 200) hx hb dL_goes_178 (by decide) (by omega) (fun q => by exfalso; omega) (fun _ => ?_)
            refine lv_aload_n hx hb dL_goes_181 rfl (lv_at hl 8 rfl) ?_
            refine hz_iconst hx hb dL_goes_182 ?_
            refine hz_cL (As := [zi 0]) (rest := []) ⟨hx, hb, hml, hown, hts⟩ (b_sum l hlt G ah zE y _ u15 (0 : Int) hI1 (show 0 ≤ (0 : Int) ∧ (0 : Int) ≤ 12 by omega)) (cwV 1 hts gL_goes_X7_sum rfl rfl rfl (by decide +kernel) ⟨Nat.le_of_ble_eq_true rfl, Nat.le_of_ble_eq_true rfl⟩) hP hK hD hS hA hGP 0 8 rfl rfl rfl rfl hl.1 rfl (Nat.le_of_ble_eq_true rfl) dL_goes_183 ⟨by show (((((((((((((((cells + 1) + 1) + 1) + 1) + 1) + 1) + 1) + 1) + 1) + 1) + 1) + 2) + 1) + 1) + 1) + 1 ≤ 1200; omega, by show (((((((((((((((slots + 6) + 6) + 6) + 6) + 6) + 6) + 6) + 6) + 6) + 6) + 6) + 12) + 6) + 6) + 6) + 6 ≤ 7200; omega⟩ (fun _ => rfl) (fun u50 H locs hu hP hD hS => ?_)
            have hP : va_P G vwCl (wH ah y u15 ++ dW o0 y (upZ (upZ d 4 ((d 4) + (d (5 + ((d 1) % 24))))) 1 ((d 1) + 1))) H := hP
            have hD : va_D A (wH ah y u15 ++ dW o0 y (upZ (upZ d 4 ((d 4) + (d (5 + ((d 1) % 24))))) 1 ((d 1) + 1))) := hD
            refine W.eq (g2 := F0 m 186 ls (zl ((u15.2.2 16) 0) :: [])) rfl ?_
            refine lv_lload hx hb dL_goes_186 (lv_at hl 2 rfl) ?_
            refine hz_lsub hx hb dL_goes_188 ?_
            refine lv_iload hx hb dL_goes_189 (lv_at hl 1 rfl) ?_
            refine hz_i2l hx hb dL_goes_191 (by omega) ?_
            refine hz_lcmp3 hx hb (by omega) dL_goes_192 ?_
            refine hz_if_lt (tgt := 200) hx hb dL_goes_193 (by decide) (by omega) (fun q => by exfalso; omega) (fun _ => ?_)
            refine hz_iconst hx hb dL_goes_196 ?_
            refine lv_goto (tgt := 201) hx hb dL_goes_197 (by decide) ?_
            refine lv_istore_n (lv' := [(3, zi 1), (14, zi 6), (13, zi ((((((0 + (flS S 0)) + (flS S 1)) + (flS S 2)) + (flS S 3)) + (flS S 4)) + (flS S 5))), (11, zl ((S.2.2 16) 0)), (9, zl ((S.2.2 16) 5)), (8, zi (S.2.1 5)), (7, zi (S.2.1 6)), (6, zi (S.2.1 14)), (5, zi (sfS S)), (0, .ref (ah 0)), (1, .ref o0), (2, zi n), (4, zi i)]) hx hb dL_goes_201 rfl hl (by decide) rfl (fun ls hl => ?_)
            refine lv_iload_n hx hb dL_goes_202 rfl (lv_at hl 0 rfl) ?_
            refine hz_if_eq (tgt := 263) hx hb dL_goes_203 (by decide) (by omega) (fun q => by exfalso; omega) (fun _ => ?_)
            refine lv_aload_n hx hb dL_goes_206 rfl (lv_at hl 9 rfl) ?_
            refine hz_bipush hx hb dL_goes_207 (by decide) ?_
            refine hz_cI (As := [zi 7]) (rest := []) ⟨hx, hb, hml, hown, hts⟩ (b_plantIs l hlt G ah zE y _ u15 (7 : Int) hI1 (show 0 ≤ (7 : Int) ∧ (7 : Int) ≤ 10 by omega)) (cwV 1 hts gL_goes_X7_plantIs rfl rfl rfl (by decide +kernel) ⟨Nat.le_of_ble_eq_true rfl, Nat.le_of_ble_eq_true rfl⟩) hP hK hD hS hA hGP 0 8 rfl rfl rfl rfl hl.1 rfl (Nat.le_of_ble_eq_true rfl) dL_goes_209 ⟨by show ((((((((((((((((cells + 1) + 1) + 1) + 1) + 1) + 1) + 1) + 1) + 1) + 1) + 1) + 2) + 1) + 1) + 1) + 1) + 1 ≤ 1200; omega, by show ((((((((((((((((slots + 6) + 6) + 6) + 6) + 6) + 6) + 6) + 6) + 6) + 6) + 6) + 12) + 6) + 6) + 6) + 6) + 6 ≤ 7200; omega⟩ (fun _ => rfl) (fun u51 H locs hu hP hD hS => ?_)
            have hP : va_P G vwCl (wH ah y u15 ++ dW o0 y (upZ (upZ d 4 ((d 4) + (d (5 + ((d 1) % 24))))) 1 ((d 1) + 1))) H := hP
            have hD : va_D A (wH ah y u15 ++ dW o0 y (upZ (upZ d 4 ((d 4) + (d (5 + ((d 1) % 24))))) 1 ((d 1) + 1))) := hD
            refine hz_tope (z2 := (u15.2.1 10)) (by rfl) ?_
            refine hz_iconst hx hb dL_goes_212 ?_
            refine hz_icmp_eq (tgt := 238) hx hb dL_goes_213 (by decide) (by omega) (fun c52 => ?_) (fun c52 => ?_)
            · refine lv_aload_n hx hb dL_goes_238 rfl (lv_at hl 9 rfl) ?_
              refine hz_bipush hx hb dL_goes_239 (by decide) ?_
              refine hz_cL (As := [zi 9]) (rest := []) ⟨hx, hb, hml, hown, hts⟩ (b_sum l hlt G ah zE y _ u15 (9 : Int) hI1 (show 0 ≤ (9 : Int) ∧ (9 : Int) ≤ 12 by omega)) (cwV 1 hts gL_goes_X7_sum rfl rfl rfl (by decide +kernel) ⟨Nat.le_of_ble_eq_true rfl, Nat.le_of_ble_eq_true rfl⟩) hP hK hD hS hA hGP 0 8 rfl rfl rfl rfl hl.1 rfl (Nat.le_of_ble_eq_true rfl) dL_goes_241 ⟨by show (((((((((((((((((cells + 1) + 1) + 1) + 1) + 1) + 1) + 1) + 1) + 1) + 1) + 1) + 2) + 1) + 1) + 1) + 1) + 1) + 1 ≤ 1200; omega, by show (((((((((((((((((slots + 6) + 6) + 6) + 6) + 6) + 6) + 6) + 6) + 6) + 6) + 6) + 12) + 6) + 6) + 6) + 6) + 6) + 6 ≤ 7200; omega⟩ (fun _ => rfl) (fun u53 H locs hu hP hD hS => ?_)
              have hP : va_P G vwCl (wH ah y u15 ++ dW o0 y (upZ (upZ d 4 ((d 4) + (d (5 + ((d 1) % 24))))) 1 ((d 1) + 1))) H := hP
              have hD : va_D A (wH ah y u15 ++ dW o0 y (upZ (upZ d 4 ((d 4) + (d (5 + ((d 1) % 24))))) 1 ((d 1) + 1))) := hD
              refine W.eq (g2 := F0 m 244 ls (zl ((u15.2.2 16) 9) :: [])) rfl ?_
              refine lv_aload_n hx hb dL_goes_244 rfl (lv_at hl 9 rfl) ?_
              refine hz_bipush hx hb dL_goes_245 (by decide) ?_
              refine hz_cL (As := [zi 10]) (rest := [zl ((u15.2.2 16) 9)]) ⟨hx, hb, hml, hown, hts⟩ (b_sum l hlt G ah zE y _ u15 (10 : Int) hI1 (show 0 ≤ (10 : Int) ∧ (10 : Int) ≤ 12 by omega)) (cwV 1 hts gL_goes_X7_sum rfl rfl rfl (by decide +kernel) ⟨Nat.le_of_ble_eq_true rfl, Nat.le_of_ble_eq_true rfl⟩) hP hK hD hS hA hGP 0 8 rfl rfl rfl rfl hl.1 rfl (Nat.le_of_ble_eq_true rfl) dL_goes_247 ⟨by show ((((((((((((((((((cells + 1) + 1) + 1) + 1) + 1) + 1) + 1) + 1) + 1) + 1) + 1) + 2) + 1) + 1) + 1) + 1) + 1) + 1) + 1 ≤ 1200; omega, by show ((((((((((((((((((slots + 6) + 6) + 6) + 6) + 6) + 6) + 6) + 6) + 6) + 6) + 6) + 12) + 6) + 6) + 6) + 6) + 6) + 6) + 6 ≤ 7200; omega⟩ (fun _ => rfl) (fun u54 H locs hu hP hD hS => ?_)
              have hP : va_P G vwCl (wH ah y u15 ++ dW o0 y (upZ (upZ d 4 ((d 4) + (d (5 + ((d 1) % 24))))) 1 ((d 1) + 1))) H := hP
              have hD : va_D A (wH ah y u15 ++ dW o0 y (upZ (upZ d 4 ((d 4) + (d (5 + ((d 1) % 24))))) 1 ((d 1) + 1))) := hD
              refine W.eq (g2 := F0 m 250 ls (zl ((u15.2.2 16) 10) :: zl ((u15.2.2 16) 9) :: [])) rfl ?_
              refine hz_ladd hx hb dL_goes_250 ?_
              refine lv_aload_n hx hb dL_goes_251 rfl (lv_at hl 10 rfl) ?_
              refine hz_iconst hx hb dL_goes_252 ?_
              refine hz_dld hx hb hK hP (by omega) dL_goes_253 ?_
              refine hz_tope (z2 := ((d 4) + (d (5 + ((d 1) % 24))))) (by first | rfl | exact upZ_s rfl | simp [upZ]) ?_
              refine hz_i2l hx hb dL_goes_254 (by omega) ?_
              refine hz_lcmp3 hx hb (by omega) dL_goes_255 ?_
              refine hz_if_ne (tgt := 263) hx hb dL_goes_256 (by decide) (by omega) (fun q => by exfalso; omega) (fun _ => ?_)
              refine hz_iconst hx hb dL_goes_259 ?_
              refine lv_goto (tgt := 264) hx hb dL_goes_260 (by decide) ?_
              refine lv_istore_n (lv' := [(3, zi 1), (14, zi 6), (13, zi ((((((0 + (flS S 0)) + (flS S 1)) + (flS S 2)) + (flS S 3)) + (flS S 4)) + (flS S 5))), (11, zl ((S.2.2 16) 0)), (9, zl ((S.2.2 16) 5)), (8, zi (S.2.1 5)), (7, zi (S.2.1 6)), (6, zi (S.2.1 14)), (5, zi (sfS S)), (0, .ref (ah 0)), (1, .ref o0), (2, zi n), (4, zi i)]) hx hb dL_goes_264 rfl hl (by decide) rfl (fun ls hl => ?_)
              refine hz_iinc (v := (i + 1)) (lv' := [(4, zi (i + 1)), (3, zi 1), (14, zi 6), (13, zi ((((((0 + (flS S 0)) + (flS S 1)) + (flS S 2)) + (flS S 3)) + (flS S 4)) + (flS S 5))), (11, zl ((S.2.2 16) 0)), (9, zl ((S.2.2 16) 5)), (8, zi (S.2.1 5)), (7, zi (S.2.1 6)), (6, zi (S.2.1 14)), (5, zi (sfS S)), (0, .ref (ah 0)), (1, .ref o0), (2, zi n)]) hx hb dL_goes_265 hl (k := 12) rfl (by omega) (by decide) rfl (fun ls hl => ?_)
              refine lv_goto (tgt := 5) hx hb dL_goes_268 (by decide) ?_
              exact ih (i + 1) u15 _ H locs (((((((((((((((((((cells + 1) + 1) + 1) + 1) + 1) + 1) + 1) + 1) + 1) + 1) + 1) + 2) + 1) + 1) + 1) + 1) + 1) + 1) + 1) (((((((((((((((((((slots + 6) + 6) + 6) + 6) + 6) + 6) + 6) + 6) + 6) + 6) + 6) + 12) + 6) + 6) + 6) + 6) + 6) + 6) + 6) ⟨by omega, by omega, by omega⟩ ⟨by omega, by omega⟩ hI1 (fd_tick qNow.1 hd hTK) (hG.tick hi.1 hI hTK) hP hD hS ls (lv_sub hl [10, 11, 12, 1, 0] rfl)
            · have kT := hTK.hot.resolve_left c52
              refine lv_aload_n hx hb dL_goes_216 rfl (lv_at hl 9 rfl) ?_
              refine hz_iconst hx hb dL_goes_217 ?_
              refine hz_cI (As := [zi 3]) (rest := []) ⟨hx, hb, hml, hown, hts⟩ (b_plantIs l hlt G ah zE y _ u15 (3 : Int) hI1 (show 0 ≤ (3 : Int) ∧ (3 : Int) ≤ 10 by omega)) (cwV 1 hts gL_goes_X7_plantIs rfl rfl rfl (by decide +kernel) ⟨Nat.le_of_ble_eq_true rfl, Nat.le_of_ble_eq_true rfl⟩) hP hK hD hS hA hGP 0 8 rfl rfl rfl rfl hl.1 rfl (Nat.le_of_ble_eq_true rfl) dL_goes_218 ⟨by show (((((((((((((((((cells + 1) + 1) + 1) + 1) + 1) + 1) + 1) + 1) + 1) + 1) + 1) + 2) + 1) + 1) + 1) + 1) + 1) + 1 ≤ 1200; omega, by show (((((((((((((((((slots + 6) + 6) + 6) + 6) + 6) + 6) + 6) + 6) + 6) + 6) + 6) + 12) + 6) + 6) + 6) + 6) + 6) + 6 ≤ 7200; omega⟩ (fun _ => rfl) (fun u55 H locs hu hP hD hS => ?_)
              have hP : va_P G vwCl (wH ah y u15 ++ dW o0 y (upZ (upZ d 4 ((d 4) + (d (5 + ((d 1) % 24))))) 1 ((d 1) + 1))) H := hP
              have hD : va_D A (wH ah y u15 ++ dW o0 y (upZ (upZ d 4 ((d 4) + (d (5 + ((d 1) % 24))))) 1 ((d 1) + 1))) := hD
              refine hz_tope (z2 := (u15.2.1 5)) (by rfl) ?_
              refine hz_i2l hx hb dL_goes_221 (by omega) ?_
              refine lv_iload hx hb dL_goes_222 (lv_at hl 5 rfl) ?_
              refine hz_i2l hx hb dL_goes_224 (by omega) ?_
              refine lv_aload_n hx hb dL_goes_225 rfl (lv_at hl 9 rfl) ?_
              refine hz_iconst hx hb dL_goes_226 ?_
              refine hz_cL (As := [zi 5]) (rest := [zl (S.2.1 5), zl (u15.2.1 5)]) ⟨hx, hb, hml, hown, hts⟩ (b_sum l hlt G ah zE y _ u15 (5 : Int) hI1 (show 0 ≤ (5 : Int) ∧ (5 : Int) ≤ 12 by omega)) (cwV 1 hts gL_goes_X7_sum rfl rfl rfl (by decide +kernel) ⟨Nat.le_of_ble_eq_true rfl, Nat.le_of_ble_eq_true rfl⟩) hP hK hD hS hA hGP 0 8 rfl rfl rfl rfl hl.1 rfl (Nat.le_of_ble_eq_true rfl) dL_goes_227 ⟨by show ((((((((((((((((((cells + 1) + 1) + 1) + 1) + 1) + 1) + 1) + 1) + 1) + 1) + 1) + 2) + 1) + 1) + 1) + 1) + 1) + 1) + 1 ≤ 1200; omega, by show ((((((((((((((((((slots + 6) + 6) + 6) + 6) + 6) + 6) + 6) + 6) + 6) + 6) + 6) + 12) + 6) + 6) + 6) + 6) + 6) + 6) + 6 ≤ 7200; omega⟩ (fun _ => rfl) (fun u56 H locs hu hP hD hS => ?_)
              have hP : va_P G vwCl (wH ah y u15 ++ dW o0 y (upZ (upZ d 4 ((d 4) + (d (5 + ((d 1) % 24))))) 1 ((d 1) + 1))) H := hP
              have hD : va_D A (wH ah y u15 ++ dW o0 y (upZ (upZ d 4 ((d 4) + (d (5 + ((d 1) % 24))))) 1 ((d 1) + 1))) := hD
              refine W.eq (g2 := F0 m 230 ls (zl ((u15.2.2 16) 5) :: zl (S.2.1 5) :: zl (u15.2.1 5) :: [])) rfl ?_
              refine hz_ladd hx hb dL_goes_230 ?_
              refine lv_lload hx hb dL_goes_231 (lv_at hl 4 rfl) ?_
              refine hz_lsub hx hb dL_goes_233 ?_
              refine hz_lcmp3 hx hb (by omega) dL_goes_234 ?_
              refine hz_if_ne (tgt := 263) hx hb dL_goes_235 (by decide) (by omega) (fun q => by exfalso; omega) (fun _ => ?_)
              refine lv_aload_n hx hb dL_goes_238 rfl (lv_at hl 9 rfl) ?_
              refine hz_bipush hx hb dL_goes_239 (by decide) ?_
              refine hz_cL (As := [zi 9]) (rest := []) ⟨hx, hb, hml, hown, hts⟩ (b_sum l hlt G ah zE y _ u15 (9 : Int) hI1 (show 0 ≤ (9 : Int) ∧ (9 : Int) ≤ 12 by omega)) (cwV 1 hts gL_goes_X7_sum rfl rfl rfl (by decide +kernel) ⟨Nat.le_of_ble_eq_true rfl, Nat.le_of_ble_eq_true rfl⟩) hP hK hD hS hA hGP 0 8 rfl rfl rfl rfl hl.1 rfl (Nat.le_of_ble_eq_true rfl) dL_goes_241 ⟨by show (((((((((((((((((((cells + 1) + 1) + 1) + 1) + 1) + 1) + 1) + 1) + 1) + 1) + 1) + 2) + 1) + 1) + 1) + 1) + 1) + 1) + 1) + 1 ≤ 1200; omega, by show (((((((((((((((((((slots + 6) + 6) + 6) + 6) + 6) + 6) + 6) + 6) + 6) + 6) + 6) + 12) + 6) + 6) + 6) + 6) + 6) + 6) + 6) + 6 ≤ 7200; omega⟩ (fun _ => rfl) (fun u57 H locs hu hP hD hS => ?_)
              have hP : va_P G vwCl (wH ah y u15 ++ dW o0 y (upZ (upZ d 4 ((d 4) + (d (5 + ((d 1) % 24))))) 1 ((d 1) + 1))) H := hP
              have hD : va_D A (wH ah y u15 ++ dW o0 y (upZ (upZ d 4 ((d 4) + (d (5 + ((d 1) % 24))))) 1 ((d 1) + 1))) := hD
              refine W.eq (g2 := F0 m 244 ls (zl ((u15.2.2 16) 9) :: [])) rfl ?_
              refine lv_aload_n hx hb dL_goes_244 rfl (lv_at hl 9 rfl) ?_
              refine hz_bipush hx hb dL_goes_245 (by decide) ?_
              refine hz_cL (As := [zi 10]) (rest := [zl ((u15.2.2 16) 9)]) ⟨hx, hb, hml, hown, hts⟩ (b_sum l hlt G ah zE y _ u15 (10 : Int) hI1 (show 0 ≤ (10 : Int) ∧ (10 : Int) ≤ 12 by omega)) (cwV 1 hts gL_goes_X7_sum rfl rfl rfl (by decide +kernel) ⟨Nat.le_of_ble_eq_true rfl, Nat.le_of_ble_eq_true rfl⟩) hP hK hD hS hA hGP 0 8 rfl rfl rfl rfl hl.1 rfl (Nat.le_of_ble_eq_true rfl) dL_goes_247 ⟨by show ((((((((((((((((((((cells + 1) + 1) + 1) + 1) + 1) + 1) + 1) + 1) + 1) + 1) + 1) + 2) + 1) + 1) + 1) + 1) + 1) + 1) + 1) + 1) + 1 ≤ 1200; omega, by show ((((((((((((((((((((slots + 6) + 6) + 6) + 6) + 6) + 6) + 6) + 6) + 6) + 6) + 6) + 12) + 6) + 6) + 6) + 6) + 6) + 6) + 6) + 6) + 6 ≤ 7200; omega⟩ (fun _ => rfl) (fun u58 H locs hu hP hD hS => ?_)
              have hP : va_P G vwCl (wH ah y u15 ++ dW o0 y (upZ (upZ d 4 ((d 4) + (d (5 + ((d 1) % 24))))) 1 ((d 1) + 1))) H := hP
              have hD : va_D A (wH ah y u15 ++ dW o0 y (upZ (upZ d 4 ((d 4) + (d (5 + ((d 1) % 24))))) 1 ((d 1) + 1))) := hD
              refine W.eq (g2 := F0 m 250 ls (zl ((u15.2.2 16) 10) :: zl ((u15.2.2 16) 9) :: [])) rfl ?_
              refine hz_ladd hx hb dL_goes_250 ?_
              refine lv_aload_n hx hb dL_goes_251 rfl (lv_at hl 10 rfl) ?_
              refine hz_iconst hx hb dL_goes_252 ?_
              refine hz_dld hx hb hK hP (by omega) dL_goes_253 ?_
              refine hz_tope (z2 := ((d 4) + (d (5 + ((d 1) % 24))))) (by first | rfl | exact upZ_s rfl | simp [upZ]) ?_
              refine hz_i2l hx hb dL_goes_254 (by omega) ?_
              refine hz_lcmp3 hx hb (by omega) dL_goes_255 ?_
              refine hz_if_ne (tgt := 263) hx hb dL_goes_256 (by decide) (by omega) (fun q => by exfalso; omega) (fun _ => ?_)
              refine hz_iconst hx hb dL_goes_259 ?_
              refine lv_goto (tgt := 264) hx hb dL_goes_260 (by decide) ?_
              refine lv_istore_n (lv' := [(3, zi 1), (14, zi 6), (13, zi ((((((0 + (flS S 0)) + (flS S 1)) + (flS S 2)) + (flS S 3)) + (flS S 4)) + (flS S 5))), (11, zl ((S.2.2 16) 0)), (9, zl ((S.2.2 16) 5)), (8, zi (S.2.1 5)), (7, zi (S.2.1 6)), (6, zi (S.2.1 14)), (5, zi (sfS S)), (0, .ref (ah 0)), (1, .ref o0), (2, zi n), (4, zi i)]) hx hb dL_goes_264 rfl hl (by decide) rfl (fun ls hl => ?_)
              refine hz_iinc (v := (i + 1)) (lv' := [(4, zi (i + 1)), (3, zi 1), (14, zi 6), (13, zi ((((((0 + (flS S 0)) + (flS S 1)) + (flS S 2)) + (flS S 3)) + (flS S 4)) + (flS S 5))), (11, zl ((S.2.2 16) 0)), (9, zl ((S.2.2 16) 5)), (8, zi (S.2.1 5)), (7, zi (S.2.1 6)), (6, zi (S.2.1 14)), (5, zi (sfS S)), (0, .ref (ah 0)), (1, .ref o0), (2, zi n)]) hx hb dL_goes_265 hl (k := 12) rfl (by omega) (by decide) rfl (fun ls hl => ?_)
              refine lv_goto (tgt := 5) hx hb dL_goes_268 (by decide) ?_
              exact ih (i + 1) u15 _ H locs (((((((((((((((((((((cells + 1) + 1) + 1) + 1) + 1) + 1) + 1) + 1) + 1) + 1) + 1) + 2) + 1) + 1) + 1) + 1) + 1) + 1) + 1) + 1) + 1) (((((((((((((((((((((slots + 6) + 6) + 6) + 6) + 6) + 6) + 6) + 6) + 6) + 6) + 6) + 12) + 6) + 6) + 6) + 6) + 6) + 6) + 6) + 6) + 6) ⟨by omega, by omega, by omega⟩ ⟨by omega, by omega⟩ hI1 (fd_tick qNow.1 hd hTK) (hG.tick hi.1 hI hTK) hP hD hS ls (lv_sub hl [10, 11, 12, 1, 0] rfl)
set_option maxHeartbeats 16000000 in
set_option maxRecDepth 100000 in
theorem c_goes (l : Launch) (hlt : l.stackTraces = false) (G : va_G) (ah : Nat → Nat) (mi zE : Nat) (y : Nat → ClassId) (o0 : Nat) (sz : Nat) (S : ST) (d : Int → Int) (n : Int) (hI : FC zE S) (hd : FD S d) (hn : 0 ≤ n ∧ n ≤ 30) : Met l yL_goes wsL_goes ({ frames := 9, cells := 1200, slots := 7200, locals := 201 }) (va_Pc [.ref (ah 0), .ref o0, zi n] (HPreL mi zE G (tyL y) (wH ah y S ++ dW o0 y d) sz)) (Q_goes G ah zE y o0 S d n (va_A (wH ah y S ++ dW o0 y d) sz)) 1200 7200 (va_A (wH ah y S ++ dW o0 y d) sz) := by
  refine hz_ofWM (Qf := Q_goes G ah zE y o0 S d n) (cc := cL_goes) (maxL := 15) (ret := some .boolean) (by decide) rfl (Nat.le_of_ble_eq_true rfl) ?_
  intro p e s m below meth c A ls hx hb hr hts hown hlocks hml hP hK hA hD hS hGP hX hGN hl
  have hown : s.vm.findClass RL = some m.cls := hown
  have hl : lv_has ls 15 [(0, .ref (ah 0)), (1, .ref o0), (2, zi n)] := hl
  refine hz_iconst hx hb dL_goes_0 ?_
  refine lv_istore_n (lv' := [(3, zi 1), (0, .ref (ah 0)), (1, .ref o0), (2, zi n)]) hx hb dL_goes_1 rfl hl (by decide) rfl (fun ls hl => ?_)
  refine hz_iconst hx hb dL_goes_2 ?_
  refine lv_istore (lv' := [(4, zi 0), (3, zi 1), (0, .ref (ah 0)), (1, .ref o0), (2, zi n)]) hx hb dL_goes_3 hl (by decide) rfl (fun ls hl => ?_)
  exact goes_loop (l := l) (mi := mi) (d0 := d) ⟨hx, hb, hr, hts, hown, hlocks, hml, hK, hA, hGP, hX, hGN, hlt⟩ hn (n.toNat + 1) 0 S d s.heap [] 0 0 ⟨by omega, by omega, by omega⟩ ⟨by omega, by omega⟩ hI hd (GJ.zero S) hP hD hS ls (lv_sub hl [2, 3, 4, 1, 0] rfl)
/-- what a method of the law leaves: the facts, as many mirrors -/
abbrev Q_law (G : va_G) (ah : Nat → Nat) (zE : Nat) (y : Nat → ClassId) (o0 : Nat) (S : ST) (A : Nat → Prop) : Array Value → State → Outcome → State → Prop := va_Qi (fun (r : Int32) (u : ST × (Int → Int)) => r = zI 1 ∧ FC zE u.1 ∧ FD u.1 u.2 ∧ u.1.2.1 0 = S.2.1 0) (fun u t => va_P G vwCl (wH ah y u.1 ++ dW o0 y u.2) t.heap ∧ va_D A (wH ah y u.1 ++ dW o0 y u.2)) A
set_option maxHeartbeats 16000000 in
set_option maxRecDepth 100000 in
theorem c_isForetold (l : Launch) (hlt : l.stackTraces = false) (G : va_G) (ah : Nat → Nat) (mi zE : Nat) (y : Nat → ClassId) (o0 : Nat) (sz : Nat) (S : ST) (d : Int → Int) (k ticks : Int) (hI : FC zE S) (hd : FD S d) (hk : 0 ≤ k ∧ k < S.2.1 0) (ht : 1 ≤ ticks ∧ ticks ≤ 24) : Met l yL_isForetold wsL_isForetold ({ frames := 10, cells := 1210, slots := 7260, locals := 235 }) (va_Pc [.ref (ah 0), .ref o0, zi k, zi ticks] (HPreL mi zE G (tyL y) (wH ah y S ++ dW o0 y d) sz)) (Q_law G ah zE y o0 S (va_A (wH ah y S ++ dW o0 y d) sz)) 1210 7260 (va_A (wH ah y S ++ dW o0 y d) sz) := by
  refine hz_ofWM (Qf := Q_law G ah zE y o0 S) (cc := cL_isForetold) (maxL := 5) (ret := some .boolean) (by decide) rfl (Nat.le_of_ble_eq_true rfl) ?_
  intro p e s m below meth c A ls hx hb hr hts hown hlocks hml hP hK hA hD hS hGP hX hGN hl
  have hown : s.vm.findClass RL = some m.cls := hown
  have hl : lv_has ls 5 [(0, .ref (ah 0)), (1, .ref o0), (2, zi k), (3, zi ticks)] := hl
  have qN := hI.N
  have qNow := hI.Now
  have qD1 := hd.D1
  have qp := pwS_rng hI k ticks
  refine lv_aload_n hx hb dL_isForetold_0 rfl (lv_at hl 0 rfl) ?_
  refine lv_iload_n hx hb dL_isForetold_1 rfl (lv_at hl 2 rfl) ?_
  refine lv_iload_n hx hb dL_isForetold_2 rfl (lv_at hl 3 rfl) ?_
  refine hz_cI (As := [zi k, zi ticks]) (rest := []) ⟨hx, hb, hml, hown, hts⟩ (b_power l hlt G ah zE y _ S k ticks hI (show 0 ≤ k ∧ k < (S.2.1 0) by omega) (show 0 ≤ ticks ∧ ticks ≤ 24 by omega)) (cwV 2 hts gL_isForetold_X7_power rfl rfl rfl (by decide +kernel) ⟨Nat.le_of_ble_eq_true rfl, Nat.le_of_ble_eq_true rfl⟩) hP hK hD hS hA hGP 0 8 rfl rfl rfl rfl hl.1 rfl (Nat.le_of_ble_eq_true rfl) dL_isForetold_3 ⟨Nat.le_of_ble_eq_true rfl, Nat.le_of_ble_eq_true rfl⟩ (fun _ => rfl) (fun u1 H locs hu hP hD hS => ?_)
  have hP : va_P G vwCl (wH ah y S ++ dW o0 y d) H := hP
  have hD : va_D A (wH ah y S ++ dW o0 y d) := hD
  refine hz_tope (z2 := (pwS S k ticks)) (by rfl) ?_
  refine lv_istore (lv' := [(4, zi (pwS S k ticks)), (0, .ref (ah 0)), (1, .ref o0), (2, zi k), (3, zi ticks)]) hx hb dL_isForetold_6 hl (by decide) rfl (fun ls hl => ?_)
  refine lv_aload_n hx hb dL_isForetold_8 rfl (lv_at hl 2 rfl) ?_
  refine hz_iconst hx hb dL_isForetold_9 ?_
  refine hz_dld hx hb hK hP (by omega) dL_isForetold_10 ?_
  refine lv_iload_n hx hb dL_isForetold_11 rfl (lv_at hl 4 rfl) ?_
  refine hz_iadd hx hb dL_isForetold_12 ?_
  refine hz_sipush hx hb dL_isForetold_13 (by decide) ?_
  refine hz_icmp_gt (tgt := 39) hx hb dL_isForetold_16 (by decide) (by omega) (fun c2 => ?_) (fun c2 => ?_)
  · refine hz_iconst hx hb dL_isForetold_39 ?_
    refine lv_goto (tgt := 44) hx hb dL_isForetold_40 (by decide) ?_
    exact hz_upM (Nat.le_of_ble_eq_true rfl) (Nat.le_of_ble_eq_true rfl) (W.zret (ty := .boolean) (v := zI 1) hx hb hr (zI_nb (by omega)) (fun t ht hW => ⟨⟨zI 1, (S, d), rfl, ⟨rfl, hI, hd, rfl⟩, hz_at2 hP hD ht⟩, hS.F ht⟩) hS.2.2 dL_isForetold_44)
  · refine lv_aload_n hx hb dL_isForetold_19 rfl (lv_at hl 1 rfl) ?_
    refine lv_aload_n hx hb dL_isForetold_20 rfl (lv_at hl 2 rfl) ?_
    refine lv_iload_n hx hb dL_isForetold_21 rfl (lv_at hl 4 rfl) ?_
    refine hz_sN (As := [.ref (ah 0), .ref o0, zi ticks]) (rest := []) ⟨hx, hb, hml, hown, hts⟩ (c_goes l hlt G ah mi zE y o0 _ S d ticks hI hd (by omega)) (va_cwS 3 hts gL_isForetold_L_goes rfl rfl rfl (by decide +kernel) ⟨Nat.le_of_ble_eq_true rfl, Nat.le_of_ble_eq_true rfl⟩) hP hK hD hS hA hGP hX hGN rfl hl.1 rfl (Nat.le_of_ble_eq_true rfl) dL_isForetold_22 ⟨Nat.le_of_ble_eq_true rfl, Nat.le_of_ble_eq_true rfl⟩ (fun r u H locs hu hP hD hS => ?_)
    obtain ⟨S1, d1⟩ := u
    obtain ⟨rfl, hI1, hd1, hGR⟩ := hu
    have hI1 : FC zE S1 := hI1
    have hd1 : FD S1 d1 := hd1
    obtain ⟨j, hj, hj2, hG⟩ := hGR
    have hj2 : j = ticks ∨ 9999 ≤ S1.2.1 2 := hj2
    have hG : GJ S S1 j := hG
    have g2 := hG.2.1
    have hjt : j = ticks := by omega
    have g3 := hG.2.2 k 0 (by omega) (by omega) (Int.le_refl _)
    rw [Int.zero_add, hjt] at g3
    have g1 := hG.1
    have qp1 := pwS_rng hI1 k 0
    have hP : va_P G vwCl (wH ah y S1 ++ dW o0 y d1) H := hP
    have hD : va_D A (wH ah y S1 ++ dW o0 y d1) := hD
    refine hz_if_eq (tgt := 43) hx hb dL_isForetold_25 (by decide) (by omega) (fun q => by exfalso; omega) (fun _ => ?_)
    refine lv_aload_n hx hb dL_isForetold_28 rfl (lv_at hl 1 rfl) ?_
    refine lv_iload_n hx hb dL_isForetold_29 rfl (lv_at hl 3 rfl) ?_
    refine hz_iconst hx hb dL_isForetold_30 ?_
    refine hz_cI (As := [zi k, zi 0]) (rest := []) ⟨hx, hb, hml, hown, hts⟩ (b_power l hlt G ah zE y _ S1 k (0 : Int) hI1 (show 0 ≤ k ∧ k < (S1.2.1 0) by omega) (show 0 ≤ (0 : Int) ∧ (0 : Int) ≤ 24 by omega)) (cwV 2 hts gL_isForetold_X7_power rfl rfl rfl (by decide +kernel) ⟨Nat.le_of_ble_eq_true rfl, Nat.le_of_ble_eq_true rfl⟩) hP hK hD hS hA hGP 0 8 rfl rfl rfl rfl hl.1 rfl (Nat.le_of_ble_eq_true rfl) dL_isForetold_31 ⟨Nat.le_of_ble_eq_true rfl, Nat.le_of_ble_eq_true rfl⟩ (fun _ => rfl) (fun u3 H locs hu hP hD hS => ?_)
    have hP : va_P G vwCl (wH ah y S1 ++ dW o0 y d1) H := hP
    have hD : va_D A (wH ah y S1 ++ dW o0 y d1) := hD
    refine hz_tope (z2 := (pwS S1 k 0)) (by rfl) ?_
    refine lv_iload hx hb dL_isForetold_34 (lv_at hl 0 rfl) ?_
    refine hz_icmp_ne (tgt := 43) hx hb dL_isForetold_36 (by decide) (by omega) (fun q => by exfalso; omega) (fun _ => ?_)
    refine hz_iconst hx hb dL_isForetold_39 ?_
    refine lv_goto (tgt := 44) hx hb dL_isForetold_40 (by decide) ?_
    exact hz_upM (Nat.le_of_ble_eq_true rfl) (Nat.le_of_ble_eq_true rfl) (W.zret (ty := .boolean) (v := zI 1) hx hb hr (zI_nb (by omega)) (fun t ht hW => ⟨⟨zI 1, (S1, d1), rfl, ⟨rfl, hI1, hd1, g1⟩, hz_at2 hP hD ht⟩, hS.F ht⟩) hS.2.2 dL_isForetold_44)
