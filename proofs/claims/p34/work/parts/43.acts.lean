abbrev Q_acts0 (G : va_G) (ah : Nat → Nat) (zE : Nat) (y : Nat → ClassId) (S : ST) (its : Int) (bb : Int) (A : Nat → Prop) : Array Value → State → Outcome → State → Prop := va_Qi (fun (r : Int32) (u : Option LZ) => (∃ nz : LZ, u = some nz ∧ (if ¬ (0 ≤ its ∧ its ≤ 63) then (1 : Int) else if (S.2.1 0) = 12 ∨ ocZ (S.2.1 0) (S.2.2 0) its = 1 then 2 else 0) = 0 ∧ r = zI ((S.2.1 0)) ∧ LZok nz (S.2.1 0 + 1) (S.2.1 1) ∧ LZe nz zE) ∨ (u = none ∧ (if ¬ (0 ≤ its ∧ its ≤ 63) then (1 : Int) else if (S.2.1 0) = 12 ∨ ocZ (S.2.1 0) (S.2.2 0) its = 1 then 2 else 0) = 2 ∧ r = zI (-200))) (fun u t => va_P G vwCl (wH ah y (match u with | some nz => sMi S nz its | none => S)) t.heap ∧ va_D A (wH ah y (match u with | some nz => sMi S nz its | none => S))) A
set_option maxHeartbeats 8000000 in
set_option maxRecDepth 100000 in
theorem c_acts0 (l : Launch) (hlt : l.stackTraces = false) (G : va_G) (ah : Nat → Nat) (mi zE : Nat) (y : Nat → ClassId) (sz : Nat) (S : ST) (its : Int) (bb : Int) (hI : FC zE S) (hi : 0 ≤ its ∧ its ≤ 63) : vx_Met l yL_acts wsL_acts ({ frames := 9, cells := 8, slots := 48, locals := 197 }) (va_Pc [.ref (ah 0), zi its, zi bb, zi 0] (HPreL mi zE G (tyL y) (wH ah y S) sz)) (Q_acts0 G ah zE y S its bb (va_A (wH ah y S) sz)) XN0 8 48 (va_A (wH ah y S) sz) := by
  refine hz_ofWL (Qf := Q_acts0 G ah zE y S its bb) (cc := cL_acts) (maxL := 5) (ret := some .int) (hh := [(0, 105, 106, 40)]) (by decide) rfl (Nat.le_of_ble_eq_true rfl) ?_
  intro p e s m below meth c A ls hx hb hr hts hown hlocks hml htab hP hK hA hD hS hGP hX hGN hl
  have hown : s.vm.findClass RL = some m.cls := hown
  have qN := hI.N
  have qC := hI.C
  have qT := hI.Turb
  have qP := hI.Pipe
  have qW := hI.Water
  have qS := hI.Salt
  have hl : lv_has ls 5 [(0, .ref (ah 0)), (1, zi its), (2, zi bb), (3, zi 0)] := hl
  refine lv_iload_n hx hb dL_acts_0 rfl (lv_at hl 3 rfl) ?_
  refine hz_if_ne (tgt := 12) hx hb dL_acts_1 (by decide) (by omega) (fun q => by exfalso; omega) (fun _ => ?_)
  refine lv_aload_n hx hb dL_acts_4 rfl (lv_at hl 0 rfl) ?_
  refine lv_iload_n hx hb dL_acts_5 rfl (lv_at hl 1 rfl) ?_
  refine hz_callXn (As := [zi its]) (rest := []) ⟨hx, hb, hml, hown, hts⟩ (c_X7_mirror l hlt G ah S.1 mi zE y _ (S.2.1 0) (S.2.1 1) (S.2.1 2) (S.2.1 3) (S.2.1 4) (S.2.1 5) (S.2.1 6) (S.2.1 7) (S.2.1 8) (S.2.1 9) (S.2.1 10) (S.2.1 11) (S.2.1 12) (S.2.1 13) (S.2.1 14) (S.2.1 15) (S.2.1 16) (S.2.1 17) (S.2.1 18) (S.2.2 0) (S.2.2 1) (S.2.2 2) (S.2.2 3) (S.2.2 4) (S.2.2 5) (S.2.2 6) (S.2.2 7) (S.2.2 8) (S.2.2 9) (S.2.2 10) (S.2.2 11) (S.2.2 12) (S.2.2 13) (S.2.2 14) (S.2.2 15) (S.2.2 16) (S.2.2 17) (S.2.2 18) (S.2.2 19) (S.2.2 20) (S.2.2 21) (S.2.2 22) (S.2.2 23) its hI.Z hI.N hI.C hI.Tk (by omega) hI.Ze (hI.E0 _ (Int.le_refl _))) (cwV 1 hts gL_acts_X7_mirror rfl rfl rfl (by decide +kernel) ⟨Nat.le_of_ble_eq_true rfl, Nat.le_of_ble_eq_true rfl⟩) hP hK hD hS hA hGP hX 0 8 rfl rfl rfl rfl hl.1 rfl (Nat.le_of_ble_eq_true rfl) dL_acts_6 ⟨Nat.le_of_ble_eq_true rfl, Nat.le_of_ble_eq_true rfl⟩ (fun E u hq ce q9 H1 locs1 hP1 hS1 hce hcv hcl => by
        rcases hq with ⟨rfl, hq⟩ | ⟨rfl, hq⟩
        · exfalso; (first | omega | (split at hq <;> omega))
        · refine vx_catch (own := RL) (name := "java/lang/IllegalStateException") hown [] ⟨0, 105, 106, 40⟩ [] (by rw [htab]; rfl) (fun z hz => (List.not_mem_nil hz).elim) (by decide) (by decide) (hts (.classLink RL 40 "java/lang/IllegalStateException") (List.mem_of_getElem? (i := 1) rfl)) (hz_ca hGP (by decide +kernel)) hce hcv hcl ?_
          refine lv_astore (lv' := [(4, .ref q9), (0, .ref (ah 0)), (1, zi its), (2, zi bb), (3, zi 0)]) hx hb dL_acts_106 hl (by decide) rfl (fun ls hl => ?_)
          refine hz_sipush hx hb dL_acts_108 (by decide) ?_
          exact hz_up (Nat.le_of_ble_eq_true rfl) (Nat.le_of_ble_eq_true rfl) (W.iret (v := zI (-200)) hx hb hr (fun t ht hW => ⟨⟨zI (-200), none, rfl, Or.inr ⟨rfl, hq, rfl⟩, hz_at2 hP1 (hD) ht⟩, hS1.F ht⟩) hS1.2.2 dL_acts_111)) (fun r u H locs hu hP hD hS => ?_)
  obtain ⟨rfl, hzz, hth⟩ := hu
  have hP : va_P G vwCl (wH ah y (sMi S u its)) H := hP
  have hD : va_D A (wH ah y (sMi S u its)) := hD
  refine lv_goto (tgt := 105) hx hb dL_acts_9 (by decide) ?_
  exact hz_up (Nat.le_of_ble_eq_true rfl) (Nat.le_of_ble_eq_true rfl) (W.iret (v := zI (S.2.1 0)) hx hb hr (fun t ht hW => ⟨⟨zI (S.2.1 0), some u, rfl, Or.inl ⟨u, rfl, hth, rfl, hzz⟩, hz_at2 hP hD ht⟩, hS.F ht⟩) hS.2.2 dL_acts_105)
abbrev Q_acts1 (G : va_G) (ah : Nat → Nat) (zE : Nat) (y : Nat → ClassId) (S : ST) (its : Int) (at1 : Int) (A : Nat → Prop) : Array Value → State → Outcome → State → Prop := va_Qi (fun (r : Int32) (u : Bool) => (u = true ∧ (if ¬ (0 ≤ its ∧ its < (S.2.1 0)) then (1 : Int) else if ¬ (-1 ≤ at1 ∧ at1 ≤ 5) then 2 else if (S.2.2 5) its = 1 then 3 else 0) = 0 ∧ r = zI ((S.2.2 2) its)) ∨ (u = false ∧ (if ¬ (0 ≤ its ∧ its < (S.2.1 0)) then (1 : Int) else if ¬ (-1 ≤ at1 ∧ at1 ≤ 5) then 2 else if (S.2.2 5) its = 1 then 3 else 0) = 3 ∧ r = zI (-200))) (fun u t => va_P G vwCl (wH ah y (match u with | true => sA S 2 (upZ (S.2.2 2) its at1) | false => S)) t.heap ∧ va_D A (wH ah y (match u with | true => sA S 2 (upZ (S.2.2 2) its at1) | false => S))) A
set_option maxHeartbeats 8000000 in
set_option maxRecDepth 100000 in
theorem c_acts1 (l : Launch) (hlt : l.stackTraces = false) (G : va_G) (ah : Nat → Nat) (mi zE : Nat) (y : Nat → ClassId) (sz : Nat) (S : ST) (its : Int) (at1 : Int) (hI : FC zE S) (hk : 0 ≤ its ∧ its < S.2.1 0) (ha : -1 ≤ at1 ∧ at1 ≤ 5) : vx_Met l yL_acts wsL_acts ({ frames := 8, cells := 3, slots := 18, locals := 141 }) (va_Pc [.ref (ah 0), zi its, zi at1, zi 1] (HPreL mi zE G (tyL y) (wH ah y S) sz)) (Q_acts1 G ah zE y S its at1 (va_A (wH ah y S) sz)) XN0 3 18 (va_A (wH ah y S) sz) := by
  refine hz_ofWL (Qf := Q_acts1 G ah zE y S its at1) (cc := cL_acts) (maxL := 5) (ret := some .int) (hh := [(0, 105, 106, 40)]) (by decide) rfl (Nat.le_of_ble_eq_true rfl) ?_
  intro p e s m below meth c A ls hx hb hr hts hown hlocks hml htab hP hK hA hD hS hGP hX hGN hl
  have hown : s.vm.findClass RL = some m.cls := hown
  have qN := hI.N
  have qC := hI.C
  have qT := hI.Turb
  have qP := hI.Pipe
  have qW := hI.Water
  have qS := hI.Salt
  have hl : lv_has ls 5 [(0, .ref (ah 0)), (1, zi its), (2, zi at1), (3, zi 1)] := hl
  refine lv_iload_n hx hb dL_acts_0 rfl (lv_at hl 3 rfl) ?_
  refine hz_if_ne (tgt := 12) hx hb dL_acts_1 (by decide) (by omega) (fun _ => ?_) (fun q => by exfalso; omega)
  refine lv_iload_n hx hb dL_acts_12 rfl (lv_at hl 3 rfl) ?_
  refine hz_iconst hx hb dL_acts_13 ?_
  refine hz_icmp_ne (tgt := 26) hx hb dL_acts_14 (by decide) (by omega) (fun q => by exfalso; omega) (fun _ => ?_)
  refine lv_aload_n hx hb dL_acts_17 rfl (lv_at hl 0 rfl) ?_
  refine lv_iload_n hx hb dL_acts_18 rfl (lv_at hl 1 rfl) ?_
  refine lv_iload_n hx hb dL_acts_19 rfl (lv_at hl 2 rfl) ?_
  refine hz_callXi (As := [zi its, zi at1]) (rest := []) ⟨hx, hb, hml, hown, hts⟩ (c_X7_aim l hlt G ah S.1 zE y _ (S.2.1 0) (S.2.1 1) (S.2.1 2) (S.2.1 3) (S.2.1 4) (S.2.1 5) (S.2.1 6) (S.2.1 7) (S.2.1 8) (S.2.1 9) (S.2.1 10) (S.2.1 11) (S.2.1 12) (S.2.1 13) (S.2.1 14) (S.2.1 15) (S.2.1 16) (S.2.1 17) (S.2.1 18) (S.2.2 0) (S.2.2 1) (S.2.2 2) (S.2.2 3) (S.2.2 4) (S.2.2 5) (S.2.2 6) (S.2.2 7) (S.2.2 8) (S.2.2 9) (S.2.2 10) (S.2.2 11) (S.2.2 12) (S.2.2 13) (S.2.2 14) (S.2.2 15) (S.2.2 16) (S.2.2 17) (S.2.2 18) (S.2.2 19) (S.2.2 20) (S.2.2 21) (S.2.2 22) (S.2.2 23) its at1 hI.Z hI.N hI.Brk (by omega) (by omega)) (cwV 2 hts gL_acts_X7_aim rfl rfl rfl (by decide +kernel) ⟨Nat.le_of_ble_eq_true rfl, Nat.le_of_ble_eq_true rfl⟩) hP hK hD hS hA hGP 0 8 rfl rfl rfl rfl hl.1 rfl (Nat.le_of_ble_eq_true rfl) dL_acts_20 ⟨Nat.le_of_ble_eq_true rfl, Nat.le_of_ble_eq_true rfl⟩ (fun _ => hW_fst) (fun _ => rfl) (fun E u hq ce q9 H1 locs1 hP1 hS1 hce hcv hcl => by
        rcases hq with ⟨rfl, hq⟩ | ⟨rfl, hq⟩ | ⟨rfl, hq⟩
        · exfalso; (first | omega | (split at hq <;> omega))
        · exfalso; (first | omega | (split at hq <;> omega))
        · refine vx_catch (own := RL) (name := "java/lang/IllegalStateException") hown [] ⟨0, 105, 106, 40⟩ [] (by rw [htab]; rfl) (fun z hz => (List.not_mem_nil hz).elim) (by decide) (by decide) (hts (.classLink RL 40 "java/lang/IllegalStateException") (List.mem_of_getElem? (i := 1) rfl)) (hz_ca hGP (by decide +kernel)) hce hcv hcl ?_
          refine lv_astore (lv' := [(4, .ref q9), (0, .ref (ah 0)), (1, zi its), (2, zi at1), (3, zi 1)]) hx hb dL_acts_106 hl (by decide) rfl (fun ls hl => ?_)
          refine hz_sipush hx hb dL_acts_108 (by decide) ?_
          exact hz_up (Nat.le_of_ble_eq_true rfl) (Nat.le_of_ble_eq_true rfl) (W.iret (v := zI (-200)) hx hb hr (fun t ht hW => ⟨⟨zI (-200), false, rfl, Or.inr ⟨rfl, hq, rfl⟩, hz_at2 hP1 (hD) ht⟩, hS1.F ht⟩) hS1.2.2 dL_acts_111)) (fun u H locs hu hP hD hS => ?_)
  have hth := hu
  have hP : va_P G vwCl (wH ah y (sA S 2 (upZ (S.2.2 2) its at1))) H := hP
  have hD : va_D A (wH ah y (sA S 2 (upZ (S.2.2 2) its at1))) := hD
  refine lv_goto (tgt := 105) hx hb dL_acts_23 (by decide) ?_
  exact hz_up (Nat.le_of_ble_eq_true rfl) (Nat.le_of_ble_eq_true rfl) (W.iret (v := zI ((S.2.2 2) its)) hx hb hr (fun t ht hW => ⟨⟨zI ((S.2.2 2) its), true, rfl, Or.inl ⟨rfl, hth, rfl⟩, hz_at2 hP hD ht⟩, hS.F ht⟩) hS.2.2 dL_acts_105)
abbrev Q_acts2 (G : va_G) (ah : Nat → Nat) (zE : Nat) (y : Nat → ClassId) (S : ST) (its : Int) (bb : Int) (A : Nat → Prop) : Array Value → State → Outcome → State → Prop := va_Qi (fun (r : Int32) (u : Bool) => (u = true ∧ (if ¬ (0 ≤ its ∧ its < (S.2.1 0)) then (1 : Int) else if 0 < strZ (S.2.1 2) ∨ (S.2.1 13) < 3 then 2 else 0) = 0 ∧ r = zI ((S.2.2 1) its)) ∨ (u = false ∧ (if ¬ (0 ≤ its ∧ its < (S.2.1 0)) then (1 : Int) else if 0 < strZ (S.2.1 2) ∨ (S.2.1 13) < 3 then 2 else 0) = 2 ∧ r = zI (-200))) (fun u t => va_P G vwCl (wH ah y (match u with | true => sA (sI S 13 (S.2.1 13 - 3)) 1 (upZ (S.2.2 1) its 0) | false => S)) t.heap ∧ va_D A (wH ah y (match u with | true => sA (sI S 13 (S.2.1 13 - 3)) 1 (upZ (S.2.2 1) its 0) | false => S))) A
set_option maxHeartbeats 8000000 in
set_option maxRecDepth 100000 in
theorem c_acts2 (l : Launch) (hlt : l.stackTraces = false) (G : va_G) (ah : Nat → Nat) (mi zE : Nat) (y : Nat → ClassId) (sz : Nat) (S : ST) (its : Int) (bb : Int) (hI : FC zE S) (hk : 0 ≤ its ∧ its < S.2.1 0) : vx_Met l yL_acts wsL_acts ({ frames := 8, cells := 2, slots := 12, locals := 139 }) (va_Pc [.ref (ah 0), zi its, zi bb, zi 2] (HPreL mi zE G (tyL y) (wH ah y S) sz)) (Q_acts2 G ah zE y S its bb (va_A (wH ah y S) sz)) XN0 2 12 (va_A (wH ah y S) sz) := by
  refine hz_ofWL (Qf := Q_acts2 G ah zE y S its bb) (cc := cL_acts) (maxL := 5) (ret := some .int) (hh := [(0, 105, 106, 40)]) (by decide) rfl (Nat.le_of_ble_eq_true rfl) ?_
  intro p e s m below meth c A ls hx hb hr hts hown hlocks hml htab hP hK hA hD hS hGP hX hGN hl
  have hown : s.vm.findClass RL = some m.cls := hown
  have qN := hI.N
  have qC := hI.C
  have qT := hI.Turb
  have qP := hI.Pipe
  have qW := hI.Water
  have qS := hI.Salt
  have hl : lv_has ls 5 [(0, .ref (ah 0)), (1, zi its), (2, zi bb), (3, zi 2)] := hl
  refine lv_iload_n hx hb dL_acts_0 rfl (lv_at hl 3 rfl) ?_
  refine hz_if_ne (tgt := 12) hx hb dL_acts_1 (by decide) (by omega) (fun _ => ?_) (fun q => by exfalso; omega)
  refine lv_iload_n hx hb dL_acts_12 rfl (lv_at hl 3 rfl) ?_
  refine hz_iconst hx hb dL_acts_13 ?_
  refine hz_icmp_ne (tgt := 26) hx hb dL_acts_14 (by decide) (by omega) (fun _ => ?_) (fun q => by exfalso; omega)
  refine lv_iload_n hx hb dL_acts_26 rfl (lv_at hl 3 rfl) ?_
  refine hz_iconst hx hb dL_acts_27 ?_
  refine hz_icmp_ne (tgt := 39) hx hb dL_acts_28 (by decide) (by omega) (fun q => by exfalso; omega) (fun _ => ?_)
  refine lv_aload_n hx hb dL_acts_31 rfl (lv_at hl 0 rfl) ?_
  refine lv_iload_n hx hb dL_acts_32 rfl (lv_at hl 1 rfl) ?_
  refine hz_callXi (As := [zi its]) (rest := []) ⟨hx, hb, hml, hown, hts⟩ (c_X7_wash l hlt G ah S.1 zE y _ (S.2.1 0) (S.2.1 1) (S.2.1 2) (S.2.1 3) (S.2.1 4) (S.2.1 5) (S.2.1 6) (S.2.1 7) (S.2.1 8) (S.2.1 9) (S.2.1 10) (S.2.1 11) (S.2.1 12) (S.2.1 13) (S.2.1 14) (S.2.1 15) (S.2.1 16) (S.2.1 17) (S.2.1 18) (S.2.2 0) (S.2.2 1) (S.2.2 2) (S.2.2 3) (S.2.2 4) (S.2.2 5) (S.2.2 6) (S.2.2 7) (S.2.2 8) (S.2.2 9) (S.2.2 10) (S.2.2 11) (S.2.2 12) (S.2.2 13) (S.2.2 14) (S.2.2 15) (S.2.2 16) (S.2.2 17) (S.2.2 18) (S.2.2 19) (S.2.2 20) (S.2.2 21) (S.2.2 22) (S.2.2 23) its hI.Z hI.N hI.Now hI.Water (by omega)) (cwV 1 hts gL_acts_X7_wash rfl rfl rfl (by decide +kernel) ⟨Nat.le_of_ble_eq_true rfl, Nat.le_of_ble_eq_true rfl⟩) hP hK hD hS hA hGP 0 8 rfl rfl rfl rfl hl.1 rfl (Nat.le_of_ble_eq_true rfl) dL_acts_33 ⟨Nat.le_of_ble_eq_true rfl, Nat.le_of_ble_eq_true rfl⟩ (fun _ => hW_fst) (fun _ => rfl) (fun E u hq ce q9 H1 locs1 hP1 hS1 hce hcv hcl => by
        rcases hq with ⟨rfl, hq⟩ | ⟨rfl, hq⟩
        · exfalso; (first | omega | (split at hq <;> omega))
        · refine vx_catch (own := RL) (name := "java/lang/IllegalStateException") hown [] ⟨0, 105, 106, 40⟩ [] (by rw [htab]; rfl) (fun z hz => (List.not_mem_nil hz).elim) (by decide) (by decide) (hts (.classLink RL 40 "java/lang/IllegalStateException") (List.mem_of_getElem? (i := 1) rfl)) (hz_ca hGP (by decide +kernel)) hce hcv hcl ?_
          refine lv_astore (lv' := [(4, .ref q9), (0, .ref (ah 0)), (1, zi its), (2, zi bb), (3, zi 2)]) hx hb dL_acts_106 hl (by decide) rfl (fun ls hl => ?_)
          refine hz_sipush hx hb dL_acts_108 (by decide) ?_
          exact hz_up (Nat.le_of_ble_eq_true rfl) (Nat.le_of_ble_eq_true rfl) (W.iret (v := zI (-200)) hx hb hr (fun t ht hW => ⟨⟨zI (-200), false, rfl, Or.inr ⟨rfl, hq, rfl⟩, hz_at2 hP1 (hD) ht⟩, hS1.F ht⟩) hS1.2.2 dL_acts_111)) (fun u H locs hu hP hD hS => ?_)
  have hth := hu
  have hP : va_P G vwCl (wH ah y (sA (sI S 13 (S.2.1 13 - 3)) 1 (upZ (S.2.2 1) its 0))) H := hP
  have hD : va_D A (wH ah y (sA (sI S 13 (S.2.1 13 - 3)) 1 (upZ (S.2.2 1) its 0))) := hD
  refine lv_goto (tgt := 105) hx hb dL_acts_36 (by decide) ?_
  exact hz_up (Nat.le_of_ble_eq_true rfl) (Nat.le_of_ble_eq_true rfl) (W.iret (v := zI ((S.2.2 1) its)) hx hb hr (fun t ht hW => ⟨⟨zI ((S.2.2 1) its), true, rfl, Or.inl ⟨rfl, hth, rfl⟩, hz_at2 hP hD ht⟩, hS.F ht⟩) hS.2.2 dL_acts_105)
abbrev Q_acts3 (G : va_G) (ah : Nat → Nat) (zE : Nat) (y : Nat → ClassId) (S : ST) (its : Int) (bb : Int) (A : Nat → Prop) : Array Value → State → Outcome → State → Prop := va_Qi (fun (r : Int32) (u : Unit) => ((if ¬ (0 ≤ its ∧ its < (S.2.1 0)) then (1 : Int) else if ¬ (0 < pwZ (S.2.1 0) (S.2.1 1) (S.2.1 2) (S.2.1 3) (S.2.2 0) (S.2.2 1) (S.2.2 6) (S.2.2 7) (S.2.2 8) (S.2.2 9) (S.2.2 10) (S.2.2 11) its 0) then 2 else 0) = 0 ∧ r = zI ((S.2.2 3) its - (S.2.2 4) its)) ∨ ((if ¬ (0 ≤ its ∧ its < (S.2.1 0)) then (1 : Int) else if ¬ (0 < pwZ (S.2.1 0) (S.2.1 1) (S.2.1 2) (S.2.1 3) (S.2.2 0) (S.2.2 1) (S.2.2 6) (S.2.2 7) (S.2.2 8) (S.2.2 9) (S.2.2 10) (S.2.2 11) its 0) then 2 else 0) = 2 ∧ r = zI (-200))) (fun u t => va_P G vwCl (wH ah y S) t.heap ∧ va_D A (wH ah y S)) A
set_option maxHeartbeats 8000000 in
set_option maxRecDepth 100000 in
theorem c_acts3 (l : Launch) (hlt : l.stackTraces = false) (G : va_G) (ah : Nat → Nat) (mi zE : Nat) (y : Nat → ClassId) (sz : Nat) (S : ST) (its : Int) (bb : Int) (hI : FC zE S) (hk : 0 ≤ its ∧ its < S.2.1 0) : vx_Met l yL_acts wsL_acts ({ frames := 8, cells := 2, slots := 12, locals := 138 }) (va_Pc [.ref (ah 0), zi its, zi bb, zi 3] (HPreL mi zE G (tyL y) (wH ah y S) sz)) (Q_acts3 G ah zE y S its bb (va_A (wH ah y S) sz)) XN0 2 12 (va_A (wH ah y S) sz) := by
  refine hz_ofWL (Qf := Q_acts3 G ah zE y S its bb) (cc := cL_acts) (maxL := 5) (ret := some .int) (hh := [(0, 105, 106, 40)]) (by decide) rfl (Nat.le_of_ble_eq_true rfl) ?_
  intro p e s m below meth c A ls hx hb hr hts hown hlocks hml htab hP hK hA hD hS hGP hX hGN hl
  have hown : s.vm.findClass RL = some m.cls := hown
  have qN := hI.N
  have qC := hI.C
  have qT := hI.Turb
  have qP := hI.Pipe
  have qW := hI.Water
  have qS := hI.Salt
  have hl : lv_has ls 5 [(0, .ref (ah 0)), (1, zi its), (2, zi bb), (3, zi 3)] := hl
  refine lv_iload_n hx hb dL_acts_0 rfl (lv_at hl 3 rfl) ?_
  refine hz_if_ne (tgt := 12) hx hb dL_acts_1 (by decide) (by omega) (fun _ => ?_) (fun q => by exfalso; omega)
  refine lv_iload_n hx hb dL_acts_12 rfl (lv_at hl 3 rfl) ?_
  refine hz_iconst hx hb dL_acts_13 ?_
  refine hz_icmp_ne (tgt := 26) hx hb dL_acts_14 (by decide) (by omega) (fun _ => ?_) (fun q => by exfalso; omega)
  refine lv_iload_n hx hb dL_acts_26 rfl (lv_at hl 3 rfl) ?_
  refine hz_iconst hx hb dL_acts_27 ?_
  refine hz_icmp_ne (tgt := 39) hx hb dL_acts_28 (by decide) (by omega) (fun _ => ?_) (fun q => by exfalso; omega)
  refine lv_iload_n hx hb dL_acts_39 rfl (lv_at hl 3 rfl) ?_
  refine hz_iconst hx hb dL_acts_40 ?_
  refine hz_icmp_ne (tgt := 52) hx hb dL_acts_41 (by decide) (by omega) (fun q => by exfalso; omega) (fun _ => ?_)
  refine lv_aload_n hx hb dL_acts_44 rfl (lv_at hl 0 rfl) ?_
  refine lv_iload_n hx hb dL_acts_45 rfl (lv_at hl 1 rfl) ?_
  refine hz_callXi (As := [zi its]) (rest := []) ⟨hx, hb, hml, hown, hts⟩ (c_X7_measure l hlt G ah S.1 zE y _ (S.2.1 0) (S.2.1 1) (S.2.1 2) (S.2.1 3) (S.2.1 4) (S.2.1 5) (S.2.1 6) (S.2.1 7) (S.2.1 8) (S.2.1 9) (S.2.1 10) (S.2.1 11) (S.2.1 12) (S.2.1 13) (S.2.1 14) (S.2.1 15) (S.2.1 16) (S.2.1 17) (S.2.1 18) (S.2.2 0) (S.2.2 1) (S.2.2 2) (S.2.2 3) (S.2.2 4) (S.2.2 5) (S.2.2 6) (S.2.2 7) (S.2.2 8) (S.2.2 9) (S.2.2 10) (S.2.2 11) (S.2.2 12) (S.2.2 13) (S.2.2 14) (S.2.2 15) (S.2.2 16) (S.2.2 17) (S.2.2 18) (S.2.2 19) (S.2.2 20) (S.2.2 21) (S.2.2 22) (S.2.2 23) its hI.Z hI.Tk hI.N hI.C hI.Now hI.Haze hI.Cell hI.Dirt hI.Top hI.Lm hI.Rows hI.Cols hI.Down hI.Right (by omega)) (cwV 1 hts gL_acts_X7_measure rfl rfl rfl (by decide +kernel) ⟨Nat.le_of_ble_eq_true rfl, Nat.le_of_ble_eq_true rfl⟩) hP hK hD hS hA hGP 0 8 rfl rfl rfl rfl hl.1 rfl (Nat.le_of_ble_eq_true rfl) dL_acts_46 ⟨Nat.le_of_ble_eq_true rfl, Nat.le_of_ble_eq_true rfl⟩ (fun _ => rfl) (fun _ => rfl) (fun E u hq ce q9 H1 locs1 hP1 hS1 hce hcv hcl => by
        rcases hq with ⟨rfl, hq⟩ | ⟨rfl, hq⟩
        · exfalso; (first | omega | (split at hq <;> omega))
        · refine vx_catch (own := RL) (name := "java/lang/IllegalStateException") hown [] ⟨0, 105, 106, 40⟩ [] (by rw [htab]; rfl) (fun z hz => (List.not_mem_nil hz).elim) (by decide) (by decide) (hts (.classLink RL 40 "java/lang/IllegalStateException") (List.mem_of_getElem? (i := 1) rfl)) (hz_ca hGP (by decide +kernel)) hce hcv hcl ?_
          refine lv_astore (lv' := [(4, .ref q9), (0, .ref (ah 0)), (1, zi its), (2, zi bb), (3, zi 3)]) hx hb dL_acts_106 hl (by decide) rfl (fun ls hl => ?_)
          refine hz_sipush hx hb dL_acts_108 (by decide) ?_
          exact hz_up (Nat.le_of_ble_eq_true rfl) (Nat.le_of_ble_eq_true rfl) (W.iret (v := zI (-200)) hx hb hr (fun t ht hW => ⟨⟨zI (-200), (), rfl, Or.inr ⟨hq, rfl⟩, hz_at2 hP1 (hD) ht⟩, hS1.F ht⟩) hS1.2.2 dL_acts_111)) (fun u H locs hu hP hD hS => ?_)
  have hth := hu
  have hP : va_P G vwCl (wH ah y S) H := hP
  have hD : va_D A (wH ah y S) := hD
  refine lv_goto (tgt := 105) hx hb dL_acts_49 (by decide) ?_
  exact hz_up (Nat.le_of_ble_eq_true rfl) (Nat.le_of_ble_eq_true rfl) (W.iret (v := zI ((S.2.2 3) its - (S.2.2 4) its)) hx hb hr (fun t ht hW => ⟨⟨zI ((S.2.2 3) its - (S.2.2 4) its), (), rfl, Or.inl ⟨hth, rfl⟩, hz_at2 hP hD ht⟩, hS.F ht⟩) hS.2.2 dL_acts_105)
abbrev Q_acts4_0 (G : va_G) (ah : Nat → Nat) (zE : Nat) (y : Nat → ClassId) (S : ST) (bb : Int) (A : Nat → Prop) : Array Value → State → Outcome → State → Prop := va_Qi (fun (r : Int32) (u : Bool) => (u = true ∧ (if (S.2.1 6) = 2 ∨ ((0 : Int) = 1 ∧ (S.2.1 6) = 1) ∨ ((0 : Int) = 0 ∧ ¬ (S.2.1 6) = 1) then (1 : Int) else 0) = 0 ∧ r = zI ((if (0 : Int) = 1 then 30 else 0))) ∨ (u = false ∧ (if (S.2.1 6) = 2 ∨ ((0 : Int) = 1 ∧ (S.2.1 6) = 1) ∨ ((0 : Int) = 0 ∧ ¬ (S.2.1 6) = 1) then (1 : Int) else 0) = 1 ∧ r = zI (-200))) (fun u t => va_P G vwCl (wH ah y (match u with | true => sI (sI S 6 (if (0 : Int) = 1 then 1 else 0)) 7 (if (0 : Int) = 1 then 30 else 0) | false => S)) t.heap ∧ va_D A (wH ah y (match u with | true => sI (sI S 6 (if (0 : Int) = 1 then 1 else 0)) 7 (if (0 : Int) = 1 then 30 else 0) | false => S))) A
set_option maxHeartbeats 8000000 in
set_option maxRecDepth 100000 in
theorem c_acts4_0 (l : Launch) (hlt : l.stackTraces = false) (G : va_G) (ah : Nat → Nat) (mi zE : Nat) (y : Nat → ClassId) (sz : Nat) (S : ST) (bb : Int) (hI : FC zE S)  : vx_Met l yL_acts wsL_acts ({ frames := 7, cells := 1, slots := 6, locals := 116 }) (va_Pc [.ref (ah 0), zi 0, zi bb, zi 4] (HPreL mi zE G (tyL y) (wH ah y S) sz)) (Q_acts4_0 G ah zE y S bb (va_A (wH ah y S) sz)) XN0 1 6 (va_A (wH ah y S) sz) := by
  refine hz_ofWL (Qf := Q_acts4_0 G ah zE y S bb) (cc := cL_acts) (maxL := 5) (ret := some .int) (hh := [(0, 105, 106, 40)]) (by decide) rfl (Nat.le_of_ble_eq_true rfl) ?_
  intro p e s m below meth c A ls hx hb hr hts hown hlocks hml htab hP hK hA hD hS hGP hX hGN hl
  have hown : s.vm.findClass RL = some m.cls := hown
  have qN := hI.N
  have qC := hI.C
  have qT := hI.Turb
  have qP := hI.Pipe
  have qW := hI.Water
  have qS := hI.Salt
  have hl : lv_has ls 5 [(0, .ref (ah 0)), (1, zi 0), (2, zi bb), (3, zi 4)] := hl
  refine lv_iload_n hx hb dL_acts_0 rfl (lv_at hl 3 rfl) ?_
  refine hz_if_ne (tgt := 12) hx hb dL_acts_1 (by decide) (by omega) (fun _ => ?_) (fun q => by exfalso; omega)
  refine lv_iload_n hx hb dL_acts_12 rfl (lv_at hl 3 rfl) ?_
  refine hz_iconst hx hb dL_acts_13 ?_
  refine hz_icmp_ne (tgt := 26) hx hb dL_acts_14 (by decide) (by omega) (fun _ => ?_) (fun q => by exfalso; omega)
  refine lv_iload_n hx hb dL_acts_26 rfl (lv_at hl 3 rfl) ?_
  refine hz_iconst hx hb dL_acts_27 ?_
  refine hz_icmp_ne (tgt := 39) hx hb dL_acts_28 (by decide) (by omega) (fun _ => ?_) (fun q => by exfalso; omega)
  refine lv_iload_n hx hb dL_acts_39 rfl (lv_at hl 3 rfl) ?_
  refine hz_iconst hx hb dL_acts_40 ?_
  refine hz_icmp_ne (tgt := 52) hx hb dL_acts_41 (by decide) (by omega) (fun _ => ?_) (fun q => by exfalso; omega)
  refine lv_iload_n hx hb dL_acts_52 rfl (lv_at hl 3 rfl) ?_
  refine hz_iconst hx hb dL_acts_53 ?_
  refine hz_icmp_ne (tgt := 74) hx hb dL_acts_54 (by decide) (by omega) (fun q => by exfalso; omega) (fun _ => ?_)
  refine lv_aload_n hx hb dL_acts_57 rfl (lv_at hl 0 rfl) ?_
  refine lv_iload_n hx hb dL_acts_58 rfl (lv_at hl 1 rfl) ?_
  refine hz_iconst hx hb dL_acts_59 ?_
  refine hz_icmp_ne (tgt := 67) hx hb dL_acts_60 (by decide) (by omega) (fun _ => ?_) (fun q => by exfalso; omega)
  refine hz_iconst hx hb dL_acts_67 ?_
  refine hz_callXi (As := [zi 0]) (rest := []) ⟨hx, hb, hml, hown, hts⟩ (c_X7_pipe l hlt G ah S.1 zE y _ (S.2.1 0) (S.2.1 1) (S.2.1 2) (S.2.1 3) (S.2.1 4) (S.2.1 5) (S.2.1 6) (S.2.1 7) (S.2.1 8) (S.2.1 9) (S.2.1 10) (S.2.1 11) (S.2.1 12) (S.2.1 13) (S.2.1 14) (S.2.1 15) (S.2.1 16) (S.2.1 17) (S.2.1 18) (S.2.2 0) (S.2.2 1) (S.2.2 2) (S.2.2 3) (S.2.2 4) (S.2.2 5) (S.2.2 6) (S.2.2 7) (S.2.2 8) (S.2.2 9) (S.2.2 10) (S.2.2 11) (S.2.2 12) (S.2.2 13) (S.2.2 14) (S.2.2 15) (S.2.2 16) (S.2.2 17) (S.2.2 18) (S.2.2 19) (S.2.2 20) (S.2.2 21) (S.2.2 22) (S.2.2 23) (0 : Int) hI.Pipe (by omega)) (cwV 1 hts gL_acts_X7_pipe rfl rfl rfl (by decide +kernel) ⟨Nat.le_of_ble_eq_true rfl, Nat.le_of_ble_eq_true rfl⟩) hP hK hD hS hA hGP 0 8 rfl rfl rfl rfl hl.1 rfl (Nat.le_of_ble_eq_true rfl) dL_acts_68 ⟨Nat.le_of_ble_eq_true rfl, Nat.le_of_ble_eq_true rfl⟩ (fun _ => hW_fst) (fun _ => rfl) (fun E u hq ce q9 H1 locs1 hP1 hS1 hce hcv hcl => by
        rcases hq with ⟨rfl, hq⟩
        refine vx_catch (own := RL) (name := "java/lang/IllegalStateException") hown [] ⟨0, 105, 106, 40⟩ [] (by rw [htab]; rfl) (fun z hz => (List.not_mem_nil hz).elim) (by decide) (by decide) (hts (.classLink RL 40 "java/lang/IllegalStateException") (List.mem_of_getElem? (i := 1) rfl)) (hz_ca hGP (by decide +kernel)) hce hcv hcl ?_
        refine lv_astore (lv' := [(4, .ref q9), (0, .ref (ah 0)), (1, zi 0), (2, zi bb), (3, zi 4)]) hx hb dL_acts_106 hl (by decide) rfl (fun ls hl => ?_)
        refine hz_sipush hx hb dL_acts_108 (by decide) ?_
        exact hz_up (Nat.le_of_ble_eq_true rfl) (Nat.le_of_ble_eq_true rfl) (W.iret (v := zI (-200)) hx hb hr (fun t ht hW => ⟨⟨zI (-200), false, rfl, Or.inr ⟨rfl, hq, rfl⟩, hz_at2 hP1 (hD) ht⟩, hS1.F ht⟩) hS1.2.2 dL_acts_111)) (fun u H locs hu hP hD hS => ?_)
  obtain ⟨nPipe, nDeg⟩ := u
  obtain ⟨hth, hp1, hp2⟩ := hu
  have hp1 : nPipe = _ := hp1
  have hp2 : nDeg = _ := hp2
  subst hp1
  subst hp2
  have hP : va_P G vwCl (wH ah y (sI (sI S 6 (if (0 : Int) = 1 then 1 else 0)) 7 (if (0 : Int) = 1 then 30 else 0))) H := hP
  have hD : va_D A (wH ah y (sI (sI S 6 (if (0 : Int) = 1 then 1 else 0)) 7 (if (0 : Int) = 1 then 30 else 0))) := hD
  refine lv_goto (tgt := 105) hx hb dL_acts_71 (by decide) ?_
  exact hz_up (Nat.le_of_ble_eq_true rfl) (Nat.le_of_ble_eq_true rfl) (W.iret (v := zI (if (0 : Int) = 1 then 30 else 0)) hx hb hr (fun t ht hW => ⟨⟨zI (if (0 : Int) = 1 then 30 else 0), true, rfl, Or.inl ⟨rfl, hth, rfl⟩, hz_at2 hP hD ht⟩, hS.F ht⟩) hS.2.2 dL_acts_105)
abbrev Q_acts4_1 (G : va_G) (ah : Nat → Nat) (zE : Nat) (y : Nat → ClassId) (S : ST) (bb : Int) (A : Nat → Prop) : Array Value → State → Outcome → State → Prop := va_Qi (fun (r : Int32) (u : Bool) => (u = true ∧ (if (S.2.1 6) = 2 ∨ ((1 : Int) = 1 ∧ (S.2.1 6) = 1) ∨ ((1 : Int) = 0 ∧ ¬ (S.2.1 6) = 1) then (1 : Int) else 0) = 0 ∧ r = zI ((if (1 : Int) = 1 then 30 else 0))) ∨ (u = false ∧ (if (S.2.1 6) = 2 ∨ ((1 : Int) = 1 ∧ (S.2.1 6) = 1) ∨ ((1 : Int) = 0 ∧ ¬ (S.2.1 6) = 1) then (1 : Int) else 0) = 1 ∧ r = zI (-200))) (fun u t => va_P G vwCl (wH ah y (match u with | true => sI (sI S 6 (if (1 : Int) = 1 then 1 else 0)) 7 (if (1 : Int) = 1 then 30 else 0) | false => S)) t.heap ∧ va_D A (wH ah y (match u with | true => sI (sI S 6 (if (1 : Int) = 1 then 1 else 0)) 7 (if (1 : Int) = 1 then 30 else 0) | false => S))) A
set_option maxHeartbeats 8000000 in
set_option maxRecDepth 100000 in
theorem c_acts4_1 (l : Launch) (hlt : l.stackTraces = false) (G : va_G) (ah : Nat → Nat) (mi zE : Nat) (y : Nat → ClassId) (sz : Nat) (S : ST) (bb : Int) (hI : FC zE S)  : vx_Met l yL_acts wsL_acts ({ frames := 7, cells := 1, slots := 6, locals := 116 }) (va_Pc [.ref (ah 0), zi 1, zi bb, zi 4] (HPreL mi zE G (tyL y) (wH ah y S) sz)) (Q_acts4_1 G ah zE y S bb (va_A (wH ah y S) sz)) XN0 1 6 (va_A (wH ah y S) sz) := by
  refine hz_ofWL (Qf := Q_acts4_1 G ah zE y S bb) (cc := cL_acts) (maxL := 5) (ret := some .int) (hh := [(0, 105, 106, 40)]) (by decide) rfl (Nat.le_of_ble_eq_true rfl) ?_
  intro p e s m below meth c A ls hx hb hr hts hown hlocks hml htab hP hK hA hD hS hGP hX hGN hl
  have hown : s.vm.findClass RL = some m.cls := hown
  have qN := hI.N
  have qC := hI.C
  have qT := hI.Turb
  have qP := hI.Pipe
  have qW := hI.Water
  have qS := hI.Salt
  have hl : lv_has ls 5 [(0, .ref (ah 0)), (1, zi 1), (2, zi bb), (3, zi 4)] := hl
  refine lv_iload_n hx hb dL_acts_0 rfl (lv_at hl 3 rfl) ?_
  refine hz_if_ne (tgt := 12) hx hb dL_acts_1 (by decide) (by omega) (fun _ => ?_) (fun q => by exfalso; omega)
  refine lv_iload_n hx hb dL_acts_12 rfl (lv_at hl 3 rfl) ?_
  refine hz_iconst hx hb dL_acts_13 ?_
  refine hz_icmp_ne (tgt := 26) hx hb dL_acts_14 (by decide) (by omega) (fun _ => ?_) (fun q => by exfalso; omega)
  refine lv_iload_n hx hb dL_acts_26 rfl (lv_at hl 3 rfl) ?_
  refine hz_iconst hx hb dL_acts_27 ?_
  refine hz_icmp_ne (tgt := 39) hx hb dL_acts_28 (by decide) (by omega) (fun _ => ?_) (fun q => by exfalso; omega)
  refine lv_iload_n hx hb dL_acts_39 rfl (lv_at hl 3 rfl) ?_
  refine hz_iconst hx hb dL_acts_40 ?_
  refine hz_icmp_ne (tgt := 52) hx hb dL_acts_41 (by decide) (by omega) (fun _ => ?_) (fun q => by exfalso; omega)
  refine lv_iload_n hx hb dL_acts_52 rfl (lv_at hl 3 rfl) ?_
  refine hz_iconst hx hb dL_acts_53 ?_
  refine hz_icmp_ne (tgt := 74) hx hb dL_acts_54 (by decide) (by omega) (fun q => by exfalso; omega) (fun _ => ?_)
  refine lv_aload_n hx hb dL_acts_57 rfl (lv_at hl 0 rfl) ?_
  refine lv_iload_n hx hb dL_acts_58 rfl (lv_at hl 1 rfl) ?_
  refine hz_iconst hx hb dL_acts_59 ?_
  refine hz_icmp_ne (tgt := 67) hx hb dL_acts_60 (by decide) (by omega) (fun q => by exfalso; omega) (fun _ => ?_)
  refine hz_iconst hx hb dL_acts_63 ?_
  refine lv_goto (tgt := 68) hx hb dL_acts_64 (by decide) ?_
  refine hz_callXi (As := [zi 1]) (rest := []) ⟨hx, hb, hml, hown, hts⟩ (c_X7_pipe l hlt G ah S.1 zE y _ (S.2.1 0) (S.2.1 1) (S.2.1 2) (S.2.1 3) (S.2.1 4) (S.2.1 5) (S.2.1 6) (S.2.1 7) (S.2.1 8) (S.2.1 9) (S.2.1 10) (S.2.1 11) (S.2.1 12) (S.2.1 13) (S.2.1 14) (S.2.1 15) (S.2.1 16) (S.2.1 17) (S.2.1 18) (S.2.2 0) (S.2.2 1) (S.2.2 2) (S.2.2 3) (S.2.2 4) (S.2.2 5) (S.2.2 6) (S.2.2 7) (S.2.2 8) (S.2.2 9) (S.2.2 10) (S.2.2 11) (S.2.2 12) (S.2.2 13) (S.2.2 14) (S.2.2 15) (S.2.2 16) (S.2.2 17) (S.2.2 18) (S.2.2 19) (S.2.2 20) (S.2.2 21) (S.2.2 22) (S.2.2 23) (1 : Int) hI.Pipe (by omega)) (cwV 1 hts gL_acts_X7_pipe rfl rfl rfl (by decide +kernel) ⟨Nat.le_of_ble_eq_true rfl, Nat.le_of_ble_eq_true rfl⟩) hP hK hD hS hA hGP 0 8 rfl rfl rfl rfl hl.1 rfl (Nat.le_of_ble_eq_true rfl) dL_acts_68 ⟨Nat.le_of_ble_eq_true rfl, Nat.le_of_ble_eq_true rfl⟩ (fun _ => hW_fst) (fun _ => rfl) (fun E u hq ce q9 H1 locs1 hP1 hS1 hce hcv hcl => by
        rcases hq with ⟨rfl, hq⟩
        refine vx_catch (own := RL) (name := "java/lang/IllegalStateException") hown [] ⟨0, 105, 106, 40⟩ [] (by rw [htab]; rfl) (fun z hz => (List.not_mem_nil hz).elim) (by decide) (by decide) (hts (.classLink RL 40 "java/lang/IllegalStateException") (List.mem_of_getElem? (i := 1) rfl)) (hz_ca hGP (by decide +kernel)) hce hcv hcl ?_
        refine lv_astore (lv' := [(4, .ref q9), (0, .ref (ah 0)), (1, zi 1), (2, zi bb), (3, zi 4)]) hx hb dL_acts_106 hl (by decide) rfl (fun ls hl => ?_)
        refine hz_sipush hx hb dL_acts_108 (by decide) ?_
        exact hz_up (Nat.le_of_ble_eq_true rfl) (Nat.le_of_ble_eq_true rfl) (W.iret (v := zI (-200)) hx hb hr (fun t ht hW => ⟨⟨zI (-200), false, rfl, Or.inr ⟨rfl, hq, rfl⟩, hz_at2 hP1 (hD) ht⟩, hS1.F ht⟩) hS1.2.2 dL_acts_111)) (fun u H locs hu hP hD hS => ?_)
  obtain ⟨nPipe, nDeg⟩ := u
  obtain ⟨hth, hp1, hp2⟩ := hu
  have hp1 : nPipe = _ := hp1
  have hp2 : nDeg = _ := hp2
  subst hp1
  subst hp2
  have hP : va_P G vwCl (wH ah y (sI (sI S 6 (if (1 : Int) = 1 then 1 else 0)) 7 (if (1 : Int) = 1 then 30 else 0))) H := hP
  have hD : va_D A (wH ah y (sI (sI S 6 (if (1 : Int) = 1 then 1 else 0)) 7 (if (1 : Int) = 1 then 30 else 0))) := hD
  refine lv_goto (tgt := 105) hx hb dL_acts_71 (by decide) ?_
  exact hz_up (Nat.le_of_ble_eq_true rfl) (Nat.le_of_ble_eq_true rfl) (W.iret (v := zI (if (1 : Int) = 1 then 30 else 0)) hx hb hr (fun t ht hW => ⟨⟨zI (if (1 : Int) = 1 then 30 else 0), true, rfl, Or.inl ⟨rfl, hth, rfl⟩, hz_at2 hP hD ht⟩, hS.F ht⟩) hS.2.2 dL_acts_105)
abbrev Q_acts5 (G : va_G) (ah : Nat → Nat) (zE : Nat) (y : Nat → ClassId) (S : ST) (aa : Int) (bb : Int) (A : Nat → Prop) : Array Value → State → Outcome → State → Prop := va_Qi (fun (r : Int32) (u : Bool) => (u = true ∧ (if (S.2.1 10) = 0 then (1 : Int) else 0) = 0 ∧ r = zI ((S.2.1 10))) ∨ (u = false ∧ (if (S.2.1 10) = 0 then (1 : Int) else 0) = 1 ∧ r = zI (-200))) (fun u t => va_P G vwCl (wH ah y (match u with | true => sI (sI S 10 0) 12 0 | false => S)) t.heap ∧ va_D A (wH ah y (match u with | true => sI (sI S 10 0) 12 0 | false => S))) A
set_option maxHeartbeats 8000000 in
set_option maxRecDepth 100000 in
theorem c_acts5 (l : Launch) (hlt : l.stackTraces = false) (G : va_G) (ah : Nat → Nat) (mi zE : Nat) (y : Nat → ClassId) (sz : Nat) (S : ST) (aa : Int) (bb : Int) (hI : FC zE S)  : vx_Met l yL_acts wsL_acts ({ frames := 7, cells := 1, slots := 6, locals := 116 }) (va_Pc [.ref (ah 0), zi aa, zi bb, zi 5] (HPreL mi zE G (tyL y) (wH ah y S) sz)) (Q_acts5 G ah zE y S aa bb (va_A (wH ah y S) sz)) XN0 1 6 (va_A (wH ah y S) sz) := by
  refine hz_ofWL (Qf := Q_acts5 G ah zE y S aa bb) (cc := cL_acts) (maxL := 5) (ret := some .int) (hh := [(0, 105, 106, 40)]) (by decide) rfl (Nat.le_of_ble_eq_true rfl) ?_
  intro p e s m below meth c A ls hx hb hr hts hown hlocks hml htab hP hK hA hD hS hGP hX hGN hl
  have hown : s.vm.findClass RL = some m.cls := hown
  have qN := hI.N
  have qC := hI.C
  have qT := hI.Turb
  have qP := hI.Pipe
  have qW := hI.Water
  have qS := hI.Salt
  have hl : lv_has ls 5 [(0, .ref (ah 0)), (1, zi aa), (2, zi bb), (3, zi 5)] := hl
  refine lv_iload_n hx hb dL_acts_0 rfl (lv_at hl 3 rfl) ?_
  refine hz_if_ne (tgt := 12) hx hb dL_acts_1 (by decide) (by omega) (fun _ => ?_) (fun q => by exfalso; omega)
  refine lv_iload_n hx hb dL_acts_12 rfl (lv_at hl 3 rfl) ?_
  refine hz_iconst hx hb dL_acts_13 ?_
  refine hz_icmp_ne (tgt := 26) hx hb dL_acts_14 (by decide) (by omega) (fun _ => ?_) (fun q => by exfalso; omega)
  refine lv_iload_n hx hb dL_acts_26 rfl (lv_at hl 3 rfl) ?_
  refine hz_iconst hx hb dL_acts_27 ?_
  refine hz_icmp_ne (tgt := 39) hx hb dL_acts_28 (by decide) (by omega) (fun _ => ?_) (fun q => by exfalso; omega)
  refine lv_iload_n hx hb dL_acts_39 rfl (lv_at hl 3 rfl) ?_
  refine hz_iconst hx hb dL_acts_40 ?_
  refine hz_icmp_ne (tgt := 52) hx hb dL_acts_41 (by decide) (by omega) (fun _ => ?_) (fun q => by exfalso; omega)
  refine lv_iload_n hx hb dL_acts_52 rfl (lv_at hl 3 rfl) ?_
  refine hz_iconst hx hb dL_acts_53 ?_
  refine hz_icmp_ne (tgt := 74) hx hb dL_acts_54 (by decide) (by omega) (fun _ => ?_) (fun q => by exfalso; omega)
  refine lv_iload_n hx hb dL_acts_74 rfl (lv_at hl 3 rfl) ?_
  refine hz_iconst hx hb dL_acts_75 ?_
  refine hz_icmp_ne (tgt := 86) hx hb dL_acts_76 (by decide) (by omega) (fun q => by exfalso; omega) (fun _ => ?_)
  refine lv_aload_n hx hb dL_acts_79 rfl (lv_at hl 0 rfl) ?_
  refine hz_callXi (As := []) (rest := []) ⟨hx, hb, hml, hown, hts⟩ (c_X7_stop l hlt G ah S.1 zE y _ (S.2.1 0) (S.2.1 1) (S.2.1 2) (S.2.1 3) (S.2.1 4) (S.2.1 5) (S.2.1 6) (S.2.1 7) (S.2.1 8) (S.2.1 9) (S.2.1 10) (S.2.1 11) (S.2.1 12) (S.2.1 13) (S.2.1 14) (S.2.1 15) (S.2.1 16) (S.2.1 17) (S.2.1 18) (S.2.2 0) (S.2.2 1) (S.2.2 2) (S.2.2 3) (S.2.2 4) (S.2.2 5) (S.2.2 6) (S.2.2 7) (S.2.2 8) (S.2.2 9) (S.2.2 10) (S.2.2 11) (S.2.2 12) (S.2.2 13) (S.2.2 14) (S.2.2 15) (S.2.2 16) (S.2.2 17) (S.2.2 18) (S.2.2 19) (S.2.2 20) (S.2.2 21) (S.2.2 22) (S.2.2 23)  hI.Turb) (cwV 0 hts gL_acts_X7_stop rfl rfl rfl (by decide +kernel) ⟨Nat.le_of_ble_eq_true rfl, Nat.le_of_ble_eq_true rfl⟩) hP hK hD hS hA hGP 0 8 rfl rfl rfl rfl hl.1 rfl (Nat.le_of_ble_eq_true rfl) dL_acts_80 ⟨Nat.le_of_ble_eq_true rfl, Nat.le_of_ble_eq_true rfl⟩ (fun _ => hW_fst) (fun _ => rfl) (fun E u hq ce q9 H1 locs1 hP1 hS1 hce hcv hcl => by
        rcases hq with ⟨rfl, hq⟩
        refine vx_catch (own := RL) (name := "java/lang/IllegalStateException") hown [] ⟨0, 105, 106, 40⟩ [] (by rw [htab]; rfl) (fun z hz => (List.not_mem_nil hz).elim) (by decide) (by decide) (hts (.classLink RL 40 "java/lang/IllegalStateException") (List.mem_of_getElem? (i := 1) rfl)) (hz_ca hGP (by decide +kernel)) hce hcv hcl ?_
        refine lv_astore (lv' := [(4, .ref q9), (0, .ref (ah 0)), (1, zi aa), (2, zi bb), (3, zi 5)]) hx hb dL_acts_106 hl (by decide) rfl (fun ls hl => ?_)
        refine hz_sipush hx hb dL_acts_108 (by decide) ?_
        exact hz_up (Nat.le_of_ble_eq_true rfl) (Nat.le_of_ble_eq_true rfl) (W.iret (v := zI (-200)) hx hb hr (fun t ht hW => ⟨⟨zI (-200), false, rfl, Or.inr ⟨rfl, hq, rfl⟩, hz_at2 hP1 (hD) ht⟩, hS1.F ht⟩) hS1.2.2 dL_acts_111)) (fun u H locs hu hP hD hS => ?_)
  have hth := hu
  have hP : va_P G vwCl (wH ah y (sI (sI S 10 0) 12 0)) H := hP
  have hD : va_D A (wH ah y (sI (sI S 10 0) 12 0)) := hD
  refine lv_goto (tgt := 105) hx hb dL_acts_83 (by decide) ?_
  exact hz_up (Nat.le_of_ble_eq_true rfl) (Nat.le_of_ble_eq_true rfl) (W.iret (v := zI (S.2.1 10)) hx hb hr (fun t ht hW => ⟨⟨zI (S.2.1 10), true, rfl, Or.inl ⟨rfl, hth, rfl⟩, hz_at2 hP hD ht⟩, hS.F ht⟩) hS.2.2 dL_acts_105)
abbrev Q_acts6 (G : va_G) (ah : Nat → Nat) (zE : Nat) (y : Nat → ClassId) (S : ST) (units : Int) (bb : Int) (A : Nat → Prop) : Array Value → State → Outcome → State → Prop := va_Qi (fun (r : Int32) (u : Bool) => (u = true ∧ (if ¬ (1 ≤ units ∧ units ≤ 500) then (1 : Int) else if 1000 < (S.2.1 4) + (S.2.1 5) + units then 2 else 0) = 0 ∧ r = zI ((S.2.1 4) + units)) ∨ (u = false ∧ (if ¬ (1 ≤ units ∧ units ≤ 500) then (1 : Int) else if 1000 < (S.2.1 4) + (S.2.1 5) + units then 2 else 0) = 2 ∧ r = zI (-200))) (fun u t => va_P G vwCl (wH ah y (match u with | true => sI S 4 (S.2.1 4 + units) | false => S)) t.heap ∧ va_D A (wH ah y (match u with | true => sI S 4 (S.2.1 4 + units) | false => S))) A
set_option maxHeartbeats 8000000 in
set_option maxRecDepth 100000 in
theorem c_acts6 (l : Launch) (hlt : l.stackTraces = false) (G : va_G) (ah : Nat → Nat) (mi zE : Nat) (y : Nat → ClassId) (sz : Nat) (S : ST) (units : Int) (bb : Int) (hI : FC zE S) (hu : 1 ≤ units ∧ units ≤ 500) : vx_Met l yL_acts wsL_acts ({ frames := 8, cells := 2, slots := 12, locals := 138 }) (va_Pc [.ref (ah 0), zi units, zi bb, zi 6] (HPreL mi zE G (tyL y) (wH ah y S) sz)) (Q_acts6 G ah zE y S units bb (va_A (wH ah y S) sz)) XN0 2 12 (va_A (wH ah y S) sz) := by
  refine hz_ofWL (Qf := Q_acts6 G ah zE y S units bb) (cc := cL_acts) (maxL := 5) (ret := some .int) (hh := [(0, 105, 106, 40)]) (by decide) rfl (Nat.le_of_ble_eq_true rfl) ?_
  intro p e s m below meth c A ls hx hb hr hts hown hlocks hml htab hP hK hA hD hS hGP hX hGN hl
  have hown : s.vm.findClass RL = some m.cls := hown
  have qN := hI.N
  have qC := hI.C
  have qT := hI.Turb
  have qP := hI.Pipe
  have qW := hI.Water
  have qS := hI.Salt
  have hl : lv_has ls 5 [(0, .ref (ah 0)), (1, zi units), (2, zi bb), (3, zi 6)] := hl
  refine lv_iload_n hx hb dL_acts_0 rfl (lv_at hl 3 rfl) ?_
  refine hz_if_ne (tgt := 12) hx hb dL_acts_1 (by decide) (by omega) (fun _ => ?_) (fun q => by exfalso; omega)
  refine lv_iload_n hx hb dL_acts_12 rfl (lv_at hl 3 rfl) ?_
  refine hz_iconst hx hb dL_acts_13 ?_
  refine hz_icmp_ne (tgt := 26) hx hb dL_acts_14 (by decide) (by omega) (fun _ => ?_) (fun q => by exfalso; omega)
  refine lv_iload_n hx hb dL_acts_26 rfl (lv_at hl 3 rfl) ?_
  refine hz_iconst hx hb dL_acts_27 ?_
  refine hz_icmp_ne (tgt := 39) hx hb dL_acts_28 (by decide) (by omega) (fun _ => ?_) (fun q => by exfalso; omega)
  refine lv_iload_n hx hb dL_acts_39 rfl (lv_at hl 3 rfl) ?_
  refine hz_iconst hx hb dL_acts_40 ?_
  refine hz_icmp_ne (tgt := 52) hx hb dL_acts_41 (by decide) (by omega) (fun _ => ?_) (fun q => by exfalso; omega)
  refine lv_iload_n hx hb dL_acts_52 rfl (lv_at hl 3 rfl) ?_
  refine hz_iconst hx hb dL_acts_53 ?_
  refine hz_icmp_ne (tgt := 74) hx hb dL_acts_54 (by decide) (by omega) (fun _ => ?_) (fun q => by exfalso; omega)
  refine lv_iload_n hx hb dL_acts_74 rfl (lv_at hl 3 rfl) ?_
  refine hz_iconst hx hb dL_acts_75 ?_
  refine hz_icmp_ne (tgt := 86) hx hb dL_acts_76 (by decide) (by omega) (fun _ => ?_) (fun q => by exfalso; omega)
  refine lv_iload_n hx hb dL_acts_86 rfl (lv_at hl 3 rfl) ?_
  refine hz_bipush hx hb dL_acts_87 (by decide) ?_
  refine hz_icmp_ne (tgt := 100) hx hb dL_acts_89 (by decide) (by omega) (fun q => by exfalso; omega) (fun _ => ?_)
  refine lv_aload_n hx hb dL_acts_92 rfl (lv_at hl 0 rfl) ?_
  refine lv_iload_n hx hb dL_acts_93 rfl (lv_at hl 1 rfl) ?_
  refine hz_callXi (As := [zi units]) (rest := []) ⟨hx, hb, hml, hown, hts⟩ (c_X7_salt l hlt G ah S.1 zE y _ (S.2.1 0) (S.2.1 1) (S.2.1 2) (S.2.1 3) (S.2.1 4) (S.2.1 5) (S.2.1 6) (S.2.1 7) (S.2.1 8) (S.2.1 9) (S.2.1 10) (S.2.1 11) (S.2.1 12) (S.2.1 13) (S.2.1 14) (S.2.1 15) (S.2.1 16) (S.2.1 17) (S.2.1 18) (S.2.2 0) (S.2.2 1) (S.2.2 2) (S.2.2 3) (S.2.2 4) (S.2.2 5) (S.2.2 6) (S.2.2 7) (S.2.2 8) (S.2.2 9) (S.2.2 10) (S.2.2 11) (S.2.2 12) (S.2.2 13) (S.2.2 14) (S.2.2 15) (S.2.2 16) (S.2.2 17) (S.2.2 18) (S.2.2 19) (S.2.2 20) (S.2.2 21) (S.2.2 22) (S.2.2 23) units hI.Salt (by omega)) (cwV 1 hts gL_acts_X7_salt rfl rfl rfl (by decide +kernel) ⟨Nat.le_of_ble_eq_true rfl, Nat.le_of_ble_eq_true rfl⟩) hP hK hD hS hA hGP 0 8 rfl rfl rfl rfl hl.1 rfl (Nat.le_of_ble_eq_true rfl) dL_acts_94 ⟨Nat.le_of_ble_eq_true rfl, Nat.le_of_ble_eq_true rfl⟩ (fun _ => hW_fst) (fun _ => rfl) (fun E u hq ce q9 H1 locs1 hP1 hS1 hce hcv hcl => by
        rcases hq with ⟨rfl, hq⟩ | ⟨rfl, hq⟩
        · exfalso; (first | omega | (split at hq <;> omega))
        · refine vx_catch (own := RL) (name := "java/lang/IllegalStateException") hown [] ⟨0, 105, 106, 40⟩ [] (by rw [htab]; rfl) (fun z hz => (List.not_mem_nil hz).elim) (by decide) (by decide) (hts (.classLink RL 40 "java/lang/IllegalStateException") (List.mem_of_getElem? (i := 1) rfl)) (hz_ca hGP (by decide +kernel)) hce hcv hcl ?_
          refine lv_astore (lv' := [(4, .ref q9), (0, .ref (ah 0)), (1, zi units), (2, zi bb), (3, zi 6)]) hx hb dL_acts_106 hl (by decide) rfl (fun ls hl => ?_)
          refine hz_sipush hx hb dL_acts_108 (by decide) ?_
          exact hz_up (Nat.le_of_ble_eq_true rfl) (Nat.le_of_ble_eq_true rfl) (W.iret (v := zI (-200)) hx hb hr (fun t ht hW => ⟨⟨zI (-200), false, rfl, Or.inr ⟨rfl, hq, rfl⟩, hz_at2 hP1 (hD) ht⟩, hS1.F ht⟩) hS1.2.2 dL_acts_111)) (fun u H locs hu hP hD hS => ?_)
  have hth := hu
  have hP : va_P G vwCl (wH ah y (sI S 4 (S.2.1 4 + units))) H := hP
  have hD : va_D A (wH ah y (sI S 4 (S.2.1 4 + units))) := hD
  refine lv_goto (tgt := 105) hx hb dL_acts_97 (by decide) ?_
  exact hz_up (Nat.le_of_ble_eq_true rfl) (Nat.le_of_ble_eq_true rfl) (W.iret (v := zI ((S.2.1 4) + units)) hx hb hr (fun t ht hW => ⟨⟨zI ((S.2.1 4) + units), true, rfl, Or.inl ⟨rfl, hth, rfl⟩, hz_at2 hP hD ht⟩, hS.F ht⟩) hS.2.2 dL_acts_105)
abbrev Q_acts7 (G : va_G) (ah : Nat → Nat) (zE : Nat) (y : Nat → ClassId) (S : ST) (units : Int) (bb : Int) (A : Nat → Prop) : Array Value → State → Outcome → State → Prop := va_Qi (fun (r : Int32) (u : Bool) => (u = true ∧ (if ¬ (1 ≤ units ∧ units ≤ 500) then (1 : Int) else if 1000 < (S.2.1 13) + units then 2 else 0) = 0 ∧ r = zI ((S.2.1 13) + units)) ∨ (u = false ∧ (if ¬ (1 ≤ units ∧ units ≤ 500) then (1 : Int) else if 1000 < (S.2.1 13) + units then 2 else 0) = 2 ∧ r = zI (-200))) (fun u t => va_P G vwCl (wH ah y (match u with | true => sI S 13 (S.2.1 13 + units) | false => S)) t.heap ∧ va_D A (wH ah y (match u with | true => sI S 13 (S.2.1 13 + units) | false => S))) A
set_option maxHeartbeats 8000000 in
set_option maxRecDepth 100000 in
theorem c_acts7 (l : Launch) (hlt : l.stackTraces = false) (G : va_G) (ah : Nat → Nat) (mi zE : Nat) (y : Nat → ClassId) (sz : Nat) (S : ST) (units : Int) (bb : Int) (hI : FC zE S) (hu : 1 ≤ units ∧ units ≤ 500) : vx_Met l yL_acts wsL_acts ({ frames := 8, cells := 2, slots := 12, locals := 138 }) (va_Pc [.ref (ah 0), zi units, zi bb, zi 7] (HPreL mi zE G (tyL y) (wH ah y S) sz)) (Q_acts7 G ah zE y S units bb (va_A (wH ah y S) sz)) XN0 2 12 (va_A (wH ah y S) sz) := by
  refine hz_ofWL (Qf := Q_acts7 G ah zE y S units bb) (cc := cL_acts) (maxL := 5) (ret := some .int) (hh := [(0, 105, 106, 40)]) (by decide) rfl (Nat.le_of_ble_eq_true rfl) ?_
  intro p e s m below meth c A ls hx hb hr hts hown hlocks hml htab hP hK hA hD hS hGP hX hGN hl
  have hown : s.vm.findClass RL = some m.cls := hown
  have qN := hI.N
  have qC := hI.C
  have qT := hI.Turb
  have qP := hI.Pipe
  have qW := hI.Water
  have qS := hI.Salt
  have hl : lv_has ls 5 [(0, .ref (ah 0)), (1, zi units), (2, zi bb), (3, zi 7)] := hl
  refine lv_iload_n hx hb dL_acts_0 rfl (lv_at hl 3 rfl) ?_
  refine hz_if_ne (tgt := 12) hx hb dL_acts_1 (by decide) (by omega) (fun _ => ?_) (fun q => by exfalso; omega)
  refine lv_iload_n hx hb dL_acts_12 rfl (lv_at hl 3 rfl) ?_
  refine hz_iconst hx hb dL_acts_13 ?_
  refine hz_icmp_ne (tgt := 26) hx hb dL_acts_14 (by decide) (by omega) (fun _ => ?_) (fun q => by exfalso; omega)
  refine lv_iload_n hx hb dL_acts_26 rfl (lv_at hl 3 rfl) ?_
  refine hz_iconst hx hb dL_acts_27 ?_
  refine hz_icmp_ne (tgt := 39) hx hb dL_acts_28 (by decide) (by omega) (fun _ => ?_) (fun q => by exfalso; omega)
  refine lv_iload_n hx hb dL_acts_39 rfl (lv_at hl 3 rfl) ?_
  refine hz_iconst hx hb dL_acts_40 ?_
  refine hz_icmp_ne (tgt := 52) hx hb dL_acts_41 (by decide) (by omega) (fun _ => ?_) (fun q => by exfalso; omega)
  refine lv_iload_n hx hb dL_acts_52 rfl (lv_at hl 3 rfl) ?_
  refine hz_iconst hx hb dL_acts_53 ?_
  refine hz_icmp_ne (tgt := 74) hx hb dL_acts_54 (by decide) (by omega) (fun _ => ?_) (fun q => by exfalso; omega)
  refine lv_iload_n hx hb dL_acts_74 rfl (lv_at hl 3 rfl) ?_
  refine hz_iconst hx hb dL_acts_75 ?_
  refine hz_icmp_ne (tgt := 86) hx hb dL_acts_76 (by decide) (by omega) (fun _ => ?_) (fun q => by exfalso; omega)
  refine lv_iload_n hx hb dL_acts_86 rfl (lv_at hl 3 rfl) ?_
  refine hz_bipush hx hb dL_acts_87 (by decide) ?_
  refine hz_icmp_ne (tgt := 100) hx hb dL_acts_89 (by decide) (by omega) (fun _ => ?_) (fun q => by exfalso; omega)
  refine lv_aload_n hx hb dL_acts_100 rfl (lv_at hl 0 rfl) ?_
  refine lv_iload_n hx hb dL_acts_101 rfl (lv_at hl 1 rfl) ?_
  refine hz_callXi (As := [zi units]) (rest := []) ⟨hx, hb, hml, hown, hts⟩ (c_X7_water l hlt G ah S.1 zE y _ (S.2.1 0) (S.2.1 1) (S.2.1 2) (S.2.1 3) (S.2.1 4) (S.2.1 5) (S.2.1 6) (S.2.1 7) (S.2.1 8) (S.2.1 9) (S.2.1 10) (S.2.1 11) (S.2.1 12) (S.2.1 13) (S.2.1 14) (S.2.1 15) (S.2.1 16) (S.2.1 17) (S.2.1 18) (S.2.2 0) (S.2.2 1) (S.2.2 2) (S.2.2 3) (S.2.2 4) (S.2.2 5) (S.2.2 6) (S.2.2 7) (S.2.2 8) (S.2.2 9) (S.2.2 10) (S.2.2 11) (S.2.2 12) (S.2.2 13) (S.2.2 14) (S.2.2 15) (S.2.2 16) (S.2.2 17) (S.2.2 18) (S.2.2 19) (S.2.2 20) (S.2.2 21) (S.2.2 22) (S.2.2 23) units hI.Water (by omega)) (cwV 1 hts gL_acts_X7_water rfl rfl rfl (by decide +kernel) ⟨Nat.le_of_ble_eq_true rfl, Nat.le_of_ble_eq_true rfl⟩) hP hK hD hS hA hGP 0 8 rfl rfl rfl rfl hl.1 rfl (Nat.le_of_ble_eq_true rfl) dL_acts_102 ⟨Nat.le_of_ble_eq_true rfl, Nat.le_of_ble_eq_true rfl⟩ (fun _ => hW_fst) (fun _ => rfl) (fun E u hq ce q9 H1 locs1 hP1 hS1 hce hcv hcl => by
        rcases hq with ⟨rfl, hq⟩ | ⟨rfl, hq⟩
        · exfalso; (first | omega | (split at hq <;> omega))
        · refine vx_catch (own := RL) (name := "java/lang/IllegalStateException") hown [] ⟨0, 105, 106, 40⟩ [] (by rw [htab]; rfl) (fun z hz => (List.not_mem_nil hz).elim) (by decide) (by decide) (hts (.classLink RL 40 "java/lang/IllegalStateException") (List.mem_of_getElem? (i := 1) rfl)) (hz_ca hGP (by decide +kernel)) hce hcv hcl ?_
          refine lv_astore (lv' := [(4, .ref q9), (0, .ref (ah 0)), (1, zi units), (2, zi bb), (3, zi 7)]) hx hb dL_acts_106 hl (by decide) rfl (fun ls hl => ?_)
          refine hz_sipush hx hb dL_acts_108 (by decide) ?_
          exact hz_up (Nat.le_of_ble_eq_true rfl) (Nat.le_of_ble_eq_true rfl) (W.iret (v := zI (-200)) hx hb hr (fun t ht hW => ⟨⟨zI (-200), false, rfl, Or.inr ⟨rfl, hq, rfl⟩, hz_at2 hP1 (hD) ht⟩, hS1.F ht⟩) hS1.2.2 dL_acts_111)) (fun u H locs hu hP hD hS => ?_)
  have hth := hu
  have hP : va_P G vwCl (wH ah y (sI S 13 (S.2.1 13 + units))) H := hP
  have hD : va_D A (wH ah y (sI S 13 (S.2.1 13 + units))) := hD
  exact hz_up (Nat.le_of_ble_eq_true rfl) (Nat.le_of_ble_eq_true rfl) (W.iret (v := zI ((S.2.1 13) + units)) hx hb hr (fun t ht hW => ⟨⟨zI ((S.2.1 13) + units), true, rfl, Or.inl ⟨rfl, hth, rfl⟩, hz_at2 hP hD ht⟩, hS.F ht⟩) hS.2.2 dL_acts_105)
abbrev Q_cloud (G : va_G) (ah : Nat → Nat) (zE : Nat) (y : Nat → ClassId) (S : ST) (row : Int) (column : Int) (size : Int) (goesDown : Int) (goesRight : Int) (A : Nat → Prop) : Array Value → State → Outcome → State → Prop := va_Qi (fun (r : Int32) (u : Option LZ) => (∃ nz : LZ, u = some nz ∧ (if ¬ ((-16 ≤ row ∧ row ≤ 16) ∧ (-16 ≤ column ∧ column ≤ 16) ∧ (1 ≤ size ∧ size ≤ 8) ∧ (1 ≤ size ∧ size ≤ 8) ∧ (-1 ≤ goesDown ∧ goesDown ≤ 1) ∧ (-1 ≤ goesRight ∧ goesRight ≤ 1)) then (1 : Int) else if (S.2.1 1) = 4 then 2 else 0) = 0 ∧ r = zI (((S.2.1 1) + 1)) ∧ LZok nz (S.2.1 0) (S.2.1 1 + 1) ∧ LZe nz zE) ∨ (u = none ∧ (if ¬ ((-16 ≤ row ∧ row ≤ 16) ∧ (-16 ≤ column ∧ column ≤ 16) ∧ (1 ≤ size ∧ size ≤ 8) ∧ (1 ≤ size ∧ size ≤ 8) ∧ (-1 ≤ goesDown ∧ goesDown ≤ 1) ∧ (-1 ≤ goesRight ∧ goesRight ≤ 1)) then (1 : Int) else if (S.2.1 1) = 4 then 2 else 0) = 2 ∧ r = zI (-200))) (fun u t => va_P G vwCl (wH ah y (match u with | some nz => sCl S nz row column size size goesDown goesRight | none => S)) t.heap ∧ va_D A (wH ah y (match u with | some nz => sCl S nz row column size size goesDown goesRight | none => S))) A
set_option maxHeartbeats 8000000 in
set_option maxRecDepth 100000 in
theorem c_cloud (l : Launch) (hlt : l.stackTraces = false) (G : va_G) (ah : Nat → Nat) (mi zE : Nat) (y : Nat → ClassId) (sz : Nat) (S : ST) (row : Int) (column : Int) (size : Int) (goesDown : Int) (goesRight : Int) (hI : FC zE S) (hr : (-16 ≤ row ∧ row ≤ 16) ∧ (-16 ≤ column ∧ column ≤ 16) ∧ (1 ≤ size ∧ size ≤ 8) ∧ (-1 ≤ goesDown ∧ goesDown ≤ 1) ∧ (-1 ≤ goesRight ∧ goesRight ≤ 1)) : vx_Met l yL_cloud wsL_cloud ({ frames := 8, cells := 14, slots := 84, locals := 181 }) (va_Pc [.ref (ah 0), zi row, zi column, zi size, zi goesDown, zi goesRight] (HPreL mi zE G (tyL y) (wH ah y S) sz)) (Q_cloud G ah zE y S row column size goesDown goesRight (va_A (wH ah y S) sz)) XN0 14 84 (va_A (wH ah y S) sz) := by
  refine hz_ofWL (Qf := Q_cloud G ah zE y S row column size goesDown goesRight) (cc := cL_cloud) (maxL := 7) (ret := some .int) (hh := [(0, 12, 13, 40)]) (by decide) rfl (Nat.le_of_ble_eq_true rfl) ?_
  intro p e s m below meth c A ls hx hb hr hts hown hlocks hml htab hP hK hA hD hS hGP hX hGN hl
  have hown : s.vm.findClass RL = some m.cls := hown
  have qN := hI.N
  have qC := hI.C
  have qT := hI.Turb
  have qP := hI.Pipe
  have qW := hI.Water
  have qS := hI.Salt
  have hl : lv_has ls 7 [(0, .ref (ah 0)), (1, zi row), (2, zi column), (3, zi size), (4, zi goesDown), (5, zi goesRight)] := hl
  refine lv_aload_n hx hb dL_cloud_0 rfl (lv_at hl 0 rfl) ?_
  refine lv_iload_n hx hb dL_cloud_1 rfl (lv_at hl 1 rfl) ?_
  refine lv_iload_n hx hb dL_cloud_2 rfl (lv_at hl 2 rfl) ?_
  refine lv_iload_n hx hb dL_cloud_3 rfl (lv_at hl 3 rfl) ?_
  refine lv_iload_n hx hb dL_cloud_4 rfl (lv_at hl 3 rfl) ?_
  refine lv_iload hx hb dL_cloud_5 (lv_at hl 4 rfl) ?_
  refine lv_iload hx hb dL_cloud_7 (lv_at hl 5 rfl) ?_
  refine hz_callXn (As := [zi row, zi column, zi size, zi size, zi goesDown, zi goesRight]) (rest := []) ⟨hx, hb, hml, hown, hts⟩ (c_X7_cloud l hlt G ah S.1 mi zE y _ (S.2.1 0) (S.2.1 1) (S.2.1 2) (S.2.1 3) (S.2.1 4) (S.2.1 5) (S.2.1 6) (S.2.1 7) (S.2.1 8) (S.2.1 9) (S.2.1 10) (S.2.1 11) (S.2.1 12) (S.2.1 13) (S.2.1 14) (S.2.1 15) (S.2.1 16) (S.2.1 17) (S.2.1 18) (S.2.2 0) (S.2.2 1) (S.2.2 2) (S.2.2 3) (S.2.2 4) (S.2.2 5) (S.2.2 6) (S.2.2 7) (S.2.2 8) (S.2.2 9) (S.2.2 10) (S.2.2 11) (S.2.2 12) (S.2.2 13) (S.2.2 14) (S.2.2 15) (S.2.2 16) (S.2.2 17) (S.2.2 18) (S.2.2 19) (S.2.2 20) (S.2.2 21) (S.2.2 22) (S.2.2 23) row column size size goesDown goesRight hI.Z hI.N hI.C (by omega) (by omega) (by omega) (by omega) (by omega) (by omega) hI.Ze) (cwV 6 hts gL_cloud_X7_cloud rfl rfl rfl (by decide +kernel) ⟨Nat.le_of_ble_eq_true rfl, Nat.le_of_ble_eq_true rfl⟩) hP hK hD hS hA hGP hX 0 8 rfl rfl rfl rfl hl.1 rfl (Nat.le_of_ble_eq_true rfl) dL_cloud_9 ⟨Nat.le_of_ble_eq_true rfl, Nat.le_of_ble_eq_true rfl⟩ (fun E u hq ce q9 H1 locs1 hP1 hS1 hce hcv hcl => by
        rcases hq with ⟨rfl, hq⟩ | ⟨rfl, hq⟩
        · exfalso; (first | omega | (split at hq <;> omega))
        · refine vx_catch (own := RL) (name := "java/lang/IllegalStateException") hown [] ⟨0, 12, 13, 40⟩ [] (by rw [htab]; rfl) (fun z hz => (List.not_mem_nil hz).elim) (by decide) (by decide) (hts (.classLink RL 40 "java/lang/IllegalStateException") (List.mem_of_getElem? (i := 1) rfl)) (hz_ca hGP (by decide +kernel)) hce hcv hcl ?_
          refine lv_astore (lv' := [(6, .ref q9), (0, .ref (ah 0)), (1, zi row), (2, zi column), (3, zi size), (4, zi goesDown), (5, zi goesRight)]) hx hb dL_cloud_13 hl (by decide) rfl (fun ls hl => ?_)
          refine hz_sipush hx hb dL_cloud_15 (by decide) ?_
          exact hz_up (Nat.le_of_ble_eq_true rfl) (Nat.le_of_ble_eq_true rfl) (W.iret (v := zI (-200)) hx hb hr (fun t ht hW => ⟨⟨zI (-200), none, rfl, Or.inr ⟨rfl, hq, rfl⟩, hz_at2 hP1 (hD) ht⟩, hS1.F ht⟩) hS1.2.2 dL_cloud_18)) (fun r u H locs hu hP hD hS => ?_)
  obtain ⟨rfl, hzz, hth⟩ := hu
  have hP : va_P G vwCl (wH ah y (sCl S u row column size size goesDown goesRight)) H := hP
  have hD : va_D A (wH ah y (sCl S u row column size size goesDown goesRight)) := hD
  exact hz_up (Nat.le_of_ble_eq_true rfl) (Nat.le_of_ble_eq_true rfl) (W.iret (v := zI ((S.2.1 1) + 1)) hx hb hr (fun t ht hW => ⟨⟨zI ((S.2.1 1) + 1), some u, rfl, Or.inl ⟨u, rfl, hth, rfl, hzz⟩, hz_at2 hP hD ht⟩, hS.F ht⟩) hS.2.2 dL_cloud_12)
abbrev Q_best (G : va_G) (ah : Nat → Nat) (zE : Nat) (y : Nat → ClassId) (S : ST) (sid : Int) (which : Int) (A : Nat → Prop) : Array Value → State → Outcome → State → Prop := va_Qi (fun (r : Int32) (u : BT) => r = zI (if (if ¬ (okZ sid (S.2.1 0) (S.2.2 5) = 1 ∧ -1 ≤ which ∧ which < cntZ sid (S.2.1 0)) then (1 : Int) else if (bstZ sid (S.2.1 0) (S.2.2 2) (S.2.2 3) (S.2.2 4) (ryZ (S.2.1 0) (S.2.1 1) (S.2.1 2) (S.2.1 3) (S.2.2 0) (S.2.2 1) (S.2.2 6) (S.2.2 7) (S.2.2 8) (S.2.2 9) (S.2.2 10) (S.2.2 11)) (S.2.2 12)).1 = -1 then 2 else 0) = 0 then (if which = -1 then (bstZ sid (S.2.1 0) (S.2.2 2) (S.2.2 3) (S.2.2 4) (ryZ (S.2.1 0) (S.2.1 1) (S.2.1 2) (S.2.1 3) (S.2.2 0) (S.2.2 1) (S.2.2 6) (S.2.2 7) (S.2.2 8) (S.2.2 9) (S.2.2 10) (S.2.2 11)) (S.2.2 12)).2 else rwZ (cntZ sid (S.2.1 0)) (bstZ sid (S.2.1 0) (S.2.2 2) (S.2.2 3) (S.2.2 4) (ryZ (S.2.1 0) (S.2.1 1) (S.2.1 2) (S.2.1 3) (S.2.2 0) (S.2.2 1) (S.2.2 6) (S.2.2 7) (S.2.2 8) (S.2.2 9) (S.2.2 10) (S.2.2 11)) (S.2.2 12)).1 which) else if (if ¬ (okZ sid (S.2.1 0) (S.2.2 5) = 1 ∧ -1 ≤ which ∧ which < cntZ sid (S.2.1 0)) then (1 : Int) else if (bstZ sid (S.2.1 0) (S.2.2 2) (S.2.2 3) (S.2.2 4) (ryZ (S.2.1 0) (S.2.1 1) (S.2.1 2) (S.2.1 3) (S.2.2 0) (S.2.2 1) (S.2.2 6) (S.2.2 7) (S.2.2 8) (S.2.2 9) (S.2.2 10) (S.2.2 11)) (S.2.2 12)).1 = -1 then 2 else 0) = 1 then -300 else -200)) (fun u t => va_P G vwCl (wH ah y (sB S u)) t.heap ∧ va_D A (wH ah y (sB S u))) A
set_option maxHeartbeats 8000000 in
set_option maxRecDepth 100000 in
theorem c_best (l : Launch) (hlt : l.stackTraces = false) (G : va_G) (ah : Nat → Nat) (mi zE : Nat) (y : Nat → ClassId) (sz : Nat) (S : ST) (sid : Int) (which : Int) (hI : FC zE S) (hs : 0 ≤ sid ∧ sid < 4096) (hw : -1 ≤ which ∧ which ≤ 5) : vx_Met l yL_best wsL_best ({ frames := 13, cells := 3, slots := 18, locals := 563 }) (va_Pc [.ref (ah 0), zi sid, zi which] (HPreL mi zE G (tyL y) (wH ah y S) sz)) (Q_best G ah zE y S sid which (va_A (wH ah y S) sz)) XN0 3 18 (va_A (wH ah y S) sz) := by
  refine hz_ofWL (Qf := Q_best G ah zE y S sid which) (cc := cL_best) (maxL := 4) (ret := some .int) (hh := [(0, 6, 7, 40), (0, 6, 12, 49)]) (by decide) rfl (Nat.le_of_ble_eq_true rfl) ?_
  intro p e s m below meth c A ls hx hb hr hts hown hlocks hml htab hP hK hA hD hS hGP hX hGN hl
  have hown : s.vm.findClass RL = some m.cls := hown
  have qN := hI.N
  have qC := hI.C
  have qT := hI.Turb
  have qP := hI.Pipe
  have qW := hI.Water
  have qS := hI.Salt
  have hl : lv_has ls 4 [(0, .ref (ah 0)), (1, zi sid), (2, zi which)] := hl
  refine lv_aload_n hx hb dL_best_0 rfl (lv_at hl 0 rfl) ?_
  refine lv_iload_n hx hb dL_best_1 rfl (lv_at hl 1 rfl) ?_
  refine lv_iload_n hx hb dL_best_2 rfl (lv_at hl 2 rfl) ?_
  refine hz_callXi (As := [zi sid, zi which]) (rest := []) ⟨hx, hb, hml, hown, hts⟩ (c_X7_best l hlt G ah S.1 zE y _ (S.2.1 0) (S.2.1 1) (S.2.1 2) (S.2.1 3) (S.2.1 4) (S.2.1 5) (S.2.1 6) (S.2.1 7) (S.2.1 8) (S.2.1 9) (S.2.1 10) (S.2.1 11) (S.2.1 12) (S.2.1 13) (S.2.1 14) (S.2.1 15) (S.2.1 16) (S.2.1 17) (S.2.1 18) (S.2.2 0) (S.2.2 1) (S.2.2 2) (S.2.2 3) (S.2.2 4) (S.2.2 5) (S.2.2 6) (S.2.2 7) (S.2.2 8) (S.2.2 9) (S.2.2 10) (S.2.2 11) (S.2.2 12) (S.2.2 13) (S.2.2 14) (S.2.2 15) (S.2.2 16) (S.2.2 17) (S.2.2 18) (S.2.2 19) (S.2.2 20) (S.2.2 21) (S.2.2 22) (S.2.2 23) sid which hI.Z hI.Tk hI.N hI.C hI.Now hI.Haze hI.Cell hI.Dirt hI.Top hI.Lm hI.Rows hI.Cols hI.Down hI.Right hI.Aim hI.Err hI.Cor hI.Brk hI.Bound (by omega) (by omega)) (cwV 2 hts gL_best_X7_best rfl rfl rfl (by decide +kernel) ⟨Nat.le_of_ble_eq_true rfl, Nat.le_of_ble_eq_true rfl⟩) hP hK hD hS hA hGP 0 8 rfl rfl rfl rfl hl.1 rfl (Nat.le_of_ble_eq_true rfl) dL_best_3 ⟨Nat.le_of_ble_eq_true rfl, Nat.le_of_ble_eq_true rfl⟩ (fun _ => hW_fst) (fun _ => hW_fst) (fun E u hq ce q9 H1 locs1 hP1 hS1 hce hcv hcl => by
        rcases hq with ⟨rfl, hq⟩ | ⟨rfl, hq⟩
        · refine vx_catch (own := RL) (name := "java/lang/IllegalArgumentException") hown [⟨0, 6, 7, 40⟩] ⟨0, 6, 12, 49⟩ [] (by rw [htab]; rfl) (fun z hz => by rw [List.mem_singleton.mp hz]; exact Or.inr ⟨by decide, "java/lang/IllegalStateException", hts (.classLink RL 40 "java/lang/IllegalStateException") (List.mem_of_getElem? (i := 1) rfl), hGN⟩) (by decide) (by decide) (hts (.classLink RL 49 "java/lang/IllegalArgumentException") (List.mem_of_getElem? (i := 2) rfl)) (hz_ca hGP (by decide +kernel)) hce hcv hcl ?_
          refine lv_astore_n (lv' := [(3, .ref q9), (0, .ref (ah 0)), (1, zi sid), (2, zi which)]) hx hb dL_best_12 rfl hl (by decide) rfl (fun ls hl => ?_)
          refine hz_sipush hx hb dL_best_13 (by decide) ?_
          exact hz_up (Nat.le_of_ble_eq_true rfl) (Nat.le_of_ble_eq_true rfl) (W.iret (v := zI (-300)) hx hb hr (fun t ht hW => ⟨⟨zI (-300), u, rfl, congrArg zI (show (-300 : Int) = _ by rw [hq]; rfl), hz_at2 hP1 (hz_Dc hD (wH_fst (S2 := sB S u) rfl rfl rfl)) ht⟩, hS1.F ht⟩) hS1.2.2 dL_best_16)
        · refine vx_catch (own := RL) (name := "java/lang/IllegalStateException") hown [] ⟨0, 6, 7, 40⟩ [⟨0, 6, 12, 49⟩] (by rw [htab]; rfl) (fun z hz => (List.not_mem_nil hz).elim) (by decide) (by decide) (hts (.classLink RL 40 "java/lang/IllegalStateException") (List.mem_of_getElem? (i := 1) rfl)) (hz_ca hGP (by decide +kernel)) hce hcv hcl ?_
          refine lv_astore_n (lv' := [(3, .ref q9), (0, .ref (ah 0)), (1, zi sid), (2, zi which)]) hx hb dL_best_7 rfl hl (by decide) rfl (fun ls hl => ?_)
          refine hz_sipush hx hb dL_best_8 (by decide) ?_
          exact hz_up (Nat.le_of_ble_eq_true rfl) (Nat.le_of_ble_eq_true rfl) (W.iret (v := zI (-200)) hx hb hr (fun t ht hW => ⟨⟨zI (-200), u, rfl, congrArg zI (show (-200 : Int) = _ by rw [hq]; rfl), hz_at2 hP1 (hz_Dc hD (wH_fst (S2 := sB S u) rfl rfl rfl)) ht⟩, hS1.F ht⟩) hS1.2.2 dL_best_11)) (fun u H locs hu hP hD hS => ?_)
  have hth := hu
  have hP : va_P G vwCl (wH ah y (sB S u)) H := hP
  have hD : va_D A (wH ah y (sB S u)) := hD
  exact hz_up (Nat.le_of_ble_eq_true rfl) (Nat.le_of_ble_eq_true rfl) (W.iret (v := zI (if which = -1 then (bstZ sid (S.2.1 0) (S.2.2 2) (S.2.2 3) (S.2.2 4) (ryZ (S.2.1 0) (S.2.1 1) (S.2.1 2) (S.2.1 3) (S.2.2 0) (S.2.2 1) (S.2.2 6) (S.2.2 7) (S.2.2 8) (S.2.2 9) (S.2.2 10) (S.2.2 11)) (S.2.2 12)).2 else rwZ (cntZ sid (S.2.1 0)) (bstZ sid (S.2.1 0) (S.2.2 2) (S.2.2 3) (S.2.2 4) (ryZ (S.2.1 0) (S.2.1 1) (S.2.1 2) (S.2.1 3) (S.2.2 0) (S.2.2 1) (S.2.2 6) (S.2.2 7) (S.2.2 8) (S.2.2 9) (S.2.2 10) (S.2.2 11)) (S.2.2 12)).1 which)) hx hb hr (fun t ht hW => ⟨⟨zI (if which = -1 then (bstZ sid (S.2.1 0) (S.2.2 2) (S.2.2 3) (S.2.2 4) (ryZ (S.2.1 0) (S.2.1 1) (S.2.1 2) (S.2.1 3) (S.2.2 0) (S.2.2 1) (S.2.2 6) (S.2.2 7) (S.2.2 8) (S.2.2 9) (S.2.2 10) (S.2.2 11)) (S.2.2 12)).2 else rwZ (cntZ sid (S.2.1 0)) (bstZ sid (S.2.1 0) (S.2.2 2) (S.2.2 3) (S.2.2 4) (ryZ (S.2.1 0) (S.2.1 1) (S.2.1 2) (S.2.1 3) (S.2.2 0) (S.2.2 1) (S.2.2 6) (S.2.2 7) (S.2.2 8) (S.2.2 9) (S.2.2 10) (S.2.2 11)) (S.2.2 12)).1 which), u, rfl, congrArg zI (if_pos hth).symm, hz_at2 hP hD ht⟩, hS.F ht⟩) hS.2.2 dL_best_6)
theorem hz_sld2 {p : Program} {l : Launch} {e : Env} {R : Room} {s : State} {m : MethodId} {args : Array Value} {below : List Frame} {meth : Method} {c : Code} {H : Heap} {locs : List Loc} {cells slots : Nat} {Q : State → Prop} {cc : ByteArray} {pc : Nat} {ls : Array Slot} {rest : List Value} {A : Nat → Prop} (hx : p.tables.exec = Jvm.exec) (hb : c.code = cc) {b L : Nat} {xs : Nat → Int32} (hX : va_X b L xs s s.heap) (hbl : b < s.heap.size) (hbA : ¬ A b) (hS : va_S A s.heap H locs) {i : Int} (hi : 0 ≤ i ∧ i < L) (hL : L ≤ 2147483648) (hdg : decode cc pc = .ok (.iaload, 1))
    (kk : ∀ z : Int, (-2147483648 ≤ z ∧ z < 2147483648) → W p l e R s m args below meth c H locs cells slots Q (F0 m (pc + 1) ls (zi z :: rest))) : W p l e R s m args below meth c H locs cells slots Q (F0 m pc ls (zi i :: .ref b :: rest)) := by
  refine va_sld hx hb hX hbl hbA hS (zI_in hi hL) hdg ?_
  obtain ⟨z, hz, e⟩ := zI_of (xs (zI i).toNatClampNeg)
  rw [e]
  exact kk z hz
abbrev DPre (b L : Nat) (xs : Nat → Int32) : State → Prop := fun U => va_X b L xs U U.heap ∧ b < U.heap.size
abbrev QDr : Array Value → State → Outcome → State → Prop := va_Qi (fun (r : Int32) (z : Int) => r = zI z ∧ 0 ≤ z ∧ z < 2147483648) (fun _ _ => True) (fun _ => False)
set_option maxHeartbeats 4000000 in
theorem c_draw (l : Launch) (b L : Nat) (xs : Nat → Int32) (k : Int) (hk : 0 ≤ k ∧ k < L) (hL : L ≤ 260) : Met l yL_draw wsL_draw ({ frames := 0, cells := 0, slots := 0, locals := 0 }) (va_Pc [.ref b, zi k] (DPre b L xs)) QDr 0 0 (fun _ => False) := by
  refine Met.ofW (cc := cL_draw) (maxL := 2) (ret := some .int) (by decide) rfl ?_
  intro p e s m args below meth c s₁ B hml hv
  obtain ⟨rfl, hX0, hbl⟩ := hv
  have hts := atoms_spec (ws := wsL_draw) B.pre
  have hown : s.vm.findClass RL = some m.cls := findClass_of_methodNamed B.named
  have hx := B.exec
  have hb := B.bytes
  have hr := B.returns
  have hlocks := B.notSynchronized
  have hS : va_S (fun _ : Nat => False) s.heap s.heap [] := va_S.rf
  have hbA : ¬ (fun _ : Nat => False) b := fun h => h
  have hl := lv_entry ([.ref b, zi k] : List Value) (n := 2) (Nat.le_of_ble_eq_true rfl)
  rw [lg_entry_eq]
  generalize (lg_sl ([.ref b, zi k] : List Value) ++ List.replicate (2 - (lg_sl ([.ref b, zi k] : List Value)).length) Slot.unset).toArray = ls at hl ⊢
  have hl : lv_has ls 2 [(0, .ref b), (1, zi k)] := hl
  refine lv_iload_n hx hb dL_draw_0 rfl (lv_at hl 1 rfl) ?_
  refine lv_aload_n hx hb dL_draw_1 rfl (lv_at hl 0 rfl) ?_
  refine va_slen hx hb hX0 hbl hbA hS dL_draw_2 ?_
  rw [hz_ofN]
  refine hz_icmp_ge (tgt := 15) hx hb dL_draw_3 (by decide) (by omega) (fun q => by exfalso; omega) (fun _ => ?_)
  refine lv_aload_n hx hb dL_draw_6 rfl (lv_at hl 0 rfl) ?_
  refine lv_iload_n hx hb dL_draw_7 rfl (lv_at hl 1 rfl) ?_
  refine hz_sld2 hx hb hX0 hbl hbA hS (by omega) (by omega) dL_draw_8 (fun z hz => ?_)
  refine lv_ldc (v := zI 2147483647) hx hb hown (hts (.constant RL 7 (2147483647)) (List.mem_of_getElem? (i := 1) rfl)) dL_draw_9 ?_
  obtain ⟨w, hw, ew⟩ := iand_m z
  refine lv_iand hx hb dL_draw_11 ?_
  rw [ew]
  refine lv_goto (tgt := 24) hx hb dL_draw_12 (by decide) ?_
  exact W.iret (v := zI w) hx hb hr (fun t ht hW => ⟨⟨zI w, w, rfl, ⟨rfl, hw⟩, trivial⟩, hS.F ht⟩) hS.2.2 dL_draw_24
