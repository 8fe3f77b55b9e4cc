abbrev Q_X3_darken (G : va_G) (l0 : Nat) (l1 : Nat) (y : Nat → ClassId) (xM : Int) (xF : Int → Int)  (A : Nat → Prop) : Array Value → State → Outcome → State → Prop := va_Qv (fun (u : (Int → Int)) => (∀ q : Int, 0 ≤ q → q ≤ 5 → u q = 0)) (fun (u : (Int → Int)) t => va_P G vwCl (lW l0 l1 y 0 u) t.heap) A
set_option maxHeartbeats 4000000 in
set_option maxRecDepth 100000 in
theorem c_X3_darken (l : Launch) (G : va_G) (l0 : Nat) (l1 : Nat) (y : Nat → ClassId) (sz : Nat) (xM : Int) (xF : Int → Int)   : Met l yX3_darken wsX3_darken ({ frames := 0, cells := 0, slots := 0, locals := 0 }) (va_Pc [.ref l0] (HPre G (tyL y) (lW l0 l1 y xM xF) sz)) (Q_X3_darken G l0 l1 y xM xF (va_A (lW l0 l1 y xM xF) sz)) 0 0 (va_A (lW l0 l1 y xM xF) sz) := by
  refine hz_ofW (Qf := Q_X3_darken G l0 l1 y xM xF) (cc := cX3_darken) (maxL := 2) (ret := none) (by decide) rfl (Nat.le_of_ble_eq_true rfl) ?_
  intro p e s m below meth c A ls hx hb hr hts hown hin hlocks hml hP hK hA hD hS hl
  have hown : s.vm.findClass RX3 = some m.cls := hown
  have hl : lv_has ls 2 [(0, .ref l0)] := hl
  have hinwsX30 : ∀ w ∈ wsX30, w ∈ wsX3_darken := fun _ h => List.mem_cons_of_mem _ (List.mem_append_right _ (h))
  refine hz_iconst hx hb dX3_darken_0 ?_
  refine lv_istore_n (lv' := [(1, zi 0), (0, .ref l0)]) hx hb dX3_darken_1 rfl hl (by decide) rfl (fun ls hl => ?_)
  have L2 : ∀ (n : Nat) (k : Int) (f : Int → Int) (H : Heap) (locs : List Loc), (0 ≤ k ∧ k ≤ 6) → (∀ q : Int, 0 ≤ q → q < k → f q = 0) → ((6 - k).toNat) < n → va_P G vwCl (lW l0 l1 y xM f) H → va_D A (lW l0 l1 y xM f) → va_S A s.heap H locs → ∀ ls : Array Slot, lv_has ls 2 [(0, .ref l0), (1, zi k)] → W p l e (headSpec wsX3_darken ({ frames := 0, cells := 0, slots := 0, locals := 0 })).room s m ([.ref l0] : List Value).toArray below meth c H locs 0 0 (MQ below (Q_X3_darken G l0 l1 y xM xF A) ([.ref l0] : List Value).toArray s 0 0 A) (F0 m 2 ls []) := by
    intro n
    induction n with
    | zero => exact fun k f H locs h_k2 h_f2 hm => absurd hm (Nat.not_lt_zero _)
    | succ n ih2 =>
      intro k f H locs h_k2 h_f2 hm2 hP hD hS ls hl
      refine lv_iload_n hx hb dX3_darken_2 rfl (lv_at hl 1 rfl) ?_
      refine lv_aload_n hx hb dX3_darken_3 rfl (lv_at hl 0 rfl) ?_
      refine va_get (D := G) (ci := 4) (v := .ref l1) (C := RX3) (T := TX3) (N := 2) hx hb hts hinwsX30 hown hK hP 0 rfl rfl 0 (by decide) (hts (.fieldLink RX3 9 "Heliokeep$Light" "fluxes" "[I") (List.mem_of_getElem? (i := 1) rfl)) (fun _ h9 => h9) rfl dX3_darken_4 ?_
      refine va_alen (v := zI 6) hx hb hK hP 1 0 rfl rfl rfl dX3_darken_7 ?_
      refine hz_icmp_ge (tgt := 24) hx hb dX3_darken_8 (by decide) (by omega) (fun c1 => ?_) (fun c1 => ?_)
      · refine lv_aload_n hx hb dX3_darken_24 rfl (lv_at hl 0 rfl) ?_
        refine hz_iconst hx hb dX3_darken_25 ?_
        refine va_put (D := G) (ci := 4) (v := zi 0) (ty := .int) (C := RX3) (T := TX3) (N := 2) hx hb hts hinwsX30 tyX3 tyX3_ok nmX3 hown hK hP hD hS 0 rfl rfl 1 (by decide) (hts (.fieldLink RX3 15 "Heliokeep$Light" "missed" "I") (List.mem_of_getElem? (i := 2) rfl)) (fun _ h9 => h9) rfl (by decide +kernel) rfl rfl (Nat.le_of_ble_eq_true rfl) dX3_darken_26 (fun H locs hP hD hS => ?_)
        have hP : va_P G vwCl (lW l0 l1 y 0 f) H := hP
        have hD : va_D A (lW l0 l1 y 0 f) := hD
        exact W.vret hx hb hr (fun t ht hW => ⟨⟨(f), rfl, (show ∀ q : Int, 0 ≤ q → q ≤ 5 → f q = 0 from fun q a b => h_f2 q a (by omega)), hz_at hP ht⟩, hS.F ht⟩) hS.2.2 dX3_darken_29
      · refine lv_aload_n hx hb dX3_darken_11 rfl (lv_at hl 0 rfl) ?_
        refine va_get (D := G) (ci := 4) (v := .ref l1) (C := RX3) (T := TX3) (N := 2) hx hb hts hinwsX30 hown hK hP 0 rfl rfl 0 (by decide) (hts (.fieldLink RX3 9 "Heliokeep$Light" "fluxes" "[I") (List.mem_of_getElem? (i := 1) rfl)) (fun _ h9 => h9) rfl dX3_darken_12 ?_
        refine lv_iload_n hx hb dX3_darken_15 rfl (lv_at hl 1 rfl) ?_
        refine hz_iconst hx hb dX3_darken_16 ?_
        refine hz_iast (f := f) hx hb hK hP hD hS 1 0 rfl rfl (Nat.le_of_ble_eq_true rfl) (by omega) dX3_darken_17 (fun H locs hP hD hS => ?_)
        have hP : va_P G vwCl (lW l0 l1 y xM (upZ f k 0)) H := hP
        have hD : va_D A (lW l0 l1 y xM (upZ f k 0)) := hD
        refine hz_iinc (v := (k + 1)) (lv' := [(1, zi (k + 1)), (0, .ref l0)]) hx hb dX3_darken_18 hl (k := 1) rfl (by omega) (by decide) rfl (fun ls hl => ?_)
        refine lv_goto (tgt := 2) hx hb dX3_darken_21 (by decide) ?_
        exact ih2 (k + 1) (upZ f k 0) _ _ (by omega) (by
          intro q a b
          by_cases e : q = k
          · rw [upZ_s e]
          · rw [upZ_n e]; exact h_f2 q a (by omega)) (by omega) hP hD hS ls (lv_sub hl [1, 0] rfl)
  exact L2 _ 0 xF _ _ (by omega) (fun q a b => absurd b (by omega)) (Nat.lt_succ_self _) hP hD hS ls (lv_sub hl [1, 0] rfl)
abbrev Q_X3_reach (G : va_G) (l0 : Nat) (l1 : Nat) (y : Nat → ClassId) (xM : Int) (xF : Int → Int) (place : Int) (amount : Int) (A : Nat → Prop) : Array Value → State → Outcome → State → Prop := va_Qv (fun (u : (Int → Int) × Int) => (∀ q : Int, 0 ≤ q → q ≤ 5 → u.1 q = xF q + (if q = place then amount else 0)) ∧ (u.2 = xM + (if 0 ≤ place ∧ place ≤ 5 then 0 else amount))) (fun (u : (Int → Int) × Int) t => va_P G vwCl (lW l0 l1 y u.2 u.1) t.heap) A
set_option maxHeartbeats 4000000 in
set_option maxRecDepth 100000 in
theorem c_X3_reach (l : Launch) (G : va_G) (l0 : Nat) (l1 : Nat) (y : Nat → ClassId) (sz : Nat) (xM : Int) (xF : Int → Int) (place : Int) (amount : Int) (rplace : -2147483648 ≤ place ∧ place < 2147483648) : Met l yX3_reach wsX3_reach ({ frames := 0, cells := 0, slots := 0, locals := 0 }) (va_Pc [.ref l0, zi place, zi amount] (HPre G (tyL y) (lW l0 l1 y xM xF) sz)) (Q_X3_reach G l0 l1 y xM xF place amount (va_A (lW l0 l1 y xM xF) sz)) 0 0 (va_A (lW l0 l1 y xM xF) sz) := by
  refine hz_ofW (Qf := Q_X3_reach G l0 l1 y xM xF place amount) (cc := cX3_reach) (maxL := 3) (ret := none) (by decide) rfl (Nat.le_of_ble_eq_true rfl) ?_
  intro p e s m below meth c A ls hx hb hr hts hown hin hlocks hml hP hK hA hD hS hl
  have hown : s.vm.findClass RX3 = some m.cls := hown
  have hl : lv_has ls 3 [(0, .ref l0), (1, zi place), (2, zi amount)] := hl
  have hinwsX30 : ∀ w ∈ wsX30, w ∈ wsX3_reach := fun _ h => List.mem_cons_of_mem _ (List.mem_append_right _ (h))
  refine lv_iload_n hx hb dX3_reach_0 rfl (lv_at hl 1 rfl) ?_
  refine hz_if_lt (tgt := 26) hx hb dX3_reach_1 (by decide) (by omega) (fun c1 => ?_) (fun c1 => ?_)
  · refine lv_aload_n hx hb dX3_reach_26 rfl (lv_at hl 0 rfl) ?_
    refine lv_dup hx hb dX3_reach_27 rfl ?_
    refine va_get (D := G) (ci := 4) (v := zi xM) (C := RX3) (T := TX3) (N := 2) hx hb hts hinwsX30 hown hK hP 0 rfl rfl 1 (by decide) (hts (.fieldLink RX3 15 "Heliokeep$Light" "missed" "I") (List.mem_of_getElem? (i := 2) rfl)) (fun _ h9 => h9) rfl dX3_reach_28 ?_
    refine lv_iload_n hx hb dX3_reach_31 rfl (lv_at hl 2 rfl) ?_
    refine hz_iadd hx hb dX3_reach_32 ?_
    refine va_put (D := G) (ci := 4) (v := zi (xM + amount)) (ty := .int) (C := RX3) (T := TX3) (N := 2) hx hb hts hinwsX30 tyX3 tyX3_ok nmX3 hown hK hP hD hS 0 rfl rfl 1 (by decide) (hts (.fieldLink RX3 15 "Heliokeep$Light" "missed" "I") (List.mem_of_getElem? (i := 2) rfl)) (fun _ h9 => h9) rfl (by decide +kernel) rfl rfl (Nat.le_of_ble_eq_true rfl) dX3_reach_33 (fun H locs hP hD hS => ?_)
    have hP : va_P G vwCl (lW l0 l1 y (xM + amount) xF) H := hP
    have hD : va_D A (lW l0 l1 y (xM + amount) xF) := hD
    exact W.vret hx hb hr (fun t ht hW => ⟨⟨(xF, (xM + amount)), rfl, ⟨(show ∀ q : Int, 0 ≤ q → q ≤ 5 → xF q = xF q + (if q = place then amount else 0) from by
          intro q h0 h1
          by_cases e : q = place
          · first | (rw [upZ_s e, if_pos e, e]; done) | (exfalso; omega)
          · first | (rw [upZ_n e, if_neg e]; omega) | (rw [if_neg e]; omega)), (show (xM + amount) = xM + (if 0 ≤ place ∧ place ≤ 5 then 0 else amount) from by omega)⟩, hz_at hP ht⟩, hS.F ht⟩) hS.2.2 dX3_reach_36
  · refine lv_iload_n hx hb dX3_reach_4 rfl (lv_at hl 1 rfl) ?_
    refine lv_aload_n hx hb dX3_reach_5 rfl (lv_at hl 0 rfl) ?_
    refine va_get (D := G) (ci := 4) (v := .ref l1) (C := RX3) (T := TX3) (N := 2) hx hb hts hinwsX30 hown hK hP 0 rfl rfl 0 (by decide) (hts (.fieldLink RX3 9 "Heliokeep$Light" "fluxes" "[I") (List.mem_of_getElem? (i := 1) rfl)) (fun _ h9 => h9) rfl dX3_reach_6 ?_
    refine va_alen (v := zI 6) hx hb hK hP 1 0 rfl rfl rfl dX3_reach_9 ?_
    refine hz_icmp_ge (tgt := 26) hx hb dX3_reach_10 (by decide) (by omega) (fun c2 => ?_) (fun c2 => ?_)
    · refine lv_aload_n hx hb dX3_reach_26 rfl (lv_at hl 0 rfl) ?_
      refine lv_dup hx hb dX3_reach_27 rfl ?_
      refine va_get (D := G) (ci := 4) (v := zi xM) (C := RX3) (T := TX3) (N := 2) hx hb hts hinwsX30 hown hK hP 0 rfl rfl 1 (by decide) (hts (.fieldLink RX3 15 "Heliokeep$Light" "missed" "I") (List.mem_of_getElem? (i := 2) rfl)) (fun _ h9 => h9) rfl dX3_reach_28 ?_
      refine lv_iload_n hx hb dX3_reach_31 rfl (lv_at hl 2 rfl) ?_
      refine hz_iadd hx hb dX3_reach_32 ?_
      refine va_put (D := G) (ci := 4) (v := zi (xM + amount)) (ty := .int) (C := RX3) (T := TX3) (N := 2) hx hb hts hinwsX30 tyX3 tyX3_ok nmX3 hown hK hP hD hS 0 rfl rfl 1 (by decide) (hts (.fieldLink RX3 15 "Heliokeep$Light" "missed" "I") (List.mem_of_getElem? (i := 2) rfl)) (fun _ h9 => h9) rfl (by decide +kernel) rfl rfl (Nat.le_of_ble_eq_true rfl) dX3_reach_33 (fun H locs hP hD hS => ?_)
      have hP : va_P G vwCl (lW l0 l1 y (xM + amount) xF) H := hP
      have hD : va_D A (lW l0 l1 y (xM + amount) xF) := hD
      exact W.vret hx hb hr (fun t ht hW => ⟨⟨(xF, (xM + amount)), rfl, ⟨(show ∀ q : Int, 0 ≤ q → q ≤ 5 → xF q = xF q + (if q = place then amount else 0) from by
          intro q h0 h1
          by_cases e : q = place
          · first | (rw [upZ_s e, if_pos e, e]; done) | (exfalso; omega)
          · first | (rw [upZ_n e, if_neg e]; omega) | (rw [if_neg e]; omega)), (show (xM + amount) = xM + (if 0 ≤ place ∧ place ≤ 5 then 0 else amount) from by omega)⟩, hz_at hP ht⟩, hS.F ht⟩) hS.2.2 dX3_reach_36
    · refine lv_aload_n hx hb dX3_reach_13 rfl (lv_at hl 0 rfl) ?_
      refine va_get (D := G) (ci := 4) (v := .ref l1) (C := RX3) (T := TX3) (N := 2) hx hb hts hinwsX30 hown hK hP 0 rfl rfl 0 (by decide) (hts (.fieldLink RX3 9 "Heliokeep$Light" "fluxes" "[I") (List.mem_of_getElem? (i := 1) rfl)) (fun _ h9 => h9) rfl dX3_reach_14 ?_
      refine lv_iload_n hx hb dX3_reach_17 rfl (lv_at hl 1 rfl) ?_
      refine lv_dup2_11 hx hb dX3_reach_18 rfl rfl ?_
      refine hz_iald (f := xF) hx hb hK hP 1 0 rfl rfl (Nat.le_of_ble_eq_true rfl) (by omega) dX3_reach_19 ?_
      refine lv_iload_n hx hb dX3_reach_20 rfl (lv_at hl 2 rfl) ?_
      refine hz_iadd hx hb dX3_reach_21 ?_
      refine hz_iast (f := xF) hx hb hK hP hD hS 1 0 rfl rfl (Nat.le_of_ble_eq_true rfl) (by omega) dX3_reach_22 (fun H locs hP hD hS => ?_)
      have hP : va_P G vwCl (lW l0 l1 y xM (upZ xF place ((xF place) + amount))) H := hP
      have hD : va_D A (lW l0 l1 y xM (upZ xF place ((xF place) + amount))) := hD
      refine lv_goto (tgt := 36) hx hb dX3_reach_23 (by decide) ?_
      exact W.vret hx hb hr (fun t ht hW => ⟨⟨((upZ xF place ((xF place) + amount)), xM), rfl, ⟨(show ∀ q : Int, 0 ≤ q → q ≤ 5 → (upZ xF place ((xF place) + amount)) q = xF q + (if q = place then amount else 0) from by
          intro q h0 h1
          by_cases e : q = place
          · first | (rw [upZ_s e, if_pos e, e]; done) | (exfalso; omega)
          · first | (rw [upZ_n e, if_neg e]; omega) | (rw [if_neg e]; omega)), (show xM = xM + (if 0 ≤ place ∧ place ≤ 5 then 0 else amount) from by omega)⟩, hz_at hP ht⟩, hS.F ht⟩) hS.2.2 dX3_reach_36
abbrev Q_X3_shine (G : va_G) (l0 : Nat) (l1 : Nat) (y : Nat → ClassId) (xM : Int) (xF : Int → Int) (place : Int) (tenth : Int) (A : Nat → Prop) : Array Value → State → Outcome → State → Prop := va_Qv (fun (u : (Int → Int) × Int) => (∀ q : Int, 0 ≤ q → q ≤ 5 → u.1 q = xF q + raZ place tenth q) ∧ (u.2 = xM + rmZ place tenth)) (fun (u : (Int → Int) × Int) t => va_P G vwCl (lW l0 l1 y u.2 u.1) t.heap) A
set_option maxHeartbeats 4000000 in
set_option maxRecDepth 100000 in
theorem c_X3_shine (l : Launch) (G : va_G) (l0 : Nat) (l1 : Nat) (y : Nat → ClassId) (sz : Nat) (xM : Int) (xF : Int → Int) (place : Int) (tenth : Int) (rp : -1000 ≤ place ∧ place ≤ 1000) : Met l yX3_shine wsX3_shine ({ frames := 1, cells := 0, slots := 0, locals := 22 }) (va_Pc [.ref l0, zi place, zi tenth] (HPre G (tyL y) (lW l0 l1 y xM xF) sz)) (Q_X3_shine G l0 l1 y xM xF place tenth (va_A (lW l0 l1 y xM xF) sz)) 0 0 (va_A (lW l0 l1 y xM xF) sz) := by
  refine hz_ofW (Qf := Q_X3_shine G l0 l1 y xM xF place tenth) (cc := cX3_shine) (maxL := 3) (ret := none) (by decide) rfl (Nat.le_of_ble_eq_true rfl) ?_
  intro p e s m below meth c A ls hx hb hr hts hown hin hlocks hml hP hK hA hD hS hl
  have hown : s.vm.findClass RX3 = some m.cls := hown
  have hl : lv_has ls 3 [(0, .ref l0), (1, zi place), (2, zi tenth)] := hl
  refine lv_aload_n hx hb dX3_shine_0 rfl (lv_at hl 0 rfl) ?_
  refine lv_iload_n hx hb dX3_shine_1 rfl (lv_at hl 1 rfl) ?_
  refine hz_bipush hx hb dX3_shine_2 (by decide) ?_
  refine lv_iload_n hx hb dX3_shine_4 rfl (lv_at hl 2 rfl) ?_
  refine hz_imul hx hb dX3_shine_5 ?_
  refine hz_callWv (As := [zi place, zi (6 * tenth)]) (rest := []) ⟨hx, hb, hml, hown, hts⟩ (c_X3_reach l G l0 l1 y _ xM xF place (6 * tenth) (by omega)) (cwV 2 hts gX3_shine_X3_reach rfl rfl rfl (by decide +kernel) ⟨Nat.le_of_ble_eq_true rfl, Nat.le_of_ble_eq_true rfl⟩) hP hK hD hS hA 0 4 rfl rfl rfl rfl hl.1 rfl (Nat.le_of_ble_eq_true rfl) dX3_shine_6 ⟨Nat.zero_le _, Nat.zero_le _⟩ (fun _ => rfl) (fun u H locs hu hP hD hS => ?_)
  obtain ⟨f_1, m_2⟩ := u
  have p3 : ∀ q : Int, 0 ≤ q → q ≤ 5 → f_1 q = xF q + (if q = place then (6 * tenth) else 0) := hu.1
  have p4 : m_2 = xM + (if 0 ≤ place ∧ place ≤ 5 then 0 else (6 * tenth)) := hu.2
  have hP : va_P G vwCl (lW l0 l1 y m_2 f_1) H := hP
  have hD : va_D A (lW l0 l1 y m_2 f_1) := hD
  refine lv_aload_n hx hb dX3_shine_9 rfl (lv_at hl 0 rfl) ?_
  refine lv_iload_n hx hb dX3_shine_10 rfl (lv_at hl 1 rfl) ?_
  refine hz_iconst hx hb dX3_shine_11 ?_
  refine hz_isub hx hb dX3_shine_12 ?_
  refine hz_iconst hx hb dX3_shine_13 ?_
  refine lv_iload_n hx hb dX3_shine_14 rfl (lv_at hl 2 rfl) ?_
  refine hz_imul hx hb dX3_shine_15 ?_
  refine hz_callWv (As := [zi (place - 1), zi (2 * tenth)]) (rest := []) ⟨hx, hb, hml, hown, hts⟩ (c_X3_reach l G l0 l1 y _ m_2 f_1 (place - 1) (2 * tenth) (by omega)) (cwV 2 hts gX3_shine_X3_reach rfl rfl rfl (by decide +kernel) ⟨Nat.le_of_ble_eq_true rfl, Nat.le_of_ble_eq_true rfl⟩) hP hK hD hS hA 0 4 rfl rfl rfl rfl hl.1 rfl (Nat.le_of_ble_eq_true rfl) dX3_shine_16 ⟨Nat.zero_le _, Nat.zero_le _⟩ (fun _ => rfl) (fun u H locs hu hP hD hS => ?_)
  obtain ⟨f_5, m_6⟩ := u
  have p7 : ∀ q : Int, 0 ≤ q → q ≤ 5 → f_5 q = f_1 q + (if q = (place - 1) then (2 * tenth) else 0) := hu.1
  have p8 : m_6 = m_2 + (if 0 ≤ (place - 1) ∧ (place - 1) ≤ 5 then 0 else (2 * tenth)) := hu.2
  have hP : va_P G vwCl (lW l0 l1 y m_6 f_5) H := hP
  have hD : va_D A (lW l0 l1 y m_6 f_5) := hD
  refine lv_aload_n hx hb dX3_shine_19 rfl (lv_at hl 0 rfl) ?_
  refine lv_iload_n hx hb dX3_shine_20 rfl (lv_at hl 1 rfl) ?_
  refine hz_iconst hx hb dX3_shine_21 ?_
  refine hz_iadd hx hb dX3_shine_22 ?_
  refine hz_iconst hx hb dX3_shine_23 ?_
  refine lv_iload_n hx hb dX3_shine_24 rfl (lv_at hl 2 rfl) ?_
  refine hz_imul hx hb dX3_shine_25 ?_
  refine hz_callWv (As := [zi (place + 1), zi (2 * tenth)]) (rest := []) ⟨hx, hb, hml, hown, hts⟩ (c_X3_reach l G l0 l1 y _ m_6 f_5 (place + 1) (2 * tenth) (by omega)) (cwV 2 hts gX3_shine_X3_reach rfl rfl rfl (by decide +kernel) ⟨Nat.le_of_ble_eq_true rfl, Nat.le_of_ble_eq_true rfl⟩) hP hK hD hS hA 0 4 rfl rfl rfl rfl hl.1 rfl (Nat.le_of_ble_eq_true rfl) dX3_shine_26 ⟨Nat.zero_le _, Nat.zero_le _⟩ (fun _ => rfl) (fun u H locs hu hP hD hS => ?_)
  obtain ⟨f_9, m_10⟩ := u
  have p11 : ∀ q : Int, 0 ≤ q → q ≤ 5 → f_9 q = f_5 q + (if q = (place + 1) then (2 * tenth) else 0) := hu.1
  have p12 : m_10 = m_6 + (if 0 ≤ (place + 1) ∧ (place + 1) ≤ 5 then 0 else (2 * tenth)) := hu.2
  have hP : va_P G vwCl (lW l0 l1 y m_10 f_9) H := hP
  have hD : va_D A (lW l0 l1 y m_10 f_9) := hD
  exact W.vret hx hb hr (fun t ht hW => ⟨⟨(f_9, m_10), rfl, ⟨(show ∀ q : Int, 0 ≤ q → q ≤ 5 → f_9 q = xF q + raZ place tenth q from by
          intro q h0 h1
          rw [p11 q h0 h1, p7 q h0 h1, p3 q h0 h1]
          unfold raZ
          omega), (show m_10 = xM + rmZ place tenth from by
          rw [p12, p8, p4]
          unfold rmZ
          omega)⟩, hz_at hP ht⟩, hS.F ht⟩) hS.2.2 dX3_shine_29
set_option maxHeartbeats 4000000 in
set_option maxRecDepth 100000 in
theorem c_X3_onPanels (l : Launch) (G : va_G) (l0 : Nat) (l1 : Nat) (y : Nat → ClassId) (xM : Int) (xF : Int → Int)   : Met l yX3_onPanels wsX3_onPanels ({ frames := 0, cells := 0, slots := 0, locals := 0 }) (va_Pc [.ref l0] (HPr G (tyL y) (lW l0 l1 y xM xF))) (vp_Si (fun r => r = zI (alZ xF))) 0 0 (fun _ => False) := by
  refine hz_ofR (cc := cX3_onPanels) (maxL := 3) (ret := (some .int)) (by decide) rfl (Nat.le_of_ble_eq_true rfl) ?_
  intro p e s m below meth c ls hx hb hr hts hown hlocks hml hP hK hl
  have hown : s.vm.findClass RX3 = some m.cls := hown
  have hl : lv_has ls 3 [(0, .ref l0)] := hl
  have hinwsX30 : ∀ w ∈ wsX30, w ∈ wsX3_onPanels := fun _ h => List.mem_cons_of_mem _ (List.mem_append_right _ (h))
  refine hz_iconst hx hb dX3_onPanels_0 ?_
  refine lv_istore_n (lv' := [(1, zi 0), (0, .ref l0)]) hx hb dX3_onPanels_1 rfl hl (by decide) rfl (fun ls hl => ?_)
  refine hz_iconst hx hb dX3_onPanels_2 ?_
  refine lv_istore_n (lv' := [(2, zi 0), (1, zi 0), (0, .ref l0)]) hx hb dX3_onPanels_3 rfl hl (by decide) rfl (fun ls hl => ?_)
  have L4 : ∀ (n : Nat) (su : Int) (k : Int), (0 ≤ k ∧ k ≤ 6) → (su = smZ xF k.toNat) → ((6 - k).toNat) < n → ∀ ls : Array Slot, lv_has ls 3 [(0, .ref l0), (1, zi su), (2, zi k)] → W p l e (headSpec wsX3_onPanels ({ frames := 0, cells := 0, slots := 0, locals := 0 })).room s m ([.ref l0] : List Value).toArray below meth c s.heap [] 0 0 (MQ below (vp_Si (fun r => r = zI (alZ xF))) ([.ref l0] : List Value).toArray s 0 0 (fun _ => False)) (F0 m 4 ls []) := by
    intro n
    induction n with
    | zero => exact fun su k h_k4 h_c4 hm => absurd hm (Nat.not_lt_zero _)
    | succ n ih4 =>
      intro su k h_k4 h_c4 hm4 ls hl
      refine lv_iload_n hx hb dX3_onPanels_4 rfl (lv_at hl 2 rfl) ?_
      refine lv_aload_n hx hb dX3_onPanels_5 rfl (lv_at hl 0 rfl) ?_
      refine va_get (D := G) (ci := 4) (v := .ref l1) (C := RX3) (T := TX3) (N := 2) hx hb hts hinwsX30 hown hK hP 0 rfl rfl 0 (by decide) (hts (.fieldLink RX3 9 "Heliokeep$Light" "fluxes" "[I") (List.mem_of_getElem? (i := 1) rfl)) (fun _ h9 => h9) rfl dX3_onPanels_6 ?_
      refine va_alen (v := zI 6) hx hb hK hP 1 0 rfl rfl rfl dX3_onPanels_9 ?_
      refine hz_icmp_ge (tgt := 28) hx hb dX3_onPanels_10 (by decide) (by omega) (fun c1 => ?_) (fun c1 => ?_)
      · refine lv_iload_n hx hb dX3_onPanels_28 rfl (lv_at hl 1 rfl) ?_
        exact W.iret (v := zI su) hx hb hr (fun t ht hW => ⟨zI su, rfl, congrArg zI (by
          have e : k = 6 := by omega
          rw [h_c4, e]
          rfl), ht⟩) (fun q hq => absurd hq List.not_mem_nil) dX3_onPanels_29
      · refine lv_iload_n hx hb dX3_onPanels_13 rfl (lv_at hl 1 rfl) ?_
        refine lv_aload_n hx hb dX3_onPanels_14 rfl (lv_at hl 0 rfl) ?_
        refine va_get (D := G) (ci := 4) (v := .ref l1) (C := RX3) (T := TX3) (N := 2) hx hb hts hinwsX30 hown hK hP 0 rfl rfl 0 (by decide) (hts (.fieldLink RX3 9 "Heliokeep$Light" "fluxes" "[I") (List.mem_of_getElem? (i := 1) rfl)) (fun _ h9 => h9) rfl dX3_onPanels_15 ?_
        refine lv_iload_n hx hb dX3_onPanels_18 rfl (lv_at hl 2 rfl) ?_
        refine hz_iald (f := xF) hx hb hK hP 1 0 rfl rfl (Nat.le_of_ble_eq_true rfl) (by omega) dX3_onPanels_19 ?_
        refine hz_iadd hx hb dX3_onPanels_20 ?_
        refine lv_istore_n (lv' := [(1, zi (su + (xF k))), (0, .ref l0), (2, zi k)]) hx hb dX3_onPanels_21 rfl hl (by decide) rfl (fun ls hl => ?_)
        refine hz_iinc (v := (k + 1)) (lv' := [(2, zi (k + 1)), (1, zi (su + (xF k))), (0, .ref l0)]) hx hb dX3_onPanels_22 hl (k := 2) rfl (by omega) (by decide) rfl (fun ls hl => ?_)
        refine lv_goto (tgt := 4) hx hb dX3_onPanels_25 (by decide) ?_
        exact ih4 (su + (xF k)) (k + 1) (by omega) (by rw [smZ_s (by omega), h_c4]) (by omega) ls (lv_sub hl [2, 1, 0] rfl)
  exact L4 _ 0 0 (by omega) (rfl) (Nat.lt_succ_self _) ls (lv_sub hl [2, 1, 0] rfl)
set_option maxHeartbeats 4000000 in
set_option maxRecDepth 100000 in
theorem c_X3_isAbove (l : Launch) (G : va_G) (l0 : Nat) (l1 : Nat) (b0 : Nat) (y : Nat → ClassId) (xM : Int) (xF xB : Int → Int)  (hF : ∀ q : Int, 0 ≤ q → q ≤ 5 → -2147483648 ≤ xF q ∧ xF q < 2147483648) (hB : ∀ k : Int, 0 ≤ xB k ∧ xB k ≤ 9999) : Met l yX3_isAbove wsX3_isAbove ({ frames := 0, cells := 0, slots := 0, locals := 0 }) (va_Pc [.ref l0, .ref b0] (HPr G (tyL y) (lbW l0 l1 b0 y xM xF xB))) (vp_Si (fun r => r = zI (trN xF xB 6))) 0 0 (fun _ => False) := by
  refine hz_ofR (cc := cX3_isAbove) (maxL := 3) (ret := (some .boolean)) (by decide) rfl (Nat.le_of_ble_eq_true rfl) ?_
  intro p e s m below meth c ls hx hb hr hts hown hlocks hml hP hK hl
  have hown : s.vm.findClass RX3 = some m.cls := hown
  have hl : lv_has ls 3 [(0, .ref l0), (1, .ref b0)] := hl
  have hinwsX30 : ∀ w ∈ wsX30, w ∈ wsX3_isAbove := fun _ h => List.mem_cons_of_mem _ (List.mem_append_right _ (h))
  refine hz_iconst hx hb dX3_isAbove_0 ?_
  refine lv_istore_n (lv' := [(2, zi 0), (0, .ref l0), (1, .ref b0)]) hx hb dX3_isAbove_1 rfl hl (by decide) rfl (fun ls hl => ?_)
  have L2 : ∀ (n : Nat) (k : Int), (0 ≤ k ∧ k ≤ 6) → (trN xF xB k = 0) → ((6 - k).toNat) < n → ∀ ls : Array Slot, lv_has ls 3 [(0, .ref l0), (1, .ref b0), (2, zi k)] → W p l e (headSpec wsX3_isAbove ({ frames := 0, cells := 0, slots := 0, locals := 0 })).room s m ([.ref l0, .ref b0] : List Value).toArray below meth c s.heap [] 0 0 (MQ below (vp_Si (fun r => r = zI (trN xF xB 6))) ([.ref l0, .ref b0] : List Value).toArray s 0 0 (fun _ => False)) (F0 m 2 ls []) := by
    intro n
    induction n with
    | zero => exact fun k h_k2 h_c2 hm => absurd hm (Nat.not_lt_zero _)
    | succ n ih2 =>
      intro k h_k2 h_c2 hm2 ls hl
      refine lv_iload_n hx hb dX3_isAbove_2 rfl (lv_at hl 2 rfl) ?_
      refine lv_aload_n hx hb dX3_isAbove_3 rfl (lv_at hl 0 rfl) ?_
      refine va_get (D := G) (ci := 4) (v := .ref l1) (C := RX3) (T := TX3) (N := 2) hx hb hts hinwsX30 hown hK hP 0 rfl rfl 0 (by decide) (hts (.fieldLink RX3 9 "Heliokeep$Light" "fluxes" "[I") (List.mem_of_getElem? (i := 1) rfl)) (fun _ h9 => h9) rfl dX3_isAbove_4 ?_
      refine va_alen (v := zI 6) hx hb hK hP 1 0 rfl rfl rfl dX3_isAbove_7 ?_
      refine hz_icmp_ge (tgt := 37) hx hb dX3_isAbove_8 (by decide) (by omega) (fun c1 => ?_) (fun c1 => ?_)
      · refine hz_iconst hx hb dX3_isAbove_37 ?_
        exact W.zret (ty := .boolean) (v := zI 0) hx hb hr (zI_nb (by omega)) (fun t ht hW => ⟨zI 0, rfl, congrArg zI (by first | (rw [show k = 6 from by omega] at h_c2; exact h_c2.symm) | exact (isZ_1 ⟨k, by omega, by omega, by omega⟩).symm), ht⟩) (fun q hq => absurd hq List.not_mem_nil) dX3_isAbove_38
      · refine lv_iload_n hx hb dX3_isAbove_11 rfl (lv_at hl 2 rfl) ?_
        refine lv_aload_n hx hb dX3_isAbove_12 rfl (lv_at hl 1 rfl) ?_
        refine va_alen (v := zI 6) hx hb hK hP 2 0 rfl rfl rfl dX3_isAbove_13 ?_
        refine hz_icmp_ge (tgt := 37) hx hb dX3_isAbove_14 (by decide) (by omega) (fun c2 => ?_) (fun c2 => ?_)
        · refine hz_iconst hx hb dX3_isAbove_37 ?_
          exact W.zret (ty := .boolean) (v := zI 0) hx hb hr (zI_nb (by omega)) (fun t ht hW => ⟨zI 0, rfl, congrArg zI (by first | (rw [show k = 6 from by omega] at h_c2; exact h_c2.symm) | exact (isZ_1 ⟨k, by omega, by omega, by omega⟩).symm), ht⟩) (fun q hq => absurd hq List.not_mem_nil) dX3_isAbove_38
        · have qf := hF k (by omega) (by omega)
          have qb := hB k
          refine lv_aload_n hx hb dX3_isAbove_17 rfl (lv_at hl 0 rfl) ?_
          refine va_get (D := G) (ci := 4) (v := .ref l1) (C := RX3) (T := TX3) (N := 2) hx hb hts hinwsX30 hown hK hP 0 rfl rfl 0 (by decide) (hts (.fieldLink RX3 9 "Heliokeep$Light" "fluxes" "[I") (List.mem_of_getElem? (i := 1) rfl)) (fun _ h9 => h9) rfl dX3_isAbove_18 ?_
          refine lv_iload_n hx hb dX3_isAbove_21 rfl (lv_at hl 2 rfl) ?_
          refine hz_iald (f := xF) hx hb hK hP 1 0 rfl rfl (Nat.le_of_ble_eq_true rfl) (by omega) dX3_isAbove_22 ?_
          refine lv_aload_n hx hb dX3_isAbove_23 rfl (lv_at hl 1 rfl) ?_
          refine lv_iload_n hx hb dX3_isAbove_24 rfl (lv_at hl 2 rfl) ?_
          refine hz_iald (f := xB) hx hb hK hP 2 0 rfl rfl (Nat.le_of_ble_eq_true rfl) (by omega) dX3_isAbove_25 ?_
          refine hz_icmp_le (tgt := 31) hx hb dX3_isAbove_26 (by decide) (by omega) (fun c3 => ?_) (fun c3 => ?_)
          · refine hz_iinc (v := (k + 1)) (lv' := [(2, zi (k + 1)), (0, .ref l0), (1, .ref b0)]) hx hb dX3_isAbove_31 hl (k := 2) rfl (by omega) (by decide) rfl (fun ls hl => ?_)
            refine lv_goto (tgt := 2) hx hb dX3_isAbove_34 (by decide) ?_
            exact ih2 (k + 1) (by omega) (trN_n h_c2 (by omega)) (by omega) ls (lv_sub hl [1, 2, 0] rfl)
          · refine hz_iconst hx hb dX3_isAbove_29 ?_
            exact W.zret (ty := .boolean) (v := zI 1) hx hb hr (zI_nb (by omega)) (fun t ht hW => ⟨zI 1, rfl, congrArg zI (by first | (rw [show k = 6 from by omega] at h_c2; exact h_c2.symm) | exact (isZ_1 ⟨k, by omega, by omega, by omega⟩).symm), ht⟩) (fun q hq => absurd hq List.not_mem_nil) dX3_isAbove_30
  exact L2 _ 0 (by omega) (trN_0) (Nat.lt_succ_self _) ls (lv_sub hl [1, 2, 0] rfl)
set_option maxHeartbeats 4000000 in
set_option maxRecDepth 100000 in
theorem c_X4_distance (l : Launch) (G : va_G) (m0 : Nat) (y : Nat → ClassId) (xC xR xK xD xA xE xO xB : Int)  (h : (0 ≤ xR ∧ xR ≤ 7) ∧ 0 ≤ xK ∧ xK ≤ 7) : Met l yX4_distance wsX4_distance ({ frames := 1, cells := 0, slots := 0, locals := 21 }) (va_Pc [.ref m0] (HPr G (tyL y) (miW m0 y xC xR xK xD xA xE xO xB))) (vp_Si (fun r => r = zI (xR + 1 + (if xK - 3 < 0 then -(xK - 3) else xK - 3)))) 0 0 (fun _ => False) := by
  refine hz_ofR (cc := cX4_distance) (maxL := 1) (ret := (some .int)) (by decide) rfl (Nat.le_of_ble_eq_true rfl) ?_
  intro p e s m below meth c ls hx hb hr hts hown hlocks hml hP hK hl
  have hown : s.vm.findClass RX4 = some m.cls := hown
  have hl : lv_has ls 1 [(0, .ref m0)] := hl
  have hinwsX40 : ∀ w ∈ wsX40, w ∈ wsX4_distance := fun _ h => List.mem_cons_of_mem _ (List.mem_append_right _ (h))
  refine lv_aload_n hx hb dX4_distance_0 rfl (lv_at hl 0 rfl) ?_
  refine va_get (D := G) (ci := 5) (v := zi xR) (C := RX4) (T := TX4) (N := 8) hx hb hts hinwsX40 hown hK hP 0 rfl rfl 1 (by decide) (hts (.fieldLink RX4 18 "Heliokeep$Mirror" "row" "I") (List.mem_of_getElem? (i := 1) rfl)) (fun _ h9 => h9) rfl dX4_distance_1 ?_
  refine hz_iconst hx hb dX4_distance_4 ?_
  refine hz_iadd hx hb dX4_distance_5 ?_
  refine lv_aload_n hx hb dX4_distance_6 rfl (lv_at hl 0 rfl) ?_
  refine va_get (D := G) (ci := 5) (v := zi xK) (C := RX4) (T := TX4) (N := 8) hx hb hts hinwsX40 hown hK hP 0 rfl rfl 2 (by decide) (hts (.fieldLink RX4 21 "Heliokeep$Mirror" "column" "I") (List.mem_of_getElem? (i := 2) rfl)) (fun _ h9 => h9) rfl dX4_distance_7 ?_
  refine hz_iconst hx hb dX4_distance_10 ?_
  refine hz_isub hx hb dX4_distance_11 ?_
  refine hz_mabs hx hb (hml.trans hl.1.symm) hown (hts (.methodLink RX4 24 Lib.Math.abs.name) (List.mem_of_getElem? (i := 3) rfl)) (hts (.static Lib.Math.abs.name) (List.mem_of_getElem? (i := 4) rfl)) (hts (.initialized "java/lang/Math") (List.mem_of_getElem? (i := 5) rfl)) (hts (.code Lib.Math.abs.name Lib.Math.abs.code 1 (some .int)) (List.mem_of_getElem? (i := 6) rfl)) (Nat.le_of_ble_eq_true rfl) (Nat.le_of_ble_eq_true rfl) (Nat.le_of_ble_eq_true rfl) (Nat.le_of_ble_eq_true rfl) (by omega) dX4_distance_12 ?_
  refine hz_topi (fun z1 e2 => ?_)
  refine hz_iadd hx hb dX4_distance_15 ?_
  exact W.iret (v := zI ((xR + 1) + z1)) hx hb hr (fun t ht hW => ⟨zI ((xR + 1) + z1), rfl, congrArg zI (by omega), ht⟩) (fun q hq => absurd hq List.not_mem_nil) dX4_distance_16
set_option maxHeartbeats 4000000 in
set_option maxRecDepth 100000 in
theorem c_X4_awry (l : Launch) (G : va_G) (m0 : Nat) (y : Nat → ClassId) (xC xR xK xD xA xE xO xB : Int)   : Met l yX4_awry wsX4_awry ({ frames := 0, cells := 0, slots := 0, locals := 0 }) (va_Pc [.ref m0] (HPr G (tyL y) (miW m0 y xC xR xK xD xA xE xO xB))) (vp_Si (fun r => r = zI (xE - xO))) 0 0 (fun _ => False) := by
  refine hz_ofR (cc := cX4_awry) (maxL := 1) (ret := (some .int)) (by decide) rfl (Nat.le_of_ble_eq_true rfl) ?_
  intro p e s m below meth c ls hx hb hr hts hown hlocks hml hP hK hl
  have hown : s.vm.findClass RX4 = some m.cls := hown
  have hl : lv_has ls 1 [(0, .ref m0)] := hl
  have hinwsX40 : ∀ w ∈ wsX40, w ∈ wsX4_awry := fun _ h => List.mem_cons_of_mem _ (List.mem_append_right _ (h))
  refine lv_aload_n hx hb dX4_awry_0 rfl (lv_at hl 0 rfl) ?_
  refine va_get (D := G) (ci := 5) (v := zi xE) (C := RX4) (T := TX4) (N := 8) hx hb hts hinwsX40 hown hK hP 0 rfl rfl 5 (by decide) (hts (.fieldLink RX4 30 "Heliokeep$Mirror" "error" "I") (List.mem_of_getElem? (i := 1) rfl)) (fun _ h9 => h9) rfl dX4_awry_1 ?_
  refine lv_aload_n hx hb dX4_awry_4 rfl (lv_at hl 0 rfl) ?_
  refine va_get (D := G) (ci := 5) (v := zi xO) (C := RX4) (T := TX4) (N := 8) hx hb hts hinwsX40 hown hK hP 0 rfl rfl 6 (by decide) (hts (.fieldLink RX4 33 "Heliokeep$Mirror" "correction" "I") (List.mem_of_getElem? (i := 2) rfl)) (fun _ h9 => h9) rfl dX4_awry_5 ?_
  refine hz_isub hx hb dX4_awry_8 ?_
  exact W.iret (v := zI (xE - xO)) hx hb hr (fun t ht hW => ⟨zI (xE - xO), rfl, congrArg zI (rfl), ht⟩) (fun q hq => absurd hq List.not_mem_nil) dX4_awry_9
set_option maxHeartbeats 4000000 in
set_option maxRecDepth 100000 in
theorem c_X4_place (l : Launch) (G : va_G) (m0 : Nat) (y : Nat → ClassId) (xC xR xK xD xA xE xO xB : Int)   : Met l yX4_place wsX4_place ({ frames := 1, cells := 0, slots := 0, locals := 20 }) (va_Pc [.ref m0] (HPr G (tyL y) (miW m0 y xC xR xK xD xA xE xO xB))) (vp_Si (fun r => r = zI (xA + (xE - xO)))) 0 0 (fun _ => False) := by
  refine hz_ofR (cc := cX4_place) (maxL := 1) (ret := (some .int)) (by decide) rfl (Nat.le_of_ble_eq_true rfl) ?_
  intro p e s m below meth c ls hx hb hr hts hown hlocks hml hP hK hl
  have hown : s.vm.findClass RX4 = some m.cls := hown
  have hl : lv_has ls 1 [(0, .ref m0)] := hl
  have hinwsX40 : ∀ w ∈ wsX40, w ∈ wsX4_place := fun _ h => List.mem_cons_of_mem _ (List.mem_append_right _ (h))
  refine lv_aload_n hx hb dX4_place_0 rfl (lv_at hl 0 rfl) ?_
  refine va_get (D := G) (ci := 5) (v := zi xA) (C := RX4) (T := TX4) (N := 8) hx hb hts hinwsX40 hown hK hP 0 rfl rfl 4 (by decide) (hts (.fieldLink RX4 9 "Heliokeep$Mirror" "aim" "I") (List.mem_of_getElem? (i := 1) rfl)) (fun _ h9 => h9) rfl dX4_place_1 ?_
  refine lv_aload_n hx hb dX4_place_4 rfl (lv_at hl 0 rfl) ?_
  refine hz_callRi (As := []) (rest := [zi xA]) ⟨hx, hb, hml, hown, hts⟩ (c_X4_awry l G m0 y xC xR xK xD xA xE xO xB  ) (cwV 0 hts gX4_place_X4_awry rfl rfl rfl (by decide +kernel) ⟨Nat.le_of_ble_eq_true rfl, Nat.le_of_ble_eq_true rfl⟩) hP hK 0 5 rfl rfl rfl rfl hl.1 rfl (Nat.le_of_ble_eq_true rfl) dX4_place_5 ⟨Nat.zero_le _, Nat.zero_le _⟩ ?_
  refine hz_iadd hx hb dX4_place_8 ?_
  exact W.iret (v := zI (xA + (xE - xO))) hx hb hr (fun t ht hW => ⟨zI (xA + (xE - xO)), rfl, congrArg zI (rfl), ht⟩) (fun q hq => absurd hq List.not_mem_nil) dX4_place_9
set_option maxHeartbeats 4000000 in
set_option maxRecDepth 100000 in
theorem c_X4_placeOf (l : Launch) (G : va_G) (m0 : Nat) (y : Nat → ClassId) (xC xR xK xD xA xE xO xB : Int) (ray : Int) (rray : -2147483648 ≤ ray ∧ ray < 2147483648) : Met l yX4_placeOf wsX4_placeOf ({ frames := 2, cells := 0, slots := 0, locals := 40 }) (va_Pc [.ref m0, zi ray] (HPr G (tyL y) (miW m0 y xC xR xK xD xA xE xO xB))) (vp_Si (fun r => r = zI ((if ray < 6 then xA + (xE - xO) else if ray < 8 then xA + (xE - xO) - 1 else xA + (xE - xO) + 1)))) 0 0 (fun _ => False) := by
  refine hz_ofR (cc := cX4_placeOf) (maxL := 2) (ret := (some .int)) (by decide) rfl (Nat.le_of_ble_eq_true rfl) ?_
  intro p e s m below meth c ls hx hb hr hts hown hlocks hml hP hK hl
  have hown : s.vm.findClass RX4 = some m.cls := hown
  have hl : lv_has ls 2 [(0, .ref m0), (1, zi ray)] := hl
  have hinwsX40 : ∀ w ∈ wsX40, w ∈ wsX4_placeOf := fun _ h => List.mem_cons_of_mem _ (List.mem_append_right _ (h))
  refine lv_iload_n hx hb dX4_placeOf_0 rfl (lv_at hl 1 rfl) ?_
  refine hz_bipush hx hb dX4_placeOf_1 (by decide) ?_
  refine hz_icmp_ge (tgt := 11) hx hb dX4_placeOf_3 (by decide) (by omega) (fun c1 => ?_) (fun c1 => ?_)
  · refine lv_iload_n hx hb dX4_placeOf_11 rfl (lv_at hl 1 rfl) ?_
    refine hz_bipush hx hb dX4_placeOf_12 (by decide) ?_
    refine hz_icmp_ge (tgt := 26) hx hb dX4_placeOf_14 (by decide) (by omega) (fun c2 => ?_) (fun c2 => ?_)
    · refine lv_aload_n hx hb dX4_placeOf_26 rfl (lv_at hl 0 rfl) ?_
      refine hz_callRi (As := []) (rest := []) ⟨hx, hb, hml, hown, hts⟩ (c_X4_place l G m0 y xC xR xK xD xA xE xO xB  ) (cwV 0 hts gX4_placeOf_X4_place rfl rfl rfl (by decide +kernel) ⟨Nat.le_of_ble_eq_true rfl, Nat.le_of_ble_eq_true rfl⟩) hP hK 0 5 rfl rfl rfl rfl hl.1 rfl (Nat.le_of_ble_eq_true rfl) dX4_placeOf_27 ⟨Nat.zero_le _, Nat.zero_le _⟩ ?_
      refine hz_iconst hx hb dX4_placeOf_30 ?_
      refine hz_iadd hx hb dX4_placeOf_31 ?_
      exact W.iret (v := zI ((xA + (xE - xO)) + 1)) hx hb hr (fun t ht hW => ⟨zI ((xA + (xE - xO)) + 1), rfl, congrArg zI (by omega), ht⟩) (fun q hq => absurd hq List.not_mem_nil) dX4_placeOf_32
    · refine lv_aload_n hx hb dX4_placeOf_17 rfl (lv_at hl 0 rfl) ?_
      refine hz_callRi (As := []) (rest := []) ⟨hx, hb, hml, hown, hts⟩ (c_X4_place l G m0 y xC xR xK xD xA xE xO xB  ) (cwV 0 hts gX4_placeOf_X4_place rfl rfl rfl (by decide +kernel) ⟨Nat.le_of_ble_eq_true rfl, Nat.le_of_ble_eq_true rfl⟩) hP hK 0 5 rfl rfl rfl rfl hl.1 rfl (Nat.le_of_ble_eq_true rfl) dX4_placeOf_18 ⟨Nat.zero_le _, Nat.zero_le _⟩ ?_
      refine hz_iconst hx hb dX4_placeOf_21 ?_
      refine hz_isub hx hb dX4_placeOf_22 ?_
      refine lv_goto (tgt := 32) hx hb dX4_placeOf_23 (by decide) ?_
      exact W.iret (v := zI ((xA + (xE - xO)) - 1)) hx hb hr (fun t ht hW => ⟨zI ((xA + (xE - xO)) - 1), rfl, congrArg zI (by omega), ht⟩) (fun q hq => absurd hq List.not_mem_nil) dX4_placeOf_32
  · refine lv_aload_n hx hb dX4_placeOf_6 rfl (lv_at hl 0 rfl) ?_
    refine hz_callRi (As := []) (rest := []) ⟨hx, hb, hml, hown, hts⟩ (c_X4_place l G m0 y xC xR xK xD xA xE xO xB  ) (cwV 0 hts gX4_placeOf_X4_place rfl rfl rfl (by decide +kernel) ⟨Nat.le_of_ble_eq_true rfl, Nat.le_of_ble_eq_true rfl⟩) hP hK 0 5 rfl rfl rfl rfl hl.1 rfl (Nat.le_of_ble_eq_true rfl) dX4_placeOf_7 ⟨Nat.zero_le _, Nat.zero_le _⟩ ?_
    exact W.iret (v := zI (xA + (xE - xO))) hx hb hr (fun t ht hW => ⟨zI (xA + (xE - xO)), rfl, congrArg zI (by omega), ht⟩) (fun q hq => absurd hq List.not_mem_nil) dX4_placeOf_10
set_option maxHeartbeats 4000000 in
set_option maxRecDepth 100000 in
theorem c_X1_isOver (l : Launch) (G : va_G) (c0 : Nat) (m0 : Nat) (y : Nat → ClassId) (xT xL xRs xCs xDn xG xC xR xK xD xA xE xO xB : Int) (ticks : Int) (h1 : (-20000 ≤ xT ∧ xT ≤ 20000) ∧ -20000 ≤ xL ∧ xL ≤ 20000) (h2 : (-1 ≤ xDn ∧ xDn ≤ 1) ∧ -1 ≤ xG ∧ xG ≤ 1) (h3 : (0 ≤ xRs ∧ xRs ≤ 8) ∧ 0 ≤ xCs ∧ xCs ≤ 8) (h4 : (0 ≤ xR ∧ xR ≤ 7) ∧ 0 ≤ xK ∧ xK ≤ 7) (ht : 0 ≤ ticks ∧ ticks ≤ 24) : Met l yX1_isOver wsX1_isOver ({ frames := 0, cells := 0, slots := 0, locals := 0 }) (va_Pc [.ref c0, .ref m0, zi ticks] (HPr G (tyL y) (cmW c0 m0 y xT xL xRs xCs xDn xG xC xR xK xD xA xE xO xB))) (vp_Si (fun r => r = zI ((if (xT + xDn * ticks ≤ xR ∧ xR ≤ xT + xDn * ticks + xRs - 1) ∧ xL + xG * ticks ≤ xK ∧ xK ≤ xL + xG * ticks + xCs - 1 then 1 else 0)))) 0 0 (fun _ => False) := by
  refine hz_ofR (cc := cX1_isOver) (maxL := 5) (ret := (some .boolean)) (by decide) rfl (Nat.le_of_ble_eq_true rfl) ?_
  intro p e s m below meth c ls hx hb hr hts hown hlocks hml hP hK hl
  have hown : s.vm.findClass RX1 = some m.cls := hown
  have hl : lv_has ls 5 [(0, .ref c0), (1, .ref m0), (2, zi ticks)] := hl
  have hinwsX10 : ∀ w ∈ wsX10, w ∈ wsX1_isOver := fun _ h => List.mem_cons_of_mem _ (List.mem_append_right _ (h))
  have hinwsX40 : ∀ w ∈ wsX40, w ∈ wsX1_isOver := fun _ h => List.mem_cons_of_mem _ (List.mem_append_left _ (List.mem_append_right _ (h)))
  have q1 := mul_1 h2.1 ht
  have q2 := mul_1 h2.2 ht
  refine lv_aload_n hx hb dX1_isOver_0 rfl (lv_at hl 1 rfl) ?_
  refine va_get (D := G) (ci := 5) (v := zi xR) (C := RX4) (T := TX4) (N := 8) hx hb hts hinwsX40 hown hK hP 1 rfl rfl 1 (by decide) (hts (.fieldLink RX1 28 "Heliokeep$Mirror" "row" "I") (List.mem_of_getElem? (i := 1) rfl)) (fun _ h9 => h9) rfl dX1_isOver_1 ?_
  refine lv_aload_n hx hb dX1_isOver_4 rfl (lv_at hl 0 rfl) ?_
  refine va_get (D := G) (ci := 2) (v := zi xT) (C := RX1) (T := TX1) (N := 6) hx hb hts hinwsX10 hown hK hP 0 rfl rfl 0 (by decide) (hts (.fieldLink RX1 7 "Heliokeep$Cloud" "row" "I") (List.mem_of_getElem? (i := 2) rfl)) (fun _ h9 => h9) rfl dX1_isOver_5 ?_
  refine lv_aload_n hx hb dX1_isOver_8 rfl (lv_at hl 0 rfl) ?_
  refine va_get (D := G) (ci := 2) (v := zi xDn) (C := RX1) (T := TX1) (N := 6) hx hb hts hinwsX10 hown hK hP 0 rfl rfl 4 (by decide) (hts (.fieldLink RX1 22 "Heliokeep$Cloud" "down" "I") (List.mem_of_getElem? (i := 3) rfl)) (fun _ h9 => h9) rfl dX1_isOver_9 ?_
  refine lv_iload_n hx hb dX1_isOver_12 rfl (lv_at hl 2 rfl) ?_
  refine hz_imul hx hb dX1_isOver_13 ?_
  refine hz_iadd hx hb dX1_isOver_14 ?_
  refine hz_isub hx hb dX1_isOver_15 ?_
  refine lv_istore_n (lv' := [(3, zi (xR - (xT + (xDn * ticks)))), (0, .ref c0), (1, .ref m0), (2, zi ticks)]) hx hb dX1_isOver_16 rfl hl (by decide) rfl (fun ls hl => ?_)
  refine lv_aload_n hx hb dX1_isOver_17 rfl (lv_at hl 2 rfl) ?_
  refine va_get (D := G) (ci := 5) (v := zi xK) (C := RX4) (T := TX4) (N := 8) hx hb hts hinwsX40 hown hK hP 1 rfl rfl 2 (by decide) (hts (.fieldLink RX1 31 "Heliokeep$Mirror" "column" "I") (List.mem_of_getElem? (i := 4) rfl)) (fun _ h9 => h9) rfl dX1_isOver_18 ?_
  refine lv_aload_n hx hb dX1_isOver_21 rfl (lv_at hl 1 rfl) ?_
  refine va_get (D := G) (ci := 2) (v := zi xL) (C := RX1) (T := TX1) (N := 6) hx hb hts hinwsX10 hown hK hP 0 rfl rfl 1 (by decide) (hts (.fieldLink RX1 13 "Heliokeep$Cloud" "column" "I") (List.mem_of_getElem? (i := 5) rfl)) (fun _ h9 => h9) rfl dX1_isOver_22 ?_
  refine lv_aload_n hx hb dX1_isOver_25 rfl (lv_at hl 1 rfl) ?_
  refine va_get (D := G) (ci := 2) (v := zi xG) (C := RX1) (T := TX1) (N := 6) hx hb hts hinwsX10 hown hK hP 0 rfl rfl 5 (by decide) (hts (.fieldLink RX1 25 "Heliokeep$Cloud" "right" "I") (List.mem_of_getElem? (i := 6) rfl)) (fun _ h9 => h9) rfl dX1_isOver_26 ?_
  refine lv_iload_n hx hb dX1_isOver_29 rfl (lv_at hl 3 rfl) ?_
  refine hz_imul hx hb dX1_isOver_30 ?_
  refine hz_iadd hx hb dX1_isOver_31 ?_
  refine hz_isub hx hb dX1_isOver_32 ?_
  refine lv_istore (lv' := [(4, zi (xK - (xL + (xG * ticks)))), (3, zi (xR - (xT + (xDn * ticks)))), (0, .ref c0), (1, .ref m0), (2, zi ticks)]) hx hb dX1_isOver_33 hl (by decide) rfl (fun ls hl => ?_)
  refine lv_iload_n hx hb dX1_isOver_35 rfl (lv_at hl 1 rfl) ?_
  refine hz_if_lt (tgt := 65) hx hb dX1_isOver_36 (by decide) (by omega) (fun c1 => ?_) (fun c1 => ?_)
  · refine hz_iconst hx hb dX1_isOver_65 ?_
    exact W.zret (ty := .boolean) (v := zI 0) hx hb hr (zI_nb (by omega)) (fun t ht hW => ⟨zI 0, rfl, congrArg zI (by omega), ht⟩) (fun q hq => absurd hq List.not_mem_nil) dX1_isOver_66
  · refine lv_iload_n hx hb dX1_isOver_39 rfl (lv_at hl 1 rfl) ?_
    refine lv_aload_n hx hb dX1_isOver_40 rfl (lv_at hl 2 rfl) ?_
    refine va_get (D := G) (ci := 2) (v := zi xRs) (C := RX1) (T := TX1) (N := 6) hx hb hts hinwsX10 hown hK hP 0 rfl rfl 2 (by decide) (hts (.fieldLink RX1 16 "Heliokeep$Cloud" "rows" "I") (List.mem_of_getElem? (i := 7) rfl)) (fun _ h9 => h9) rfl dX1_isOver_41 ?_
    refine hz_icmp_ge (tgt := 65) hx hb dX1_isOver_44 (by decide) (by omega) (fun c2 => ?_) (fun c2 => ?_)
    · refine hz_iconst hx hb dX1_isOver_65 ?_
      exact W.zret (ty := .boolean) (v := zI 0) hx hb hr (zI_nb (by omega)) (fun t ht hW => ⟨zI 0, rfl, congrArg zI (by omega), ht⟩) (fun q hq => absurd hq List.not_mem_nil) dX1_isOver_66
    · refine lv_iload hx hb dX1_isOver_47 (lv_at hl 0 rfl) ?_
      refine hz_if_lt (tgt := 65) hx hb dX1_isOver_49 (by decide) (by omega) (fun c3 => ?_) (fun c3 => ?_)
      · refine hz_iconst hx hb dX1_isOver_65 ?_
        exact W.zret (ty := .boolean) (v := zI 0) hx hb hr (zI_nb (by omega)) (fun t ht hW => ⟨zI 0, rfl, congrArg zI (by omega), ht⟩) (fun q hq => absurd hq List.not_mem_nil) dX1_isOver_66
      · refine lv_iload hx hb dX1_isOver_52 (lv_at hl 0 rfl) ?_
        refine lv_aload_n hx hb dX1_isOver_54 rfl (lv_at hl 2 rfl) ?_
        refine va_get (D := G) (ci := 2) (v := zi xCs) (C := RX1) (T := TX1) (N := 6) hx hb hts hinwsX10 hown hK hP 0 rfl rfl 3 (by decide) (hts (.fieldLink RX1 19 "Heliokeep$Cloud" "columns" "I") (List.mem_of_getElem? (i := 8) rfl)) (fun _ h9 => h9) rfl dX1_isOver_55 ?_
        refine hz_icmp_ge (tgt := 65) hx hb dX1_isOver_58 (by decide) (by omega) (fun c4 => ?_) (fun c4 => ?_)
        · refine hz_iconst hx hb dX1_isOver_65 ?_
          exact W.zret (ty := .boolean) (v := zI 0) hx hb hr (zI_nb (by omega)) (fun t ht hW => ⟨zI 0, rfl, congrArg zI (by omega), ht⟩) (fun q hq => absurd hq List.not_mem_nil) dX1_isOver_66
        · refine hz_iconst hx hb dX1_isOver_61 ?_
          refine lv_goto (tgt := 66) hx hb dX1_isOver_62 (by decide) ?_
          exact W.zret (ty := .boolean) (v := zI 1) hx hb hr (zI_nb (by omega)) (fun t ht hW => ⟨zI 1, rfl, congrArg zI (by omega), ht⟩) (fun q hq => absurd hq List.not_mem_nil) dX1_isOver_66
abbrev Q_X1_move (G : va_G) (c0 : Nat) (y : Nat → ClassId) (xT xL xR xC xD xG : Int)  (A : Nat → Prop) : Array Value → State → Outcome → State → Prop := va_Qv (fun (u : Unit) => True) (fun (u : Unit) t => va_P G vwCl (clW c0 y (xT + xD) (xL + xG) xR xC xD xG) t.heap) A
set_option maxHeartbeats 4000000 in
set_option maxRecDepth 100000 in
theorem c_X1_move (l : Launch) (G : va_G) (c0 : Nat) (y : Nat → ClassId) (sz : Nat) (xT xL xR xC xD xG : Int)   : Met l yX1_move wsX1_move ({ frames := 0, cells := 0, slots := 0, locals := 0 }) (va_Pc [.ref c0] (HPre G (tyL y) (clW c0 y xT xL xR xC xD xG) sz)) (Q_X1_move G c0 y xT xL xR xC xD xG (va_A (clW c0 y xT xL xR xC xD xG) sz)) 0 0 (va_A (clW c0 y xT xL xR xC xD xG) sz) := by
  refine hz_ofW (Qf := Q_X1_move G c0 y xT xL xR xC xD xG) (cc := cX1_move) (maxL := 1) (ret := none) (by decide) rfl (Nat.le_of_ble_eq_true rfl) ?_
  intro p e s m below meth c A ls hx hb hr hts hown hin hlocks hml hP hK hA hD hS hl
  have hown : s.vm.findClass RX1 = some m.cls := hown
  have hl : lv_has ls 1 [(0, .ref c0)] := hl
  have hinwsX10 : ∀ w ∈ wsX10, w ∈ wsX1_move := fun _ h => List.mem_cons_of_mem _ (List.mem_append_right _ (h))
  refine lv_aload_n hx hb dX1_move_0 rfl (lv_at hl 0 rfl) ?_
  refine lv_dup hx hb dX1_move_1 rfl ?_
  refine va_get (D := G) (ci := 2) (v := zi xT) (C := RX1) (T := TX1) (N := 6) hx hb hts hinwsX10 hown hK hP 0 rfl rfl 0 (by decide) (hts (.fieldLink RX1 7 "Heliokeep$Cloud" "row" "I") (List.mem_of_getElem? (i := 1) rfl)) (fun _ h9 => h9) rfl dX1_move_2 ?_
  refine lv_aload_n hx hb dX1_move_5 rfl (lv_at hl 0 rfl) ?_
  refine va_get (D := G) (ci := 2) (v := zi xD) (C := RX1) (T := TX1) (N := 6) hx hb hts hinwsX10 hown hK hP 0 rfl rfl 4 (by decide) (hts (.fieldLink RX1 22 "Heliokeep$Cloud" "down" "I") (List.mem_of_getElem? (i := 2) rfl)) (fun _ h9 => h9) rfl dX1_move_6 ?_
  refine hz_iadd hx hb dX1_move_9 ?_
  refine va_put (D := G) (ci := 2) (v := zi (xT + xD)) (ty := .int) (C := RX1) (T := TX1) (N := 6) hx hb hts hinwsX10 tyX1 tyX1_ok nmX1 hown hK hP hD hS 0 rfl rfl 0 (by decide) (hts (.fieldLink RX1 7 "Heliokeep$Cloud" "row" "I") (List.mem_of_getElem? (i := 1) rfl)) (fun _ h9 => h9) rfl (by decide +kernel) rfl rfl (Nat.le_of_ble_eq_true rfl) dX1_move_10 (fun H locs hP hD hS => ?_)
  have hP : va_P G vwCl (clW c0 y (xT + xD) xL xR xC xD xG) H := hP
  have hD : va_D A (clW c0 y (xT + xD) xL xR xC xD xG) := hD
  refine lv_aload_n hx hb dX1_move_13 rfl (lv_at hl 0 rfl) ?_
  refine lv_dup hx hb dX1_move_14 rfl ?_
  refine va_get (D := G) (ci := 2) (v := zi xL) (C := RX1) (T := TX1) (N := 6) hx hb hts hinwsX10 hown hK hP 0 rfl rfl 1 (by decide) (hts (.fieldLink RX1 13 "Heliokeep$Cloud" "column" "I") (List.mem_of_getElem? (i := 3) rfl)) (fun _ h9 => h9) rfl dX1_move_15 ?_
  refine lv_aload_n hx hb dX1_move_18 rfl (lv_at hl 0 rfl) ?_
  refine va_get (D := G) (ci := 2) (v := zi xG) (C := RX1) (T := TX1) (N := 6) hx hb hts hinwsX10 hown hK hP 0 rfl rfl 5 (by decide) (hts (.fieldLink RX1 25 "Heliokeep$Cloud" "right" "I") (List.mem_of_getElem? (i := 4) rfl)) (fun _ h9 => h9) rfl dX1_move_19 ?_
  refine hz_iadd hx hb dX1_move_22 ?_
  refine va_put (D := G) (ci := 2) (v := zi (xL + xG)) (ty := .int) (C := RX1) (T := TX1) (N := 6) hx hb hts hinwsX10 tyX1 tyX1_ok nmX1 hown hK hP hD hS 0 rfl rfl 1 (by decide) (hts (.fieldLink RX1 13 "Heliokeep$Cloud" "column" "I") (List.mem_of_getElem? (i := 3) rfl)) (fun _ h9 => h9) rfl (by decide +kernel) rfl rfl (Nat.le_of_ble_eq_true rfl) dX1_move_23 (fun H locs hP hD hS => ?_)
  have hP : va_P G vwCl (clW c0 y (xT + xD) (xL + xG) xR xC xD xG) H := hP
  have hD : va_D A (clW c0 y (xT + xD) (xL + xG) xR xC xD xG) := hD
  exact W.vret hx hb hr (fun t ht hW => ⟨⟨(), rfl, trivial, hz_at hP ht⟩, hS.F ht⟩) hS.2.2 dX1_move_26
abbrev Q_X5_fill (G : va_G) (p0 : Nat) (y : Nat → ClassId) (xP xG xT xW : Int)  (A : Nat → Prop) : Array Value → State → Outcome → State → Prop := va_Qv (fun (u : Unit) => True) (fun (u : Unit) t => va_P G vwCl (ppW p0 y 1 30 xT xW) t.heap) A
set_option maxHeartbeats 4000000 in
set_option maxRecDepth 100000 in
theorem c_X5_fill (l : Launch) (G : va_G) (p0 : Nat) (y : Nat → ClassId) (sz : Nat) (xP xG xT xW : Int)   : Met l yX5_fill wsX5_fill ({ frames := 0, cells := 0, slots := 0, locals := 0 }) (va_Pc [.ref p0] (HPre G (tyL y) (ppW p0 y xP xG xT xW) sz)) (Q_X5_fill G p0 y xP xG xT xW (va_A (ppW p0 y xP xG xT xW) sz)) 0 0 (va_A (ppW p0 y xP xG xT xW) sz) := by
  refine hz_ofW (Qf := Q_X5_fill G p0 y xP xG xT xW) (cc := cX5_fill) (maxL := 1) (ret := none) (by decide) rfl (Nat.le_of_ble_eq_true rfl) ?_
  intro p e s m below meth c A ls hx hb hr hts hown hin hlocks hml hP hK hA hD hS hl
  have hown : s.vm.findClass RX5 = some m.cls := hown
  have hl : lv_has ls 1 [(0, .ref p0)] := hl
  have hinwsX50 : ∀ w ∈ wsX50, w ∈ wsX5_fill := fun _ h => List.mem_cons_of_mem _ (List.mem_append_right _ (h))
  refine lv_aload_n hx hb dX5_fill_0 rfl (lv_at hl 0 rfl) ?_
  refine hz_iconst hx hb dX5_fill_1 ?_
  refine va_put (D := G) (ci := 6) (v := zi 1) (ty := .int) (C := RX5) (T := TX5) (N := 4) hx hb hts hinwsX50 tyX5 tyX5_ok nmX5 hown hK hP hD hS 0 rfl rfl 0 (by decide) (hts (.fieldLink RX5 9 "Heliokeep$Pipe" "state" "I") (List.mem_of_getElem? (i := 1) rfl)) (fun _ h9 => h9) rfl (by decide +kernel) rfl rfl (Nat.le_of_ble_eq_true rfl) dX5_fill_2 (fun H locs hP hD hS => ?_)
  have hP : va_P G vwCl (ppW p0 y 1 xG xT xW) H := hP
  have hD : va_D A (ppW p0 y 1 xG xT xW) := hD
  refine lv_aload_n hx hb dX5_fill_5 rfl (lv_at hl 0 rfl) ?_
  refine hz_bipush hx hb dX5_fill_6 (by decide) ?_
  refine va_put (D := G) (ci := 6) (v := zi 30) (ty := .int) (C := RX5) (T := TX5) (N := 4) hx hb hts hinwsX50 tyX5 tyX5_ok nmX5 hown hK hP hD hS 0 rfl rfl 1 (by decide) (hts (.fieldLink RX5 15 "Heliokeep$Pipe" "degrees" "I") (List.mem_of_getElem? (i := 2) rfl)) (fun _ h9 => h9) rfl (by decide +kernel) rfl rfl (Nat.le_of_ble_eq_true rfl) dX5_fill_8 (fun H locs hP hD hS => ?_)
  have hP : va_P G vwCl (ppW p0 y 1 30 xT xW) H := hP
  have hD : va_D A (ppW p0 y 1 30 xT xW) := hD
  exact W.vret hx hb hr (fun t ht hW => ⟨⟨(), rfl, trivial, hz_at hP ht⟩, hS.F ht⟩) hS.2.2 dX5_fill_11
abbrev Q_X5_drain (G : va_G) (p0 : Nat) (y : Nat → ClassId) (xP xG xT xW : Int)  (A : Nat → Prop) : Array Value → State → Outcome → State → Prop := va_Qv (fun (u : Unit) => True) (fun (u : Unit) t => va_P G vwCl (ppW p0 y 0 0 xT xW) t.heap) A
set_option maxHeartbeats 4000000 in
set_option maxRecDepth 100000 in
theorem c_X5_drain (l : Launch) (G : va_G) (p0 : Nat) (y : Nat → ClassId) (sz : Nat) (xP xG xT xW : Int)   : Met l yX5_drain wsX5_drain ({ frames := 0, cells := 0, slots := 0, locals := 0 }) (va_Pc [.ref p0] (HPre G (tyL y) (ppW p0 y xP xG xT xW) sz)) (Q_X5_drain G p0 y xP xG xT xW (va_A (ppW p0 y xP xG xT xW) sz)) 0 0 (va_A (ppW p0 y xP xG xT xW) sz) := by
  refine hz_ofW (Qf := Q_X5_drain G p0 y xP xG xT xW) (cc := cX5_drain) (maxL := 1) (ret := none) (by decide) rfl (Nat.le_of_ble_eq_true rfl) ?_
  intro p e s m below meth c A ls hx hb hr hts hown hin hlocks hml hP hK hA hD hS hl
  have hown : s.vm.findClass RX5 = some m.cls := hown
  have hl : lv_has ls 1 [(0, .ref p0)] := hl
  have hinwsX50 : ∀ w ∈ wsX50, w ∈ wsX5_drain := fun _ h => List.mem_cons_of_mem _ (List.mem_append_right _ (h))
  refine lv_aload_n hx hb dX5_drain_0 rfl (lv_at hl 0 rfl) ?_
  refine hz_iconst hx hb dX5_drain_1 ?_
  refine va_put (D := G) (ci := 6) (v := zi 0) (ty := .int) (C := RX5) (T := TX5) (N := 4) hx hb hts hinwsX50 tyX5 tyX5_ok nmX5 hown hK hP hD hS 0 rfl rfl 0 (by decide) (hts (.fieldLink RX5 9 "Heliokeep$Pipe" "state" "I") (List.mem_of_getElem? (i := 1) rfl)) (fun _ h9 => h9) rfl (by decide +kernel) rfl rfl (Nat.le_of_ble_eq_true rfl) dX5_drain_2 (fun H locs hP hD hS => ?_)
  have hP : va_P G vwCl (ppW p0 y 0 xG xT xW) H := hP
  have hD : va_D A (ppW p0 y 0 xG xT xW) := hD
  refine lv_aload_n hx hb dX5_drain_5 rfl (lv_at hl 0 rfl) ?_
  refine hz_iconst hx hb dX5_drain_6 ?_
  refine va_put (D := G) (ci := 6) (v := zi 0) (ty := .int) (C := RX5) (T := TX5) (N := 4) hx hb hts hinwsX50 tyX5 tyX5_ok nmX5 hown hK hP hD hS 0 rfl rfl 1 (by decide) (hts (.fieldLink RX5 15 "Heliokeep$Pipe" "degrees" "I") (List.mem_of_getElem? (i := 2) rfl)) (fun _ h9 => h9) rfl (by decide +kernel) rfl rfl (Nat.le_of_ble_eq_true rfl) dX5_drain_7 (fun H locs hP hD hS => ?_)
  have hP : va_P G vwCl (ppW p0 y 0 0 xT xW) H := hP
  have hD : va_D A (ppW p0 y 0 0 xT xW) := hD
  exact W.vret hx hb hr (fun t ht hW => ⟨⟨(), rfl, trivial, hz_at hP ht⟩, hS.F ht⟩) hS.2.2 dX5_drain_10
abbrev Q_X5_thawOn (G : va_G) (p0 : Nat) (y : Nat → ClassId) (xP xG xT xW : Int)  (A : Nat → Prop) : Array Value → State → Outcome → State → Prop := va_Qv (fun (u : Int × Int × Int) => (u.1 = npZ xP xG xW xT 0) ∧ (u.2.1 = ndZ xP xG xW xT 0) ∧ (u.2.2 = ntZ xP xW xT)) (fun (u : Int × Int × Int) t => va_P G vwCl (ppW p0 y u.1 u.2.1 xT u.2.2) t.heap) A
set_option maxHeartbeats 4000000 in
set_option maxRecDepth 100000 in
theorem c_X5_thawOn (l : Launch) (G : va_G) (p0 : Nat) (y : Nat → ClassId) (sz : Nat) (xP xG xT xW : Int)  (h : (xT = 0 ∨ xT = 1) ∧ 0 ≤ xW ∧ xW ≤ 2) (hp : xP = 2) : Met l yX5_thawOn wsX5_thawOn ({ frames := 0, cells := 0, slots := 0, locals := 0 }) (va_Pc [.ref p0] (HPre G (tyL y) (ppW p0 y xP xG xT xW) sz)) (Q_X5_thawOn G p0 y xP xG xT xW (va_A (ppW p0 y xP xG xT xW) sz)) 0 0 (va_A (ppW p0 y xP xG xT xW) sz) := by
  refine hz_ofW (Qf := Q_X5_thawOn G p0 y xP xG xT xW) (cc := cX5_thawOn) (maxL := 1) (ret := none) (by decide) rfl (Nat.le_of_ble_eq_true rfl) ?_
  intro p e s m below meth c A ls hx hb hr hts hown hin hlocks hml hP hK hA hD hS hl
  have hown : s.vm.findClass RX5 = some m.cls := hown
  have hl : lv_has ls 1 [(0, .ref p0)] := hl
  have hinwsX50 : ∀ w ∈ wsX50, w ∈ wsX5_thawOn := fun _ h => List.mem_cons_of_mem _ (List.mem_append_right _ (h))
  refine lv_aload_n hx hb dX5_thawOn_0 rfl (lv_at hl 0 rfl) ?_
  refine lv_aload_n hx hb dX5_thawOn_1 rfl (lv_at hl 0 rfl) ?_
  refine va_get (D := G) (ci := 6) (v := zi xT) (C := RX5) (T := TX5) (N := 4) hx hb hts hinwsX50 hown hK hP 0 rfl rfl 2 (by decide) (hts (.fieldLink RX5 25 "Heliokeep$Pipe" "traced" "Z") (List.mem_of_getElem? (i := 1) rfl)) (fun _ h9 => h9) rfl dX5_thawOn_2 ?_
  refine hz_if_eq (tgt := 17) hx hb dX5_thawOn_5 (by decide) (by omega) (fun c1 => ?_) (fun c1 => ?_)
  · refine hz_iconst hx hb dX5_thawOn_17 ?_
    refine va_put (D := G) (ci := 6) (v := zi 0) (ty := .int) (C := RX5) (T := TX5) (N := 4) hx hb hts hinwsX50 tyX5 tyX5_ok nmX5 hown hK hP hD hS 0 rfl rfl 3 (by decide) (hts (.fieldLink RX5 29 "Heliokeep$Pipe" "thaw" "I") (List.mem_of_getElem? (i := 2) rfl)) (fun _ h9 => h9) rfl (by decide +kernel) rfl rfl (Nat.le_of_ble_eq_true rfl) dX5_thawOn_18 (fun H locs hP hD hS => ?_)
    have hP : va_P G vwCl (ppW p0 y xP xG xT 0) H := hP
    have hD : va_D A (ppW p0 y xP xG xT 0) := hD
    refine lv_aload_n hx hb dX5_thawOn_21 rfl (lv_at hl 0 rfl) ?_
    refine va_get (D := G) (ci := 6) (v := zi 0) (C := RX5) (T := TX5) (N := 4) hx hb hts hinwsX50 hown hK hP 0 rfl rfl 3 (by decide) (hts (.fieldLink RX5 29 "Heliokeep$Pipe" "thaw" "I") (List.mem_of_getElem? (i := 2) rfl)) (fun _ h9 => h9) rfl dX5_thawOn_22 ?_
    refine hz_iconst hx hb dX5_thawOn_25 ?_
    refine hz_icmp_ge (tgt := 30) hx hb dX5_thawOn_26 (by decide) (by omega) (fun q => absurd q (by omega)) (fun _ => ?_)
    exact W.vret hx hb hr (fun t ht hW => ⟨⟨(xP, xG, 0), rfl, ⟨(show xP = npZ xP xG xW xT 0 from by unfold npZ dgZ dwZ; omega), (show xG = ndZ xP xG xW xT 0 from by unfold ndZ dgZ dwZ; omega), (show (0 : Int) = ntZ xP xW xT from by unfold ntZ; omega)⟩, hz_at hP ht⟩, hS.F ht⟩) hS.2.2 dX5_thawOn_29
  · refine lv_aload_n hx hb dX5_thawOn_8 rfl (lv_at hl 0 rfl) ?_
    refine va_get (D := G) (ci := 6) (v := zi xW) (C := RX5) (T := TX5) (N := 4) hx hb hts hinwsX50 hown hK hP 0 rfl rfl 3 (by decide) (hts (.fieldLink RX5 29 "Heliokeep$Pipe" "thaw" "I") (List.mem_of_getElem? (i := 2) rfl)) (fun _ h9 => h9) rfl dX5_thawOn_9 ?_
    refine hz_iconst hx hb dX5_thawOn_12 ?_
    refine hz_iadd hx hb dX5_thawOn_13 ?_
    refine lv_goto (tgt := 18) hx hb dX5_thawOn_14 (by decide) ?_
    refine va_put (D := G) (ci := 6) (v := zi (xW + 1)) (ty := .int) (C := RX5) (T := TX5) (N := 4) hx hb hts hinwsX50 tyX5 tyX5_ok nmX5 hown hK hP hD hS 0 rfl rfl 3 (by decide) (hts (.fieldLink RX5 29 "Heliokeep$Pipe" "thaw" "I") (List.mem_of_getElem? (i := 2) rfl)) (fun _ h9 => h9) rfl (by decide +kernel) rfl rfl (Nat.le_of_ble_eq_true rfl) dX5_thawOn_18 (fun H locs hP hD hS => ?_)
    have hP : va_P G vwCl (ppW p0 y xP xG xT (xW + 1)) H := hP
    have hD : va_D A (ppW p0 y xP xG xT (xW + 1)) := hD
    refine lv_aload_n hx hb dX5_thawOn_21 rfl (lv_at hl 0 rfl) ?_
    refine va_get (D := G) (ci := 6) (v := zi (xW + 1)) (C := RX5) (T := TX5) (N := 4) hx hb hts hinwsX50 hown hK hP 0 rfl rfl 3 (by decide) (hts (.fieldLink RX5 29 "Heliokeep$Pipe" "thaw" "I") (List.mem_of_getElem? (i := 2) rfl)) (fun _ h9 => h9) rfl dX5_thawOn_22 ?_
    refine hz_iconst hx hb dX5_thawOn_25 ?_
    refine hz_icmp_ge (tgt := 30) hx hb dX5_thawOn_26 (by decide) (by omega) (fun c2 => ?_) (fun c2 => ?_)
    · refine lv_aload_n hx hb dX5_thawOn_30 rfl (lv_at hl 0 rfl) ?_
      refine hz_iconst hx hb dX5_thawOn_31 ?_
      refine va_put (D := G) (ci := 6) (v := zi 1) (ty := .int) (C := RX5) (T := TX5) (N := 4) hx hb hts hinwsX50 tyX5 tyX5_ok nmX5 hown hK hP hD hS 0 rfl rfl 0 (by decide) (hts (.fieldLink RX5 9 "Heliokeep$Pipe" "state" "I") (List.mem_of_getElem? (i := 3) rfl)) (fun _ h9 => h9) rfl (by decide +kernel) rfl rfl (Nat.le_of_ble_eq_true rfl) dX5_thawOn_32 (fun H locs hP hD hS => ?_)
      have hP : va_P G vwCl (ppW p0 y 1 xG xT (xW + 1)) H := hP
      have hD : va_D A (ppW p0 y 1 xG xT (xW + 1)) := hD
      refine lv_aload_n hx hb dX5_thawOn_35 rfl (lv_at hl 0 rfl) ?_
      refine hz_bipush hx hb dX5_thawOn_36 (by decide) ?_
      refine va_put (D := G) (ci := 6) (v := zi 22) (ty := .int) (C := RX5) (T := TX5) (N := 4) hx hb hts hinwsX50 tyX5 tyX5_ok nmX5 hown hK hP hD hS 0 rfl rfl 1 (by decide) (hts (.fieldLink RX5 15 "Heliokeep$Pipe" "degrees" "I") (List.mem_of_getElem? (i := 4) rfl)) (fun _ h9 => h9) rfl (by decide +kernel) rfl rfl (Nat.le_of_ble_eq_true rfl) dX5_thawOn_38 (fun H locs hP hD hS => ?_)
      have hP : va_P G vwCl (ppW p0 y 1 22 xT (xW + 1)) H := hP
      have hD : va_D A (ppW p0 y 1 22 xT (xW + 1)) := hD
      exact W.vret hx hb hr (fun t ht hW => ⟨⟨(1, 22, (xW + 1)), rfl, ⟨(show (1 : Int) = npZ xP xG xW xT 0 from by unfold npZ dgZ dwZ; omega), (show (22 : Int) = ndZ xP xG xW xT 0 from by unfold ndZ dgZ dwZ; omega), (show (xW + 1) = ntZ xP xW xT from by unfold ntZ; omega)⟩, hz_at hP ht⟩, hS.F ht⟩) hS.2.2 dX5_thawOn_41
    · exact W.vret hx hb hr (fun t ht hW => ⟨⟨(xP, xG, (xW + 1)), rfl, ⟨(show xP = npZ xP xG xW xT 0 from by unfold npZ dgZ dwZ; omega), (show xG = ndZ xP xG xW xT 0 from by unfold ndZ dgZ dwZ; omega), (show (xW + 1) = ntZ xP xW xT from by unfold ntZ; omega)⟩, hz_at hP ht⟩, hS.F ht⟩) hS.2.2 dX5_thawOn_29
abbrev Q_X5_change (G : va_G) (p0 : Nat) (y : Nat → ClassId) (xP xG xT xW : Int) (sc : Int) (A : Nat → Prop) : Array Value → State → Outcome → State → Prop := va_Qv (fun (u : Int × Int × Int) => (u.1 = npZ xP xG xW xT sc) ∧ (u.2.1 = ndZ xP xG xW xT sc) ∧ (u.1 = 2 → u.2.2 = 0)) (fun (u : Int × Int × Int) t => va_P G vwCl (ppW p0 y u.1 u.2.1 xT u.2.2) t.heap) A
set_option maxHeartbeats 4000000 in
set_option maxRecDepth 100000 in
theorem c_X5_change (l : Launch) (G : va_G) (p0 : Nat) (y : Nat → ClassId) (sz : Nat) (xP xG xT xW : Int) (sc : Int) (h : (xT = 0 ∨ xT = 1) ∧ 20 ≤ xG ∧ xG ≤ 40) (hp : xP = 1) (hs : sc = 0 ∨ sc = 1) : Met l yX5_change wsX5_change ({ frames := 1, cells := 0, slots := 0, locals := 21 }) (va_Pc [.ref p0, zi sc] (HPre G (tyL y) (ppW p0 y xP xG xT xW) sz)) (Q_X5_change G p0 y xP xG xT xW sc (va_A (ppW p0 y xP xG xT xW) sz)) 0 0 (va_A (ppW p0 y xP xG xT xW) sz) := by
  refine hz_ofW (Qf := Q_X5_change G p0 y xP xG xT xW sc) (cc := cX5_change) (maxL := 2) (ret := none) (by decide) rfl (Nat.le_of_ble_eq_true rfl) ?_
  intro p e s m below meth c A ls hx hb hr hts hown hin hlocks hml hP hK hA hD hS hl
  have hown : s.vm.findClass RX5 = some m.cls := hown
  have hl : lv_has ls 2 [(0, .ref p0), (1, zi sc)] := hl
  have hinwsX50 : ∀ w ∈ wsX50, w ∈ wsX5_change := fun _ h => List.mem_cons_of_mem _ (List.mem_append_right _ (h))
  refine lv_aload_n hx hb dX5_change_0 rfl (lv_at hl 0 rfl) ?_
  refine lv_iload_n hx hb dX5_change_1 rfl (lv_at hl 1 rfl) ?_
  refine hz_if_eq (tgt := 19) hx hb dX5_change_2 (by decide) (by omega) (fun c1 => ?_) (fun c1 => ?_)
  · refine lv_aload_n hx hb dX5_change_19 rfl (lv_at hl 0 rfl) ?_
    refine va_get (D := G) (ci := 6) (v := zi xG) (C := RX5) (T := TX5) (N := 4) hx hb hts hinwsX50 hown hK hP 0 rfl rfl 1 (by decide) (hts (.fieldLink RX5 15 "Heliokeep$Pipe" "degrees" "I") (List.mem_of_getElem? (i := 1) rfl)) (fun _ h9 => h9) rfl dX5_change_20 ?_
    refine hz_iconst hx hb dX5_change_23 ?_
    refine hz_isub hx hb dX5_change_24 ?_
    refine va_put (D := G) (ci := 6) (v := zi (xG - 2)) (ty := .int) (C := RX5) (T := TX5) (N := 4) hx hb hts hinwsX50 tyX5 tyX5_ok nmX5 hown hK hP hD hS 0 rfl rfl 1 (by decide) (hts (.fieldLink RX5 15 "Heliokeep$Pipe" "degrees" "I") (List.mem_of_getElem? (i := 1) rfl)) (fun _ h9 => h9) rfl (by decide +kernel) rfl rfl (Nat.le_of_ble_eq_true rfl) dX5_change_25 (fun H locs hP hD hS => ?_)
    have hP : va_P G vwCl (ppW p0 y xP (xG - 2) xT xW) H := hP
    have hD : va_D A (ppW p0 y xP (xG - 2) xT xW) := hD
    refine lv_aload_n hx hb dX5_change_28 rfl (lv_at hl 0 rfl) ?_
    refine va_get (D := G) (ci := 6) (v := zi xT) (C := RX5) (T := TX5) (N := 4) hx hb hts hinwsX50 hown hK hP 0 rfl rfl 2 (by decide) (hts (.fieldLink RX5 25 "Heliokeep$Pipe" "traced" "Z") (List.mem_of_getElem? (i := 6) rfl)) (fun _ h9 => h9) rfl dX5_change_29 ?_
    refine hz_if_eq (tgt := 48) hx hb dX5_change_32 (by decide) (by omega) (fun c2 => ?_) (fun c2 => ?_)
    · refine lv_aload_n hx hb dX5_change_48 rfl (lv_at hl 0 rfl) ?_
      refine va_get (D := G) (ci := 6) (v := zi (xG - 2)) (C := RX5) (T := TX5) (N := 4) hx hb hts hinwsX50 hown hK hP 0 rfl rfl 1 (by decide) (hts (.fieldLink RX5 15 "Heliokeep$Pipe" "degrees" "I") (List.mem_of_getElem? (i := 1) rfl)) (fun _ h9 => h9) rfl dX5_change_49 ?_
      refine hz_bipush hx hb dX5_change_52 (by decide) ?_
      refine hz_icmp_lt (tgt := 58) hx hb dX5_change_54 (by decide) (by omega) (fun c3 => ?_) (fun c3 => ?_)
      · refine lv_aload_n hx hb dX5_change_58 rfl (lv_at hl 0 rfl) ?_
        refine hz_iconst hx hb dX5_change_59 ?_
        refine va_put (D := G) (ci := 6) (v := zi 2) (ty := .int) (C := RX5) (T := TX5) (N := 4) hx hb hts hinwsX50 tyX5 tyX5_ok nmX5 hown hK hP hD hS 0 rfl rfl 0 (by decide) (hts (.fieldLink RX5 9 "Heliokeep$Pipe" "state" "I") (List.mem_of_getElem? (i := 10) rfl)) (fun _ h9 => h9) rfl (by decide +kernel) rfl rfl (Nat.le_of_ble_eq_true rfl) dX5_change_60 (fun H locs hP hD hS => ?_)
        have hP : va_P G vwCl (ppW p0 y 2 (xG - 2) xT xW) H := hP
        have hD : va_D A (ppW p0 y 2 (xG - 2) xT xW) := hD
        refine lv_aload_n hx hb dX5_change_63 rfl (lv_at hl 0 rfl) ?_
        refine hz_iconst hx hb dX5_change_64 ?_
        refine va_put (D := G) (ci := 6) (v := zi 0) (ty := .int) (C := RX5) (T := TX5) (N := 4) hx hb hts hinwsX50 tyX5 tyX5_ok nmX5 hown hK hP hD hS 0 rfl rfl 3 (by decide) (hts (.fieldLink RX5 29 "Heliokeep$Pipe" "thaw" "I") (List.mem_of_getElem? (i := 11) rfl)) (fun _ h9 => h9) rfl (by decide +kernel) rfl rfl (Nat.le_of_ble_eq_true rfl) dX5_change_65 (fun H locs hP hD hS => ?_)
        have hP : va_P G vwCl (ppW p0 y 2 (xG - 2) xT 0) H := hP
        have hD : va_D A (ppW p0 y 2 (xG - 2) xT 0) := hD
        exact W.vret hx hb hr (fun t ht hW => ⟨⟨(2, (xG - 2), 0), rfl, ⟨(show (2 : Int) = npZ xP xG xW xT sc from by unfold npZ dgZ dwZ hdZ; omega), (show (xG - 2) = ndZ xP xG xW xT sc from by unfold ndZ dgZ dwZ hdZ; omega), (show (2 : Int) = 2 → (0 : Int) = 0 from by omega)⟩, hz_at hP ht⟩, hS.F ht⟩) hS.2.2 dX5_change_68
      · exact W.vret hx hb hr (fun t ht hW => ⟨⟨(xP, (xG - 2), xW), rfl, ⟨(show xP = npZ xP xG xW xT sc from by unfold npZ dgZ dwZ hdZ; omega), (show (xG - 2) = ndZ xP xG xW xT sc from by unfold ndZ dgZ dwZ hdZ; omega), (show xP = 2 → xW = 0 from by omega)⟩, hz_at hP ht⟩, hS.F ht⟩) hS.2.2 dX5_change_57
    · refine lv_aload_n hx hb dX5_change_35 rfl (lv_at hl 0 rfl) ?_
      refine hz_bipush hx hb dX5_change_36 (by decide) ?_
      refine lv_aload_n hx hb dX5_change_38 rfl (lv_at hl 0 rfl) ?_
      refine va_get (D := G) (ci := 6) (v := zi (xG - 2)) (C := RX5) (T := TX5) (N := 4) hx hb hts hinwsX50 hown hK hP 0 rfl rfl 1 (by decide) (hts (.fieldLink RX5 15 "Heliokeep$Pipe" "degrees" "I") (List.mem_of_getElem? (i := 1) rfl)) (fun _ h9 => h9) rfl dX5_change_39 ?_
      refine hz_mmax hx hb (hml.trans hl.1.symm) hown (hts (.methodLink RX5 38 Lib.Math.max.name) (List.mem_of_getElem? (i := 7) rfl)) (hts (.static Lib.Math.max.name) (List.mem_of_getElem? (i := 8) rfl)) (hts (.initialized "java/lang/Math") (List.mem_of_getElem? (i := 4) rfl)) (hts (.code Lib.Math.max.name Lib.Math.max.code 2 (some .int)) (List.mem_of_getElem? (i := 9) rfl)) (Nat.le_of_ble_eq_true rfl) (Nat.le_of_ble_eq_true rfl) (Nat.le_of_ble_eq_true rfl) (Nat.le_of_ble_eq_true rfl) (by omega) dX5_change_42 ?_
      refine hz_topi (fun z4 e5 => ?_)
      refine va_put (D := G) (ci := 6) (v := zi z4) (ty := .int) (C := RX5) (T := TX5) (N := 4) hx hb hts hinwsX50 tyX5 tyX5_ok nmX5 hown hK hP hD hS 0 rfl rfl 1 (by decide) (hts (.fieldLink RX5 15 "Heliokeep$Pipe" "degrees" "I") (List.mem_of_getElem? (i := 1) rfl)) (fun _ h9 => h9) rfl (by decide +kernel) rfl rfl (Nat.le_of_ble_eq_true rfl) dX5_change_45 (fun H locs hP hD hS => ?_)
      have hP : va_P G vwCl (ppW p0 y xP z4 xT xW) H := hP
      have hD : va_D A (ppW p0 y xP z4 xT xW) := hD
      refine lv_aload_n hx hb dX5_change_48 rfl (lv_at hl 0 rfl) ?_
      refine va_get (D := G) (ci := 6) (v := zi z4) (C := RX5) (T := TX5) (N := 4) hx hb hts hinwsX50 hown hK hP 0 rfl rfl 1 (by decide) (hts (.fieldLink RX5 15 "Heliokeep$Pipe" "degrees" "I") (List.mem_of_getElem? (i := 1) rfl)) (fun _ h9 => h9) rfl dX5_change_49 ?_
      refine hz_bipush hx hb dX5_change_52 (by decide) ?_
      refine hz_icmp_lt (tgt := 58) hx hb dX5_change_54 (by decide) (by omega) (fun c6 => ?_) (fun c6 => ?_)
      · refine lv_aload_n hx hb dX5_change_58 rfl (lv_at hl 0 rfl) ?_
        refine hz_iconst hx hb dX5_change_59 ?_
        refine va_put (D := G) (ci := 6) (v := zi 2) (ty := .int) (C := RX5) (T := TX5) (N := 4) hx hb hts hinwsX50 tyX5 tyX5_ok nmX5 hown hK hP hD hS 0 rfl rfl 0 (by decide) (hts (.fieldLink RX5 9 "Heliokeep$Pipe" "state" "I") (List.mem_of_getElem? (i := 10) rfl)) (fun _ h9 => h9) rfl (by decide +kernel) rfl rfl (Nat.le_of_ble_eq_true rfl) dX5_change_60 (fun H locs hP hD hS => ?_)
        have hP : va_P G vwCl (ppW p0 y 2 z4 xT xW) H := hP
        have hD : va_D A (ppW p0 y 2 z4 xT xW) := hD
        refine lv_aload_n hx hb dX5_change_63 rfl (lv_at hl 0 rfl) ?_
        refine hz_iconst hx hb dX5_change_64 ?_
        refine va_put (D := G) (ci := 6) (v := zi 0) (ty := .int) (C := RX5) (T := TX5) (N := 4) hx hb hts hinwsX50 tyX5 tyX5_ok nmX5 hown hK hP hD hS 0 rfl rfl 3 (by decide) (hts (.fieldLink RX5 29 "Heliokeep$Pipe" "thaw" "I") (List.mem_of_getElem? (i := 11) rfl)) (fun _ h9 => h9) rfl (by decide +kernel) rfl rfl (Nat.le_of_ble_eq_true rfl) dX5_change_65 (fun H locs hP hD hS => ?_)
        have hP : va_P G vwCl (ppW p0 y 2 z4 xT 0) H := hP
        have hD : va_D A (ppW p0 y 2 z4 xT 0) := hD
        exact W.vret hx hb hr (fun t ht hW => ⟨⟨(2, z4, 0), rfl, ⟨(show (2 : Int) = npZ xP xG xW xT sc from by unfold npZ dgZ dwZ hdZ; omega), (show z4 = ndZ xP xG xW xT sc from by unfold ndZ dgZ dwZ hdZ; omega), (show (2 : Int) = 2 → (0 : Int) = 0 from by omega)⟩, hz_at hP ht⟩, hS.F ht⟩) hS.2.2 dX5_change_68
      · exact W.vret hx hb hr (fun t ht hW => ⟨⟨(xP, z4, xW), rfl, ⟨(show xP = npZ xP xG xW xT sc from by unfold npZ dgZ dwZ hdZ; omega), (show z4 = ndZ xP xG xW xT sc from by unfold ndZ dgZ dwZ hdZ; omega), (show xP = 2 → xW = 0 from by omega)⟩, hz_at hP ht⟩, hS.F ht⟩) hS.2.2 dX5_change_57
  · refine hz_bipush hx hb dX5_change_5 (by decide) ?_
    refine lv_aload_n hx hb dX5_change_7 rfl (lv_at hl 0 rfl) ?_
    refine va_get (D := G) (ci := 6) (v := zi xG) (C := RX5) (T := TX5) (N := 4) hx hb hts hinwsX50 hown hK hP 0 rfl rfl 1 (by decide) (hts (.fieldLink RX5 15 "Heliokeep$Pipe" "degrees" "I") (List.mem_of_getElem? (i := 1) rfl)) (fun _ h9 => h9) rfl dX5_change_8 ?_
    refine hz_iconst hx hb dX5_change_11 ?_
    refine hz_iadd hx hb dX5_change_12 ?_
    refine hz_mmin hx hb (hml.trans hl.1.symm) hown (hts (.methodLink RX5 32 Lib.Math.min.name) (List.mem_of_getElem? (i := 2) rfl)) (hts (.static Lib.Math.min.name) (List.mem_of_getElem? (i := 3) rfl)) (hts (.initialized "java/lang/Math") (List.mem_of_getElem? (i := 4) rfl)) (hts (.code Lib.Math.min.name Lib.Math.min.code 2 (some .int)) (List.mem_of_getElem? (i := 5) rfl)) (Nat.le_of_ble_eq_true rfl) (Nat.le_of_ble_eq_true rfl) (Nat.le_of_ble_eq_true rfl) (Nat.le_of_ble_eq_true rfl) (by omega) dX5_change_13 ?_
    refine hz_topi (fun z7 e8 => ?_)
    refine lv_goto (tgt := 25) hx hb dX5_change_16 (by decide) ?_
    refine va_put (D := G) (ci := 6) (v := zi z7) (ty := .int) (C := RX5) (T := TX5) (N := 4) hx hb hts hinwsX50 tyX5 tyX5_ok nmX5 hown hK hP hD hS 0 rfl rfl 1 (by decide) (hts (.fieldLink RX5 15 "Heliokeep$Pipe" "degrees" "I") (List.mem_of_getElem? (i := 1) rfl)) (fun _ h9 => h9) rfl (by decide +kernel) rfl rfl (Nat.le_of_ble_eq_true rfl) dX5_change_25 (fun H locs hP hD hS => ?_)
    have hP : va_P G vwCl (ppW p0 y xP z7 xT xW) H := hP
    have hD : va_D A (ppW p0 y xP z7 xT xW) := hD
    refine lv_aload_n hx hb dX5_change_28 rfl (lv_at hl 0 rfl) ?_
    refine va_get (D := G) (ci := 6) (v := zi xT) (C := RX5) (T := TX5) (N := 4) hx hb hts hinwsX50 hown hK hP 0 rfl rfl 2 (by decide) (hts (.fieldLink RX5 25 "Heliokeep$Pipe" "traced" "Z") (List.mem_of_getElem? (i := 6) rfl)) (fun _ h9 => h9) rfl dX5_change_29 ?_
    refine hz_if_eq (tgt := 48) hx hb dX5_change_32 (by decide) (by omega) (fun c9 => ?_) (fun c9 => ?_)
    · refine lv_aload_n hx hb dX5_change_48 rfl (lv_at hl 0 rfl) ?_
      refine va_get (D := G) (ci := 6) (v := zi z7) (C := RX5) (T := TX5) (N := 4) hx hb hts hinwsX50 hown hK hP 0 rfl rfl 1 (by decide) (hts (.fieldLink RX5 15 "Heliokeep$Pipe" "degrees" "I") (List.mem_of_getElem? (i := 1) rfl)) (fun _ h9 => h9) rfl dX5_change_49 ?_
      refine hz_bipush hx hb dX5_change_52 (by decide) ?_
      refine hz_icmp_lt (tgt := 58) hx hb dX5_change_54 (by decide) (by omega) (fun c10 => ?_) (fun c10 => ?_)
      · refine lv_aload_n hx hb dX5_change_58 rfl (lv_at hl 0 rfl) ?_
        refine hz_iconst hx hb dX5_change_59 ?_
        refine va_put (D := G) (ci := 6) (v := zi 2) (ty := .int) (C := RX5) (T := TX5) (N := 4) hx hb hts hinwsX50 tyX5 tyX5_ok nmX5 hown hK hP hD hS 0 rfl rfl 0 (by decide) (hts (.fieldLink RX5 9 "Heliokeep$Pipe" "state" "I") (List.mem_of_getElem? (i := 10) rfl)) (fun _ h9 => h9) rfl (by decide +kernel) rfl rfl (Nat.le_of_ble_eq_true rfl) dX5_change_60 (fun H locs hP hD hS => ?_)
        have hP : va_P G vwCl (ppW p0 y 2 z7 xT xW) H := hP
        have hD : va_D A (ppW p0 y 2 z7 xT xW) := hD
        refine lv_aload_n hx hb dX5_change_63 rfl (lv_at hl 0 rfl) ?_
        refine hz_iconst hx hb dX5_change_64 ?_
        refine va_put (D := G) (ci := 6) (v := zi 0) (ty := .int) (C := RX5) (T := TX5) (N := 4) hx hb hts hinwsX50 tyX5 tyX5_ok nmX5 hown hK hP hD hS 0 rfl rfl 3 (by decide) (hts (.fieldLink RX5 29 "Heliokeep$Pipe" "thaw" "I") (List.mem_of_getElem? (i := 11) rfl)) (fun _ h9 => h9) rfl (by decide +kernel) rfl rfl (Nat.le_of_ble_eq_true rfl) dX5_change_65 (fun H locs hP hD hS => ?_)
        have hP : va_P G vwCl (ppW p0 y 2 z7 xT 0) H := hP
        have hD : va_D A (ppW p0 y 2 z7 xT 0) := hD
        exact W.vret hx hb hr (fun t ht hW => ⟨⟨(2, z7, 0), rfl, ⟨(show (2 : Int) = npZ xP xG xW xT sc from by unfold npZ dgZ dwZ hdZ; omega), (show z7 = ndZ xP xG xW xT sc from by unfold ndZ dgZ dwZ hdZ; omega), (show (2 : Int) = 2 → (0 : Int) = 0 from by omega)⟩, hz_at hP ht⟩, hS.F ht⟩) hS.2.2 dX5_change_68
      · exact W.vret hx hb hr (fun t ht hW => ⟨⟨(xP, z7, xW), rfl, ⟨(show xP = npZ xP xG xW xT sc from by unfold npZ dgZ dwZ hdZ; omega), (show z7 = ndZ xP xG xW xT sc from by unfold ndZ dgZ dwZ hdZ; omega), (show xP = 2 → xW = 0 from by omega)⟩, hz_at hP ht⟩, hS.F ht⟩) hS.2.2 dX5_change_57
    · refine lv_aload_n hx hb dX5_change_35 rfl (lv_at hl 0 rfl) ?_
      refine hz_bipush hx hb dX5_change_36 (by decide) ?_
      refine lv_aload_n hx hb dX5_change_38 rfl (lv_at hl 0 rfl) ?_
      refine va_get (D := G) (ci := 6) (v := zi z7) (C := RX5) (T := TX5) (N := 4) hx hb hts hinwsX50 hown hK hP 0 rfl rfl 1 (by decide) (hts (.fieldLink RX5 15 "Heliokeep$Pipe" "degrees" "I") (List.mem_of_getElem? (i := 1) rfl)) (fun _ h9 => h9) rfl dX5_change_39 ?_
      refine hz_mmax hx hb (hml.trans hl.1.symm) hown (hts (.methodLink RX5 38 Lib.Math.max.name) (List.mem_of_getElem? (i := 7) rfl)) (hts (.static Lib.Math.max.name) (List.mem_of_getElem? (i := 8) rfl)) (hts (.initialized "java/lang/Math") (List.mem_of_getElem? (i := 4) rfl)) (hts (.code Lib.Math.max.name Lib.Math.max.code 2 (some .int)) (List.mem_of_getElem? (i := 9) rfl)) (Nat.le_of_ble_eq_true rfl) (Nat.le_of_ble_eq_true rfl) (Nat.le_of_ble_eq_true rfl) (Nat.le_of_ble_eq_true rfl) (by omega) dX5_change_42 ?_
      refine hz_topi (fun z11 e12 => ?_)
      refine va_put (D := G) (ci := 6) (v := zi z11) (ty := .int) (C := RX5) (T := TX5) (N := 4) hx hb hts hinwsX50 tyX5 tyX5_ok nmX5 hown hK hP hD hS 0 rfl rfl 1 (by decide) (hts (.fieldLink RX5 15 "Heliokeep$Pipe" "degrees" "I") (List.mem_of_getElem? (i := 1) rfl)) (fun _ h9 => h9) rfl (by decide +kernel) rfl rfl (Nat.le_of_ble_eq_true rfl) dX5_change_45 (fun H locs hP hD hS => ?_)
      have hP : va_P G vwCl (ppW p0 y xP z11 xT xW) H := hP
      have hD : va_D A (ppW p0 y xP z11 xT xW) := hD
      refine lv_aload_n hx hb dX5_change_48 rfl (lv_at hl 0 rfl) ?_
      refine va_get (D := G) (ci := 6) (v := zi z11) (C := RX5) (T := TX5) (N := 4) hx hb hts hinwsX50 hown hK hP 0 rfl rfl 1 (by decide) (hts (.fieldLink RX5 15 "Heliokeep$Pipe" "degrees" "I") (List.mem_of_getElem? (i := 1) rfl)) (fun _ h9 => h9) rfl dX5_change_49 ?_
      refine hz_bipush hx hb dX5_change_52 (by decide) ?_
      refine hz_icmp_lt (tgt := 58) hx hb dX5_change_54 (by decide) (by omega) (fun c13 => ?_) (fun c13 => ?_)
      · refine lv_aload_n hx hb dX5_change_58 rfl (lv_at hl 0 rfl) ?_
        refine hz_iconst hx hb dX5_change_59 ?_
        refine va_put (D := G) (ci := 6) (v := zi 2) (ty := .int) (C := RX5) (T := TX5) (N := 4) hx hb hts hinwsX50 tyX5 tyX5_ok nmX5 hown hK hP hD hS 0 rfl rfl 0 (by decide) (hts (.fieldLink RX5 9 "Heliokeep$Pipe" "state" "I") (List.mem_of_getElem? (i := 10) rfl)) (fun _ h9 => h9) rfl (by decide +kernel) rfl rfl (Nat.le_of_ble_eq_true rfl) dX5_change_60 (fun H locs hP hD hS => ?_)
        have hP : va_P G vwCl (ppW p0 y 2 z11 xT xW) H := hP
        have hD : va_D A (ppW p0 y 2 z11 xT xW) := hD
        refine lv_aload_n hx hb dX5_change_63 rfl (lv_at hl 0 rfl) ?_
        refine hz_iconst hx hb dX5_change_64 ?_
        refine va_put (D := G) (ci := 6) (v := zi 0) (ty := .int) (C := RX5) (T := TX5) (N := 4) hx hb hts hinwsX50 tyX5 tyX5_ok nmX5 hown hK hP hD hS 0 rfl rfl 3 (by decide) (hts (.fieldLink RX5 29 "Heliokeep$Pipe" "thaw" "I") (List.mem_of_getElem? (i := 11) rfl)) (fun _ h9 => h9) rfl (by decide +kernel) rfl rfl (Nat.le_of_ble_eq_true rfl) dX5_change_65 (fun H locs hP hD hS => ?_)
        have hP : va_P G vwCl (ppW p0 y 2 z11 xT 0) H := hP
        have hD : va_D A (ppW p0 y 2 z11 xT 0) := hD
        exact W.vret hx hb hr (fun t ht hW => ⟨⟨(2, z11, 0), rfl, ⟨(show (2 : Int) = npZ xP xG xW xT sc from by unfold npZ dgZ dwZ hdZ; omega), (show z11 = ndZ xP xG xW xT sc from by unfold ndZ dgZ dwZ hdZ; omega), (show (2 : Int) = 2 → (0 : Int) = 0 from by omega)⟩, hz_at hP ht⟩, hS.F ht⟩) hS.2.2 dX5_change_68
      · exact W.vret hx hb hr (fun t ht hW => ⟨⟨(xP, z11, xW), rfl, ⟨(show xP = npZ xP xG xW xT sc from by unfold npZ dgZ dwZ hdZ; omega), (show z11 = ndZ xP xG xW xT sc from by unfold ndZ dgZ dwZ hdZ; omega), (show xP = 2 → xW = 0 from by omega)⟩, hz_at hP ht⟩, hS.F ht⟩) hS.2.2 dX5_change_57
abbrev Q_X5_takeTick (G : va_G) (p0 : Nat) (y : Nat → ClassId) (xP xG xT xW : Int) (sc : Int) (A : Nat → Prop) : Array Value → State → Outcome → State → Prop := va_Qv (fun (u : Int × Int × Int) => (u.1 = npZ xP xG xW xT sc) ∧ (u.2.1 = ndZ xP xG xW xT sc) ∧ (u.1 = 2 → u.2.2 = ntZ xP xW xT)) (fun (u : Int × Int × Int) t => va_P G vwCl (ppW p0 y u.1 u.2.1 xT u.2.2) t.heap) A
set_option maxHeartbeats 4000000 in
set_option maxRecDepth 100000 in
theorem c_X5_takeTick (l : Launch) (G : va_G) (p0 : Nat) (y : Nat → ClassId) (sz : Nat) (xP xG xT xW : Int) (sc : Int) (h : (xT = 0 ∨ xT = 1) ∧ (xP = 1 → 20 ≤ xG) ∧ xG ≤ 40) (hp : 0 ≤ xP ∧ xP ≤ 2) (hw : xP = 2 → 0 ≤ xW ∧ xW ≤ 2) (hs : sc = 0 ∨ sc = 1) : Met l yX5_takeTick wsX5_takeTick ({ frames := 2, cells := 0, slots := 0, locals := 42 }) (va_Pc [.ref p0, zi sc] (HPre G (tyL y) (ppW p0 y xP xG xT xW) sz)) (Q_X5_takeTick G p0 y xP xG xT xW sc (va_A (ppW p0 y xP xG xT xW) sz)) 0 0 (va_A (ppW p0 y xP xG xT xW) sz) := by
  refine hz_ofW (Qf := Q_X5_takeTick G p0 y xP xG xT xW sc) (cc := cX5_takeTick) (maxL := 2) (ret := none) (by decide) rfl (Nat.le_of_ble_eq_true rfl) ?_
  intro p e s m below meth c A ls hx hb hr hts hown hin hlocks hml hP hK hA hD hS hl
  have hown : s.vm.findClass RX5 = some m.cls := hown
  have hl : lv_has ls 2 [(0, .ref p0), (1, zi sc)] := hl
  have hinwsX50 : ∀ w ∈ wsX50, w ∈ wsX5_takeTick := fun _ h => List.mem_cons_of_mem _ (List.mem_append_right _ (h))
  refine lv_aload_n hx hb dX5_takeTick_0 rfl (lv_at hl 0 rfl) ?_
  refine va_get (D := G) (ci := 6) (v := zi xP) (C := RX5) (T := TX5) (N := 4) hx hb hts hinwsX50 hown hK hP 0 rfl rfl 0 (by decide) (hts (.fieldLink RX5 9 "Heliokeep$Pipe" "state" "I") (List.mem_of_getElem? (i := 1) rfl)) (fun _ h9 => h9) rfl dX5_takeTick_1 ?_
  refine hz_iconst hx hb dX5_takeTick_4 ?_
  refine hz_icmp_ne (tgt := 15) hx hb dX5_takeTick_5 (by decide) (by omega) (fun c1 => ?_) (fun c1 => ?_)
  · refine lv_aload_n hx hb dX5_takeTick_15 rfl (lv_at hl 0 rfl) ?_
    refine va_get (D := G) (ci := 6) (v := zi xP) (C := RX5) (T := TX5) (N := 4) hx hb hts hinwsX50 hown hK hP 0 rfl rfl 0 (by decide) (hts (.fieldLink RX5 9 "Heliokeep$Pipe" "state" "I") (List.mem_of_getElem? (i := 1) rfl)) (fun _ h9 => h9) rfl dX5_takeTick_16 ?_
    refine hz_iconst hx hb dX5_takeTick_19 ?_
    refine hz_icmp_ne (tgt := 28) hx hb dX5_takeTick_20 (by decide) (by omega) (fun c2 => ?_) (fun c2 => ?_)
    · exact W.vret hx hb hr (fun t ht hW => ⟨⟨(xP, xG, xW), rfl, ⟨(show xP = npZ xP xG xW xT sc from by unfold npZ dgZ dwZ; first | omega | simp_all), (show xG = ndZ xP xG xW xT sc from by unfold ndZ dgZ dwZ; first | omega | simp_all), (show xP = 2 → xW = ntZ xP xW xT from by unfold ntZ; omega)⟩, hz_at hP ht⟩, hS.F ht⟩) hS.2.2 dX5_takeTick_28
    · refine lv_aload_n hx hb dX5_takeTick_23 rfl (lv_at hl 0 rfl) ?_
      refine lv_iload_n hx hb dX5_takeTick_24 rfl (lv_at hl 1 rfl) ?_
      refine hz_callWv (As := [zi sc]) (rest := []) ⟨hx, hb, hml, hown, hts⟩ (c_X5_change l G p0 y _ xP xG xT xW sc (by omega) (by omega) (by omega)) (cwV 1 hts gX5_takeTick_X5_change rfl rfl rfl (by decide +kernel) ⟨Nat.le_of_ble_eq_true rfl, Nat.le_of_ble_eq_true rfl⟩) hP hK hD hS hA 0 6 rfl rfl rfl rfl hl.1 rfl (Nat.le_of_ble_eq_true rfl) dX5_takeTick_25 ⟨Nat.zero_le _, Nat.zero_le _⟩ (fun _ => rfl) (fun u H locs hu hP hD hS => ?_)
      obtain ⟨n_3, n_4, n_5⟩ := u
      have p6 : n_3 = npZ xP xG xW xT sc := hu.1
      have p7 : n_4 = ndZ xP xG xW xT sc := hu.2.1
      have p8 : n_3 = 2 → n_5 = 0 := hu.2.2
      have hP : va_P G vwCl (ppW p0 y n_3 n_4 xT n_5) H := hP
      have hD : va_D A (ppW p0 y n_3 n_4 xT n_5) := hD
      exact W.vret hx hb hr (fun t ht hW => ⟨⟨(n_3, n_4, n_5), rfl, ⟨(show n_3 = npZ xP xG xW xT sc from by have q1 := p6; unfold npZ dgZ dwZ at q1; unfold npZ dgZ dwZ; first | omega | simp_all), (show n_4 = ndZ xP xG xW xT sc from by have q1 := p7; unfold ndZ dgZ dwZ at q1; unfold ndZ dgZ dwZ; first | omega | simp_all), (show n_3 = 2 → n_5 = ntZ xP xW xT from by have q1 := p8; have q2 := p6; unfold npZ at q2; unfold ntZ; omega)⟩, hz_at hP ht⟩, hS.F ht⟩) hS.2.2 dX5_takeTick_28
  · refine lv_aload_n hx hb dX5_takeTick_8 rfl (lv_at hl 0 rfl) ?_
    refine hz_callWv (As := []) (rest := []) ⟨hx, hb, hml, hown, hts⟩ (c_X5_thawOn l G p0 y _ xP xG xT xW  (by omega) (by omega)) (cwV 0 hts gX5_takeTick_X5_thawOn rfl rfl rfl (by decide +kernel) ⟨Nat.le_of_ble_eq_true rfl, Nat.le_of_ble_eq_true rfl⟩) hP hK hD hS hA 0 6 rfl rfl rfl rfl hl.1 rfl (Nat.le_of_ble_eq_true rfl) dX5_takeTick_9 ⟨Nat.zero_le _, Nat.zero_le _⟩ (fun _ => rfl) (fun u H locs hu hP hD hS => ?_)
    obtain ⟨n_9, n_10, n_11⟩ := u
    have p12 : n_9 = npZ xP xG xW xT 0 := hu.1
    have p13 : n_10 = ndZ xP xG xW xT 0 := hu.2.1
    have p14 : n_11 = ntZ xP xW xT := hu.2.2
    have hP : va_P G vwCl (ppW p0 y n_9 n_10 xT n_11) H := hP
    have hD : va_D A (ppW p0 y n_9 n_10 xT n_11) := hD
    refine lv_goto (tgt := 28) hx hb dX5_takeTick_12 (by decide) ?_
    exact W.vret hx hb hr (fun t ht hW => ⟨⟨(n_9, n_10, n_11), rfl, ⟨(show n_9 = npZ xP xG xW xT sc from by have q1 := p12; unfold npZ dgZ dwZ at q1; unfold npZ dgZ dwZ; first | omega | simp_all), (show n_10 = ndZ xP xG xW xT sc from by have q1 := p13; unfold ndZ dgZ dwZ at q1; unfold ndZ dgZ dwZ; first | omega | simp_all), (show n_9 = 2 → n_11 = ntZ xP xW xT from by have q1 := p14; unfold ntZ at q1; have q2 := p12; unfold npZ at q2; unfold ntZ; omega)⟩, hz_at hP ht⟩, hS.F ht⟩) hS.2.2 dX5_takeTick_28
abbrev Q_X6_start (G : va_G) (t0 : Nat) (y : Nat → ClassId) (xB xL xF : Int)  (A : Nat → Prop) : Array Value → State → Outcome → State → Prop := va_Qv (fun (u : Unit) => True) (fun (u : Unit) t => va_P G vwCl (tbW t0 y 1 xL 2) t.heap) A
set_option maxHeartbeats 4000000 in
set_option maxRecDepth 100000 in
theorem c_X6_start (l : Launch) (G : va_G) (t0 : Nat) (y : Nat → ClassId) (sz : Nat) (xB xL xF : Int)   : Met l yX6_start wsX6_start ({ frames := 0, cells := 0, slots := 0, locals := 0 }) (va_Pc [.ref t0] (HPre G (tyL y) (tbW t0 y xB xL xF) sz)) (Q_X6_start G t0 y xB xL xF (va_A (tbW t0 y xB xL xF) sz)) 0 0 (va_A (tbW t0 y xB xL xF) sz) := by
  refine hz_ofW (Qf := Q_X6_start G t0 y xB xL xF) (cc := cX6_start) (maxL := 1) (ret := none) (by decide) rfl (Nat.le_of_ble_eq_true rfl) ?_
  intro p e s m below meth c A ls hx hb hr hts hown hin hlocks hml hP hK hA hD hS hl
  have hown : s.vm.findClass RX6 = some m.cls := hown
  have hl : lv_has ls 1 [(0, .ref t0)] := hl
  have hinwsX60 : ∀ w ∈ wsX60, w ∈ wsX6_start := fun _ h => List.mem_cons_of_mem _ (List.mem_append_right _ (h))
  refine lv_aload_n hx hb dX6_start_0 rfl (lv_at hl 0 rfl) ?_
  refine hz_iconst hx hb dX6_start_1 ?_
  refine va_put (D := G) (ci := 7) (v := zi 1) (ty := .int) (C := RX6) (T := TX6) (N := 3) hx hb hts hinwsX60 tyX6 tyX6_ok nmX6 hown hK hP hD hS 0 rfl rfl 0 (by decide) (hts (.fieldLink RX6 9 "Heliokeep$Turbine" "state" "I") (List.mem_of_getElem? (i := 1) rfl)) (fun _ h9 => h9) rfl (by decide +kernel) rfl rfl (Nat.le_of_ble_eq_true rfl) dX6_start_2 (fun H locs hP hD hS => ?_)
  have hP : va_P G vwCl (tbW t0 y 1 xL xF) H := hP
  have hD : va_D A (tbW t0 y 1 xL xF) := hD
  refine lv_aload_n hx hb dX6_start_5 rfl (lv_at hl 0 rfl) ?_
  refine hz_iconst hx hb dX6_start_6 ?_
  refine va_put (D := G) (ci := 7) (v := zi 2) (ty := .int) (C := RX6) (T := TX6) (N := 3) hx hb hts hinwsX60 tyX6 tyX6_ok nmX6 hown hK hP hD hS 0 rfl rfl 2 (by decide) (hts (.fieldLink RX6 15 "Heliokeep$Turbine" "ticksLeft" "I") (List.mem_of_getElem? (i := 2) rfl)) (fun _ h9 => h9) rfl (by decide +kernel) rfl rfl (Nat.le_of_ble_eq_true rfl) dX6_start_7 (fun H locs hP hD hS => ?_)
  have hP : va_P G vwCl (tbW t0 y 1 xL 2) H := hP
  have hD : va_D A (tbW t0 y 1 xL 2) := hD
  exact W.vret hx hb hr (fun t ht hW => ⟨⟨(), rfl, trivial, hz_at hP ht⟩, hS.F ht⟩) hS.2.2 dX6_start_10
abbrev Q_X6_halt (G : va_G) (t0 : Nat) (y : Nat → ClassId) (xB xL xF : Int)  (A : Nat → Prop) : Array Value → State → Outcome → State → Prop := va_Qv (fun (u : Unit) => True) (fun (u : Unit) t => va_P G vwCl (tbW t0 y 0 0 xF) t.heap) A
set_option maxHeartbeats 4000000 in
set_option maxRecDepth 100000 in
theorem c_X6_halt (l : Launch) (G : va_G) (t0 : Nat) (y : Nat → ClassId) (sz : Nat) (xB xL xF : Int)   : Met l yX6_halt wsX6_halt ({ frames := 0, cells := 0, slots := 0, locals := 0 }) (va_Pc [.ref t0] (HPre G (tyL y) (tbW t0 y xB xL xF) sz)) (Q_X6_halt G t0 y xB xL xF (va_A (tbW t0 y xB xL xF) sz)) 0 0 (va_A (tbW t0 y xB xL xF) sz) := by
  refine hz_ofW (Qf := Q_X6_halt G t0 y xB xL xF) (cc := cX6_halt) (maxL := 1) (ret := none) (by decide) rfl (Nat.le_of_ble_eq_true rfl) ?_
  intro p e s m below meth c A ls hx hb hr hts hown hin hlocks hml hP hK hA hD hS hl
  have hown : s.vm.findClass RX6 = some m.cls := hown
  have hl : lv_has ls 1 [(0, .ref t0)] := hl
  have hinwsX60 : ∀ w ∈ wsX60, w ∈ wsX6_halt := fun _ h => List.mem_cons_of_mem _ (List.mem_append_right _ (h))
  refine lv_aload_n hx hb dX6_halt_0 rfl (lv_at hl 0 rfl) ?_
  refine hz_iconst hx hb dX6_halt_1 ?_
  refine va_put (D := G) (ci := 7) (v := zi 0) (ty := .int) (C := RX6) (T := TX6) (N := 3) hx hb hts hinwsX60 tyX6 tyX6_ok nmX6 hown hK hP hD hS 0 rfl rfl 0 (by decide) (hts (.fieldLink RX6 9 "Heliokeep$Turbine" "state" "I") (List.mem_of_getElem? (i := 1) rfl)) (fun _ h9 => h9) rfl (by decide +kernel) rfl rfl (Nat.le_of_ble_eq_true rfl) dX6_halt_2 (fun H locs hP hD hS => ?_)
  have hP : va_P G vwCl (tbW t0 y 0 xL xF) H := hP
  have hD : va_D A (tbW t0 y 0 xL xF) := hD
  refine lv_aload_n hx hb dX6_halt_5 rfl (lv_at hl 0 rfl) ?_
  refine hz_iconst hx hb dX6_halt_6 ?_
  refine va_put (D := G) (ci := 7) (v := zi 0) (ty := .int) (C := RX6) (T := TX6) (N := 3) hx hb hts hinwsX60 tyX6 tyX6_ok nmX6 hown hK hP hD hS 0 rfl rfl 1 (by decide) (hts (.fieldLink RX6 18 "Heliokeep$Turbine" "load" "I") (List.mem_of_getElem? (i := 2) rfl)) (fun _ h9 => h9) rfl (by decide +kernel) rfl rfl (Nat.le_of_ble_eq_true rfl) dX6_halt_7 (fun H locs hP hD hS => ?_)
  have hP : va_P G vwCl (tbW t0 y 0 0 xF) H := hP
  have hD : va_D A (tbW t0 y 0 0 xF) := hD
  exact W.vret hx hb hr (fun t ht hW => ⟨⟨(), rfl, trivial, hz_at hP ht⟩, hS.F ht⟩) hS.2.2 dX6_halt_10
abbrev Q_X6_warm (G : va_G) (t0 : Nat) (y : Nat → ClassId) (xB xL xF : Int)  (A : Nat → Prop) : Array Value → State → Outcome → State → Prop := va_Qv (fun (u : Int) => (u = (if xF - 1 = 0 then 2 else xB))) (fun (u : Int) t => va_P G vwCl (tbW t0 y u xL (xF - 1)) t.heap) A
set_option maxHeartbeats 4000000 in
set_option maxRecDepth 100000 in
theorem c_X6_warm (l : Launch) (G : va_G) (t0 : Nat) (y : Nat → ClassId) (sz : Nat) (xB xL xF : Int)  (h : 1 ≤ xF ∧ xF ≤ 2) : Met l yX6_warm wsX6_warm ({ frames := 0, cells := 0, slots := 0, locals := 0 }) (va_Pc [.ref t0] (HPre G (tyL y) (tbW t0 y xB xL xF) sz)) (Q_X6_warm G t0 y xB xL xF (va_A (tbW t0 y xB xL xF) sz)) 0 0 (va_A (tbW t0 y xB xL xF) sz) := by
  refine hz_ofW (Qf := Q_X6_warm G t0 y xB xL xF) (cc := cX6_warm) (maxL := 1) (ret := none) (by decide) rfl (Nat.le_of_ble_eq_true rfl) ?_
  intro p e s m below meth c A ls hx hb hr hts hown hin hlocks hml hP hK hA hD hS hl
  have hown : s.vm.findClass RX6 = some m.cls := hown
  have hl : lv_has ls 1 [(0, .ref t0)] := hl
  have hinwsX60 : ∀ w ∈ wsX60, w ∈ wsX6_warm := fun _ h => List.mem_cons_of_mem _ (List.mem_append_right _ (h))
  refine lv_aload_n hx hb dX6_warm_0 rfl (lv_at hl 0 rfl) ?_
  refine lv_dup hx hb dX6_warm_1 rfl ?_
  refine va_get (D := G) (ci := 7) (v := zi xF) (C := RX6) (T := TX6) (N := 3) hx hb hts hinwsX60 hown hK hP 0 rfl rfl 2 (by decide) (hts (.fieldLink RX6 15 "Heliokeep$Turbine" "ticksLeft" "I") (List.mem_of_getElem? (i := 1) rfl)) (fun _ h9 => h9) rfl dX6_warm_2 ?_
  refine hz_iconst hx hb dX6_warm_5 ?_
  refine hz_isub hx hb dX6_warm_6 ?_
  refine va_put (D := G) (ci := 7) (v := zi (xF - 1)) (ty := .int) (C := RX6) (T := TX6) (N := 3) hx hb hts hinwsX60 tyX6 tyX6_ok nmX6 hown hK hP hD hS 0 rfl rfl 2 (by decide) (hts (.fieldLink RX6 15 "Heliokeep$Turbine" "ticksLeft" "I") (List.mem_of_getElem? (i := 1) rfl)) (fun _ h9 => h9) rfl (by decide +kernel) rfl rfl (Nat.le_of_ble_eq_true rfl) dX6_warm_7 (fun H locs hP hD hS => ?_)
  have hP : va_P G vwCl (tbW t0 y xB xL (xF - 1)) H := hP
  have hD : va_D A (tbW t0 y xB xL (xF - 1)) := hD
  refine lv_aload_n hx hb dX6_warm_10 rfl (lv_at hl 0 rfl) ?_
  refine va_get (D := G) (ci := 7) (v := zi (xF - 1)) (C := RX6) (T := TX6) (N := 3) hx hb hts hinwsX60 hown hK hP 0 rfl rfl 2 (by decide) (hts (.fieldLink RX6 15 "Heliokeep$Turbine" "ticksLeft" "I") (List.mem_of_getElem? (i := 1) rfl)) (fun _ h9 => h9) rfl dX6_warm_11 ?_
  refine hz_if_gt (tgt := 22) hx hb dX6_warm_14 (by decide) (by omega) (fun c1 => ?_) (fun c1 => ?_)
  · exact W.vret hx hb hr (fun t ht hW => ⟨⟨(xB), rfl, (show xB = (if xF - 1 = 0 then 2 else xB) from by omega), hz_at hP ht⟩, hS.F ht⟩) hS.2.2 dX6_warm_22
  · refine lv_aload_n hx hb dX6_warm_17 rfl (lv_at hl 0 rfl) ?_
    refine hz_iconst hx hb dX6_warm_18 ?_
    refine va_put (D := G) (ci := 7) (v := zi 2) (ty := .int) (C := RX6) (T := TX6) (N := 3) hx hb hts hinwsX60 tyX6 tyX6_ok nmX6 hown hK hP hD hS 0 rfl rfl 0 (by decide) (hts (.fieldLink RX6 9 "Heliokeep$Turbine" "state" "I") (List.mem_of_getElem? (i := 2) rfl)) (fun _ h9 => h9) rfl (by decide +kernel) rfl rfl (Nat.le_of_ble_eq_true rfl) dX6_warm_19 (fun H locs hP hD hS => ?_)
    have hP : va_P G vwCl (tbW t0 y 2 xL (xF - 1)) H := hP
    have hD : va_D A (tbW t0 y 2 xL (xF - 1)) := hD
    exact W.vret hx hb hr (fun t ht hW => ⟨⟨(2), rfl, (show (2 : Int) = (if xF - 1 = 0 then 2 else xB) from by omega), hz_at hP ht⟩, hS.F ht⟩) hS.2.2 dX6_warm_22
abbrev Q_X6_takeTick (G : va_G) (t0 : Nat) (y : Nat → ClassId) (xB xL xF : Int) (hot : Int) (A : Nat → Prop) : Array Value → State → Outcome → State → Prop := va_Qi (fun (r : Int32) (u : Int × Int × Int) => r = zI (u.1) ∧ (u.1 = tuZ xB xL hot) ∧ (u.2.1 = nbZ xB xF) ∧ (u.2.2 = nlZ xB xF)) (fun (u : Int × Int × Int) t => va_P G vwCl (tbW t0 y u.2.1 xL u.2.2) t.heap) A
set_option maxHeartbeats 4000000 in
set_option maxRecDepth 100000 in
theorem c_X6_takeTick (l : Launch) (G : va_G) (t0 : Nat) (y : Nat → ClassId) (sz : Nat) (xB xL xF : Int) (hot : Int) (h : xB = 1 → 1 ≤ xF ∧ xF ≤ 2) (h2 : (0 ≤ hot ∧ hot ≤ 1000) ∧ (0 ≤ xL ∧ xL ≤ 20) ∧ 0 ≤ xB ∧ xB ≤ 2) : Met l yX6_takeTick wsX6_takeTick ({ frames := 1, cells := 0, slots := 0, locals := 21 }) (va_Pc [.ref t0, zi hot] (HPre G (tyL y) (tbW t0 y xB xL xF) sz)) (Q_X6_takeTick G t0 y xB xL xF hot (va_A (tbW t0 y xB xL xF) sz)) 0 0 (va_A (tbW t0 y xB xL xF) sz) := by
  refine hz_ofW (Qf := Q_X6_takeTick G t0 y xB xL xF hot) (cc := cX6_takeTick) (maxL := 2) (ret := (some .int)) (by decide) rfl (Nat.le_of_ble_eq_true rfl) ?_
  intro p e s m below meth c A ls hx hb hr hts hown hin hlocks hml hP hK hA hD hS hl
  have hown : s.vm.findClass RX6 = some m.cls := hown
  have hl : lv_has ls 2 [(0, .ref t0), (1, zi hot)] := hl
  have hinwsX60 : ∀ w ∈ wsX60, w ∈ wsX6_takeTick := fun _ h => List.mem_cons_of_mem _ (List.mem_append_right _ (h))
  refine lv_aload_n hx hb dX6_takeTick_0 rfl (lv_at hl 0 rfl) ?_
  refine va_get (D := G) (ci := 7) (v := zi xB) (C := RX6) (T := TX6) (N := 3) hx hb hts hinwsX60 hown hK hP 0 rfl rfl 0 (by decide) (hts (.fieldLink RX6 9 "Heliokeep$Turbine" "state" "I") (List.mem_of_getElem? (i := 1) rfl)) (fun _ h9 => h9) rfl dX6_takeTick_1 ?_
  refine hz_iconst hx hb dX6_takeTick_4 ?_
  refine hz_icmp_ne (tgt := 17) hx hb dX6_takeTick_5 (by decide) (by omega) (fun c1 => ?_) (fun c1 => ?_)
  · refine lv_aload_n hx hb dX6_takeTick_17 rfl (lv_at hl 0 rfl) ?_
    refine va_get (D := G) (ci := 7) (v := zi xB) (C := RX6) (T := TX6) (N := 3) hx hb hts hinwsX60 hown hK hP 0 rfl rfl 0 (by decide) (hts (.fieldLink RX6 9 "Heliokeep$Turbine" "state" "I") (List.mem_of_getElem? (i := 1) rfl)) (fun _ h9 => h9) rfl dX6_takeTick_18 ?_
    refine hz_iconst hx hb dX6_takeTick_21 ?_
    refine hz_icmp_ne (tgt := 29) hx hb dX6_takeTick_22 (by decide) (by omega) (fun c2 => ?_) (fun c2 => ?_)
    · refine hz_iconst hx hb dX6_takeTick_29 ?_
      exact W.iret (v := zI 0) hx hb hr (fun t ht hW => ⟨⟨zI 0, (0, xB, xF), rfl, ⟨rfl, ⟨(show (0 : Int) = tuZ xB xL hot from by unfold tuZ; omega), (show xB = nbZ xB xF from by unfold nbZ; omega), (show xF = nlZ xB xF from by unfold nlZ; omega)⟩⟩, hz_at hP ht⟩, hS.F ht⟩) hS.2.2 dX6_takeTick_30
    · refine lv_aload_n hx hb dX6_takeTick_25 rfl (lv_at hl 0 rfl) ?_
      refine hz_callWv (As := []) (rest := []) ⟨hx, hb, hml, hown, hts⟩ (c_X6_warm l G t0 y _ xB xL xF  (by omega)) (cwV 0 hts gX6_takeTick_X6_warm rfl rfl rfl (by decide +kernel) ⟨Nat.le_of_ble_eq_true rfl, Nat.le_of_ble_eq_true rfl⟩) hP hK hD hS hA 0 7 rfl rfl rfl rfl hl.1 rfl (Nat.le_of_ble_eq_true rfl) dX6_takeTick_26 ⟨Nat.zero_le _, Nat.zero_le _⟩ (fun _ => rfl) (fun n_3 H locs hu hP hD hS => ?_)
      have p4 : n_3 = (if xF - 1 = 0 then 2 else xB) := hu
      have hP : va_P G vwCl (tbW t0 y n_3 xL (xF - 1)) H := hP
      have hD : va_D A (tbW t0 y n_3 xL (xF - 1)) := hD
      refine hz_iconst hx hb dX6_takeTick_29 ?_
      exact W.iret (v := zI 0) hx hb hr (fun t ht hW => ⟨⟨zI 0, (0, n_3, xF - 1), rfl, ⟨rfl, ⟨(show (0 : Int) = tuZ xB xL hot from by unfold tuZ; omega), (show n_3 = nbZ xB xF from by unfold nbZ; omega), (show (xF - 1) = nlZ xB xF from by unfold nlZ; omega)⟩⟩, hz_at hP ht⟩, hS.F ht⟩) hS.2.2 dX6_takeTick_30
  · refine lv_aload_n hx hb dX6_takeTick_8 rfl (lv_at hl 0 rfl) ?_
    refine va_get (D := G) (ci := 7) (v := zi xL) (C := RX6) (T := TX6) (N := 3) hx hb hts hinwsX60 hown hK hP 0 rfl rfl 1 (by decide) (hts (.fieldLink RX6 18 "Heliokeep$Turbine" "load" "I") (List.mem_of_getElem? (i := 2) rfl)) (fun _ h9 => h9) rfl dX6_takeTick_9 ?_
    refine lv_iload_n hx hb dX6_takeTick_12 rfl (lv_at hl 1 rfl) ?_
    refine hz_mmin hx hb (hml.trans hl.1.symm) hown (hts (.methodLink RX6 21 Lib.Math.min.name) (List.mem_of_getElem? (i := 3) rfl)) (hts (.static Lib.Math.min.name) (List.mem_of_getElem? (i := 4) rfl)) (hts (.initialized "java/lang/Math") (List.mem_of_getElem? (i := 5) rfl)) (hts (.code Lib.Math.min.name Lib.Math.min.code 2 (some .int)) (List.mem_of_getElem? (i := 6) rfl)) (Nat.le_of_ble_eq_true rfl) (Nat.le_of_ble_eq_true rfl) (Nat.le_of_ble_eq_true rfl) (Nat.le_of_ble_eq_true rfl) (by omega) dX6_takeTick_13 ?_
    refine hz_topi (fun z5 e6 => ?_)
    exact W.iret (v := zI z5) hx hb hr (fun t ht hW => ⟨⟨zI z5, (z5, xB, xF), rfl, ⟨rfl, ⟨(show z5 = tuZ xB xL hot from by unfold tuZ; omega), (show xB = nbZ xB xF from by unfold nbZ; omega), (show xF = nlZ xB xF from by unfold nlZ; omega)⟩⟩, hz_at hP ht⟩, hS.F ht⟩) hS.2.2 dX6_takeTick_16
