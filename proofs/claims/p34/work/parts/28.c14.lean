abbrev Q_X1_init (G : va_G) (c0 : Nat) (y : Nat → ClassId) (xT xL xR xC xD xG : Int) (a1 : Int) (a2 : Int) (a3 : Int) (a4 : Int) (a5 : Int) (a6 : Int) (A : Nat → Prop) : Array Value → State → Outcome → State → Prop := va_Qv (fun (u : Unit) => True) (fun (u : Unit) t => va_P G vwCl (clW c0 y a1 a2 a3 a4 a5 a6) t.heap) A
set_option maxHeartbeats 4000000 in
set_option maxRecDepth 100000 in
theorem c_X1_init (l : Launch) (G : va_G) (c0 : Nat) (y : Nat → ClassId) (sz : Nat) (xT xL xR xC xD xG : Int) (a1 : Int) (a2 : Int) (a3 : Int) (a4 : Int) (a5 : Int) (a6 : Int)  : Met l yX1_init wsX1_init ({ frames := 1, cells := 0, slots := 0, locals := 12 }) (va_Pc [.ref c0, zi a1, zi a2, zi a3, zi a4, zi a5, zi a6] (HPre G (tyL y) (clW c0 y xT xL xR xC xD xG) sz)) (Q_X1_init G c0 y xT xL xR xC xD xG a1 a2 a3 a4 a5 a6 (va_A (clW c0 y xT xL xR xC xD xG) sz)) 0 0 (va_A (clW c0 y xT xL xR xC xD xG) sz) := by
  refine hz_ofW (Qf := Q_X1_init G c0 y xT xL xR xC xD xG a1 a2 a3 a4 a5 a6) (cc := cX1_init) (maxL := 7) (ret := none) (by decide) rfl (Nat.le_of_ble_eq_true rfl) ?_
  intro p e s m below meth c A ls hx hb hr hts hown hin hlocks hml hP hK hA hD hS hl
  have hown : s.vm.findClass RX1 = some m.cls := hown
  have hl : lv_has ls 7 [(0, .ref c0), (1, zi a1), (2, zi a2), (3, zi a3), (4, zi a4), (5, zi a5), (6, zi a6)] := hl
  have hinwsX10 : ∀ w ∈ wsX10, w ∈ wsX1_init := fun _ h => List.mem_cons_of_mem _ (List.mem_append_right _ (h))
  refine lv_aload_n hx hb dX1_init_0 rfl (lv_at hl 0 rfl) ?_
  refine W.objInit hx hb hown (hts (.methodLink RX1 1 objectInit) (List.mem_of_getElem? (i := 1) rfl)) (hts (.instanceMethod objectInit) (List.mem_of_getElem? (i := 2) rfl)) (hts _ (List.mem_of_getElem? (i := 3) rfl)) rfl (hl.1.trans hml.symm) rfl dX1_init_1 (Nat.le_of_ble_eq_true rfl) (Nat.le_of_ble_eq_true rfl) ?_
  refine lv_aload_n hx hb dX1_init_4 rfl (lv_at hl 0 rfl) ?_
  refine lv_iload_n hx hb dX1_init_5 rfl (lv_at hl 1 rfl) ?_
  refine va_put (D := G) (ci := 2) (v := zi a1) (ty := .int) (C := RX1) (T := TX1) (N := 6) hx hb hts hinwsX10 tyX1 tyX1_ok nmX1 hown hK hP hD hS 0 rfl rfl 0 (by decide) (hts (.fieldLink RX1 7 "Heliokeep$Cloud" "row" "I") (List.mem_of_getElem? (i := 4) rfl)) (fun _ h9 => h9) rfl (by decide +kernel) rfl rfl (Nat.le_of_ble_eq_true rfl) dX1_init_6 (fun H locs hP hD hS => ?_)
  have hP : va_P G vwCl (clW c0 y a1 xL xR xC xD xG) H := hP
  have hD : va_D A (clW c0 y a1 xL xR xC xD xG) := hD
  refine lv_aload_n hx hb dX1_init_9 rfl (lv_at hl 0 rfl) ?_
  refine lv_iload_n hx hb dX1_init_10 rfl (lv_at hl 2 rfl) ?_
  refine va_put (D := G) (ci := 2) (v := zi a2) (ty := .int) (C := RX1) (T := TX1) (N := 6) hx hb hts hinwsX10 tyX1 tyX1_ok nmX1 hown hK hP hD hS 0 rfl rfl 1 (by decide) (hts (.fieldLink RX1 13 "Heliokeep$Cloud" "column" "I") (List.mem_of_getElem? (i := 5) rfl)) (fun _ h9 => h9) rfl (by decide +kernel) rfl rfl (Nat.le_of_ble_eq_true rfl) dX1_init_11 (fun H locs hP hD hS => ?_)
  have hP : va_P G vwCl (clW c0 y a1 a2 xR xC xD xG) H := hP
  have hD : va_D A (clW c0 y a1 a2 xR xC xD xG) := hD
  refine lv_aload_n hx hb dX1_init_14 rfl (lv_at hl 0 rfl) ?_
  refine lv_iload_n hx hb dX1_init_15 rfl (lv_at hl 3 rfl) ?_
  refine va_putF (D := G) (ci := 2) (v := zi a3) (ty := .int) (C := RX1) (T := TX1) (N := 6) hx hb hts hinwsX10 tyX1 tyX1_ok nmX1 hown hK hP hD hS 0 rfl rfl 2 (by decide) (hts (.fieldLink RX1 16 "Heliokeep$Cloud" "rows" "I") (List.mem_of_getElem? (i := 6) rfl)) (fun _ h9 => h9) rfl hin rfl (by decide +kernel) rfl rfl (Nat.le_of_ble_eq_true rfl) dX1_init_16 (fun H locs hP hD hS => ?_)
  have hP : va_P G vwCl (clW c0 y a1 a2 a3 xC xD xG) H := hP
  have hD : va_D A (clW c0 y a1 a2 a3 xC xD xG) := hD
  refine lv_aload_n hx hb dX1_init_19 rfl (lv_at hl 0 rfl) ?_
  refine lv_iload hx hb dX1_init_20 (lv_at hl 4 rfl) ?_
  refine va_putF (D := G) (ci := 2) (v := zi a4) (ty := .int) (C := RX1) (T := TX1) (N := 6) hx hb hts hinwsX10 tyX1 tyX1_ok nmX1 hown hK hP hD hS 0 rfl rfl 3 (by decide) (hts (.fieldLink RX1 19 "Heliokeep$Cloud" "columns" "I") (List.mem_of_getElem? (i := 7) rfl)) (fun _ h9 => h9) rfl hin rfl (by decide +kernel) rfl rfl (Nat.le_of_ble_eq_true rfl) dX1_init_22 (fun H locs hP hD hS => ?_)
  have hP : va_P G vwCl (clW c0 y a1 a2 a3 a4 xD xG) H := hP
  have hD : va_D A (clW c0 y a1 a2 a3 a4 xD xG) := hD
  refine lv_aload_n hx hb dX1_init_25 rfl (lv_at hl 0 rfl) ?_
  refine lv_iload hx hb dX1_init_26 (lv_at hl 5 rfl) ?_
  refine va_putF (D := G) (ci := 2) (v := zi a5) (ty := .int) (C := RX1) (T := TX1) (N := 6) hx hb hts hinwsX10 tyX1 tyX1_ok nmX1 hown hK hP hD hS 0 rfl rfl 4 (by decide) (hts (.fieldLink RX1 22 "Heliokeep$Cloud" "down" "I") (List.mem_of_getElem? (i := 8) rfl)) (fun _ h9 => h9) rfl hin rfl (by decide +kernel) rfl rfl (Nat.le_of_ble_eq_true rfl) dX1_init_28 (fun H locs hP hD hS => ?_)
  have hP : va_P G vwCl (clW c0 y a1 a2 a3 a4 a5 xG) H := hP
  have hD : va_D A (clW c0 y a1 a2 a3 a4 a5 xG) := hD
  refine lv_aload_n hx hb dX1_init_31 rfl (lv_at hl 0 rfl) ?_
  refine lv_iload hx hb dX1_init_32 (lv_at hl 6 rfl) ?_
  refine va_putF (D := G) (ci := 2) (v := zi a6) (ty := .int) (C := RX1) (T := TX1) (N := 6) hx hb hts hinwsX10 tyX1 tyX1_ok nmX1 hown hK hP hD hS 0 rfl rfl 5 (by decide) (hts (.fieldLink RX1 25 "Heliokeep$Cloud" "right" "I") (List.mem_of_getElem? (i := 9) rfl)) (fun _ h9 => h9) rfl hin rfl (by decide +kernel) rfl rfl (Nat.le_of_ble_eq_true rfl) dX1_init_34 (fun H locs hP hD hS => ?_)
  have hP : va_P G vwCl (clW c0 y a1 a2 a3 a4 a5 a6) H := hP
  have hD : va_D A (clW c0 y a1 a2 a3 a4 a5 a6) := hD
  exact W.vret hx hb hr (fun t ht hW => ⟨⟨(), rfl, trivial, hz_at hP ht⟩, hS.F ht⟩) hS.2.2 dX1_init_37
abbrev Q_X4_init (G : va_G) (m0 : Nat) (y : Nat → ClassId) (xC xR xK xD xA xE xO xB : Int) (ce : Int) (A : Nat → Prop) : Array Value → State → Outcome → State → Prop := va_Qv (fun (u : Unit) => True) (fun (u : Unit) t => va_P G vwCl (miW m0 y ce (ce / 8) (ce % 8) xD (-1) xE xO xB) t.heap) A
set_option maxHeartbeats 4000000 in
set_option maxRecDepth 100000 in
theorem c_X4_init (l : Launch) (G : va_G) (m0 : Nat) (y : Nat → ClassId) (sz : Nat) (xC xR xK xD xA xE xO xB : Int) (ce : Int) (h : 0 ≤ ce ∧ ce ≤ 63) : Met l yX4_init wsX4_init ({ frames := 1, cells := 0, slots := 0, locals := 12 }) (va_Pc [.ref m0, zi ce] (HPre G (tyL y) (miW m0 y xC xR xK xD xA xE xO xB) sz)) (Q_X4_init G m0 y xC xR xK xD xA xE xO xB ce (va_A (miW m0 y xC xR xK xD xA xE xO xB) sz)) 0 0 (va_A (miW m0 y xC xR xK xD xA xE xO xB) sz) := by
  refine hz_ofW (Qf := Q_X4_init G m0 y xC xR xK xD xA xE xO xB ce) (cc := cX4_init) (maxL := 2) (ret := none) (by decide) rfl (Nat.le_of_ble_eq_true rfl) ?_
  intro p e s m below meth c A ls hx hb hr hts hown hin hlocks hml hP hK hA hD hS hl
  have hown : s.vm.findClass RX4 = some m.cls := hown
  have hl : lv_has ls 2 [(0, .ref m0), (1, zi ce)] := hl
  have hinwsX40 : ∀ w ∈ wsX40, w ∈ wsX4_init := fun _ h => List.mem_cons_of_mem _ (List.mem_append_right _ (h))
  refine lv_aload_n hx hb dX4_init_0 rfl (lv_at hl 0 rfl) ?_
  refine W.objInit hx hb hown (hts (.methodLink RX4 3 objectInit) (List.mem_of_getElem? (i := 1) rfl)) (hts (.instanceMethod objectInit) (List.mem_of_getElem? (i := 2) rfl)) (hts _ (List.mem_of_getElem? (i := 3) rfl)) rfl (hl.1.trans hml.symm) rfl dX4_init_1 (Nat.le_of_ble_eq_true rfl) (Nat.le_of_ble_eq_true rfl) ?_
  refine lv_aload_n hx hb dX4_init_4 rfl (lv_at hl 0 rfl) ?_
  refine hz_iconst hx hb dX4_init_5 ?_
  refine va_put (D := G) (ci := 5) (v := zi (-1)) (ty := .int) (C := RX4) (T := TX4) (N := 8) hx hb hts hinwsX40 tyX4 tyX4_ok nmX4 hown hK hP hD hS 0 rfl rfl 4 (by decide) (hts (.fieldLink RX4 9 "Heliokeep$Mirror" "aim" "I") (List.mem_of_getElem? (i := 4) rfl)) (fun _ h9 => h9) rfl (by decide +kernel) rfl rfl (Nat.le_of_ble_eq_true rfl) dX4_init_6 (fun H locs hP hD hS => ?_)
  have hP : va_P G vwCl (miW m0 y xC xR xK xD (-1) xE xO xB) H := hP
  have hD : va_D A (miW m0 y xC xR xK xD (-1) xE xO xB) := hD
  refine lv_aload_n hx hb dX4_init_9 rfl (lv_at hl 0 rfl) ?_
  refine lv_iload_n hx hb dX4_init_10 rfl (lv_at hl 1 rfl) ?_
  refine va_putF (D := G) (ci := 5) (v := zi ce) (ty := .int) (C := RX4) (T := TX4) (N := 8) hx hb hts hinwsX40 tyX4 tyX4_ok nmX4 hown hK hP hD hS 0 rfl rfl 0 (by decide) (hts (.fieldLink RX4 15 "Heliokeep$Mirror" "cell" "I") (List.mem_of_getElem? (i := 5) rfl)) (fun _ h9 => h9) rfl hin rfl (by decide +kernel) rfl rfl (Nat.le_of_ble_eq_true rfl) dX4_init_11 (fun H locs hP hD hS => ?_)
  have hP : va_P G vwCl (miW m0 y ce xR xK xD (-1) xE xO xB) H := hP
  have hD : va_D A (miW m0 y ce xR xK xD (-1) xE xO xB) := hD
  refine lv_aload_n hx hb dX4_init_14 rfl (lv_at hl 0 rfl) ?_
  refine lv_iload_n hx hb dX4_init_15 rfl (lv_at hl 1 rfl) ?_
  refine hz_bipush hx hb dX4_init_16 (by decide) ?_
  refine hz_idiv hx hb dX4_init_18 (by omega) ?_
  refine va_putF (D := G) (ci := 5) (v := zi (ce / 8)) (ty := .int) (C := RX4) (T := TX4) (N := 8) hx hb hts hinwsX40 tyX4 tyX4_ok nmX4 hown hK hP hD hS 0 rfl rfl 1 (by decide) (hts (.fieldLink RX4 18 "Heliokeep$Mirror" "row" "I") (List.mem_of_getElem? (i := 6) rfl)) (fun _ h9 => h9) rfl hin rfl (by decide +kernel) rfl rfl (Nat.le_of_ble_eq_true rfl) dX4_init_19 (fun H locs hP hD hS => ?_)
  have hP : va_P G vwCl (miW m0 y ce (ce / 8) xK xD (-1) xE xO xB) H := hP
  have hD : va_D A (miW m0 y ce (ce / 8) xK xD (-1) xE xO xB) := hD
  refine lv_aload_n hx hb dX4_init_22 rfl (lv_at hl 0 rfl) ?_
  refine lv_iload_n hx hb dX4_init_23 rfl (lv_at hl 1 rfl) ?_
  refine hz_bipush hx hb dX4_init_24 (by decide) ?_
  refine hz_irem hx hb dX4_init_26 (by omega) ?_
  refine va_putF (D := G) (ci := 5) (v := zi (ce % 8)) (ty := .int) (C := RX4) (T := TX4) (N := 8) hx hb hts hinwsX40 tyX4 tyX4_ok nmX4 hown hK hP hD hS 0 rfl rfl 2 (by decide) (hts (.fieldLink RX4 21 "Heliokeep$Mirror" "column" "I") (List.mem_of_getElem? (i := 7) rfl)) (fun _ h9 => h9) rfl hin rfl (by decide +kernel) rfl rfl (Nat.le_of_ble_eq_true rfl) dX4_init_27 (fun H locs hP hD hS => ?_)
  have hP : va_P G vwCl (miW m0 y ce (ce / 8) (ce % 8) xD (-1) xE xO xB) H := hP
  have hD : va_D A (miW m0 y ce (ce / 8) (ce % 8) xD (-1) xE xO xB) := hD
  exact W.vret hx hb hr (fun t ht hW => ⟨⟨(), rfl, trivial, hz_at hP ht⟩, hS.F ht⟩) hS.2.2 dX4_init_30
abbrev Q_X5_init (G : va_G) (p0 : Nat) (y : Nat → ClassId) (xP xG xT xW : Int)  (A : Nat → Prop) : Array Value → State → Outcome → State → Prop := va_Qv (fun (u : Unit) => True) (fun (u : Unit) t => va_P G vwCl (ppW p0 y 0 xG xT xW) t.heap) A
set_option maxHeartbeats 4000000 in
set_option maxRecDepth 100000 in
theorem c_X5_init (l : Launch) (G : va_G) (p0 : Nat) (y : Nat → ClassId) (sz : Nat) (xP xG xT xW : Int)   : Met l yX5_init wsX5_init ({ frames := 1, cells := 0, slots := 0, locals := 12 }) (va_Pc [.ref p0] (HPre G (tyL y) (ppW p0 y xP xG xT xW) sz)) (Q_X5_init G p0 y xP xG xT xW (va_A (ppW p0 y xP xG xT xW) sz)) 0 0 (va_A (ppW p0 y xP xG xT xW) sz) := by
  refine hz_ofW (Qf := Q_X5_init G p0 y xP xG xT xW) (cc := cX5_init) (maxL := 1) (ret := none) (by decide) rfl (Nat.le_of_ble_eq_true rfl) ?_
  intro p e s m below meth c A ls hx hb hr hts hown hin hlocks hml hP hK hA hD hS hl
  have hown : s.vm.findClass RX5 = some m.cls := hown
  have hl : lv_has ls 1 [(0, .ref p0)] := hl
  have hinwsX50 : ∀ w ∈ wsX50, w ∈ wsX5_init := fun _ h => List.mem_cons_of_mem _ (List.mem_append_right _ (h))
  refine lv_aload_n hx hb dX5_init_0 rfl (lv_at hl 0 rfl) ?_
  refine W.objInit hx hb hown (hts (.methodLink RX5 3 objectInit) (List.mem_of_getElem? (i := 1) rfl)) (hts (.instanceMethod objectInit) (List.mem_of_getElem? (i := 2) rfl)) (hts _ (List.mem_of_getElem? (i := 3) rfl)) rfl (hl.1.trans hml.symm) rfl dX5_init_1 (Nat.le_of_ble_eq_true rfl) (Nat.le_of_ble_eq_true rfl) ?_
  refine lv_aload_n hx hb dX5_init_4 rfl (lv_at hl 0 rfl) ?_
  refine hz_iconst hx hb dX5_init_5 ?_
  refine va_put (D := G) (ci := 6) (v := zi 0) (ty := .int) (C := RX5) (T := TX5) (N := 4) hx hb hts hinwsX50 tyX5 tyX5_ok nmX5 hown hK hP hD hS 0 rfl rfl 0 (by decide) (hts (.fieldLink RX5 9 "Heliokeep$Pipe" "state" "I") (List.mem_of_getElem? (i := 4) rfl)) (fun _ h9 => h9) rfl (by decide +kernel) rfl rfl (Nat.le_of_ble_eq_true rfl) dX5_init_6 (fun H locs hP hD hS => ?_)
  have hP : va_P G vwCl (ppW p0 y 0 xG xT xW) H := hP
  have hD : va_D A (ppW p0 y 0 xG xT xW) := hD
  exact W.vret hx hb hr (fun t ht hW => ⟨⟨(), rfl, trivial, hz_at hP ht⟩, hS.F ht⟩) hS.2.2 dX5_init_9
abbrev Q_X6_init (G : va_G) (t0 : Nat) (y : Nat → ClassId) (xB xL xF : Int)  (A : Nat → Prop) : Array Value → State → Outcome → State → Prop := va_Qv (fun (u : Unit) => True) (fun (u : Unit) t => va_P G vwCl (tbW t0 y 0 xL xF) t.heap) A
set_option maxHeartbeats 4000000 in
set_option maxRecDepth 100000 in
theorem c_X6_init (l : Launch) (G : va_G) (t0 : Nat) (y : Nat → ClassId) (sz : Nat) (xB xL xF : Int)   : Met l yX6_init wsX6_init ({ frames := 1, cells := 0, slots := 0, locals := 12 }) (va_Pc [.ref t0] (HPre G (tyL y) (tbW t0 y xB xL xF) sz)) (Q_X6_init G t0 y xB xL xF (va_A (tbW t0 y xB xL xF) sz)) 0 0 (va_A (tbW t0 y xB xL xF) sz) := by
  refine hz_ofW (Qf := Q_X6_init G t0 y xB xL xF) (cc := cX6_init) (maxL := 1) (ret := none) (by decide) rfl (Nat.le_of_ble_eq_true rfl) ?_
  intro p e s m below meth c A ls hx hb hr hts hown hin hlocks hml hP hK hA hD hS hl
  have hown : s.vm.findClass RX6 = some m.cls := hown
  have hl : lv_has ls 1 [(0, .ref t0)] := hl
  have hinwsX60 : ∀ w ∈ wsX60, w ∈ wsX6_init := fun _ h => List.mem_cons_of_mem _ (List.mem_append_right _ (h))
  refine lv_aload_n hx hb dX6_init_0 rfl (lv_at hl 0 rfl) ?_
  refine W.objInit hx hb hown (hts (.methodLink RX6 3 objectInit) (List.mem_of_getElem? (i := 1) rfl)) (hts (.instanceMethod objectInit) (List.mem_of_getElem? (i := 2) rfl)) (hts _ (List.mem_of_getElem? (i := 3) rfl)) rfl (hl.1.trans hml.symm) rfl dX6_init_1 (Nat.le_of_ble_eq_true rfl) (Nat.le_of_ble_eq_true rfl) ?_
  refine lv_aload_n hx hb dX6_init_4 rfl (lv_at hl 0 rfl) ?_
  refine hz_iconst hx hb dX6_init_5 ?_
  refine va_put (D := G) (ci := 7) (v := zi 0) (ty := .int) (C := RX6) (T := TX6) (N := 3) hx hb hts hinwsX60 tyX6 tyX6_ok nmX6 hown hK hP hD hS 0 rfl rfl 0 (by decide) (hts (.fieldLink RX6 9 "Heliokeep$Turbine" "state" "I") (List.mem_of_getElem? (i := 4) rfl)) (fun _ h9 => h9) rfl (by decide +kernel) rfl rfl (Nat.le_of_ble_eq_true rfl) dX6_init_6 (fun H locs hP hD hS => ?_)
  have hP : va_P G vwCl (tbW t0 y 0 xL xF) H := hP
  have hD : va_D A (tbW t0 y 0 xL xF) := hD
  exact W.vret hx hb hr (fun t ht hW => ⟨⟨(), rfl, trivial, hz_at hP ht⟩, hS.F ht⟩) hS.2.2 dX6_init_9
