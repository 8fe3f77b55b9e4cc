/-! the class: lists, and the field -/
section HE
variable {p : Program} {l : Launch} {e : Env} {R : Room} {s : State} {m : MethodId} {args : Array Value} {below : List Frame} {meth : Method} {c : Code} {H : Heap} {locs : List Loc} {cells slots : Nat} {Q : State → Prop} {pc : Nat} {ls : Array Slot} {rest : List Value}
theorem hz_tope {z z2 : Int} (h : z = z2) (kk : W p l e R s m args below meth c H locs cells slots Q (F0 m pc ls (zi z2 :: rest))) : W p l e R s m args below meth c H locs cells slots Q (F0 m pc ls (zi z :: rest)) := by
  rw [h]
  exact kk
end HE
theorem bz_0m {set : Int} {aim err cor rays : Int → Int} {q k : Int} (h : memZ set k = 1) : bzZ set aim err cor rays q k = 0 := by unfold bzZ; exact if_pos h
theorem bz_0a {set : Int} {aim err cor rays : Int → Int} {q k : Int} (h : aim k = -1) : bzZ set aim err cor rays q k = 0 := by
  unfold bzZ ctZ
  rw [if_pos h]
  split <;> rfl
theorem bz_1 {set : Int} {aim err cor rays : Int → Int} {q k : Int} (h : ¬ memZ set k = 1) (h2 : ¬ aim k = -1) : bzZ set aim err cor rays q k = raZ (aim k + (err k - cor k)) (rays k) q := by
  unfold bzZ ctZ plZ
  rw [if_neg h, if_neg h2]
  rw [show aim k + err k - cor k + (if k = -1 then 0 else 0) = aim k + (err k - cor k) from by omega]
/-- the same, what goes by the panels -/
def bmZ (set : Int) (aim err cor rays : Int → Int) (k : Int) : Int := if memZ set k = 1 then 0 else mtZ aim err cor rays (-1) 0 k
def byZ (set n : Int) (aim err cor rays : Int → Int) : Int := smZ (bmZ set aim err cor rays) n.toNat
theorem bm_0m {set : Int} {aim err cor rays : Int → Int} {k : Int} (h : memZ set k = 1) : bmZ set aim err cor rays k = 0 := by unfold bmZ; exact if_pos h
theorem bm_0a {set : Int} {aim err cor rays : Int → Int} {k : Int} (h : aim k = -1) : bmZ set aim err cor rays k = 0 := by
  unfold bmZ mtZ
  rw [if_pos h]
  split <;> rfl
theorem bm_1 {set : Int} {aim err cor rays : Int → Int} {k : Int} (h : ¬ memZ set k = 1) (h2 : ¬ aim k = -1) : bmZ set aim err cor rays k = rmZ (aim k + (err k - cor k)) (rays k) := by
  unfold bmZ mtZ plZ
  rw [if_neg h, if_neg h2]
  rw [show aim k + err k - cor k + (if k = -1 then 0 else 0) = aim k + (err k - cor k) from by omega]
theorem mem0 (k : Int) : ¬ memZ 0 k = 1 := by
  unfold memZ
  rw [Int.zero_ediv]
  decide
theorem ba_0 {n : Int} {aim err cor rays : Int → Int} {q : Int} : baZ 0 n aim err cor rays q = flZ n aim err cor rays (-1) 0 q := by
  unfold baZ flZ
  congr 1
  funext k
  unfold bzZ
  exact if_neg (mem0 k)
theorem by_0 {n : Int} {aim err cor rays : Int → Int} : byZ 0 n aim err cor rays = msZ n aim err cor rays (-1) 0 := by
  unfold byZ msZ
  congr 1
  funext k
  unfold bmZ
  exact if_neg (mem0 k)
def ddZ (now : Int) (a : Int → Int) (k : Int) : Int → Int := if (now + 1) % 24 = 0 then diZ a k else a
theorem ddZ_0 {now : Int} {a : Int → Int} : ddZ now a 0 = a := by
  unfold ddZ
  rw [diZ_0]
  split <;> rfl
theorem ddZ_rng {now : Int} {a : Int → Int} {j : Int} (h : ∀ k : Int, 0 ≤ a k ∧ a k ≤ 9) : ∀ k : Int, 0 ≤ ddZ now a j k ∧ ddZ now a j k ≤ 9 := by
  unfold ddZ
  split
  · exact diZ_rng h
  · exact h
theorem ddZ_s {now : Int} {a : Int → Int} {k : Int} (hk : 0 ≤ k) (hn : 0 ≤ now) (h : ∀ k : Int, 0 ≤ a k ∧ a k ≤ 9) : upZ (ddZ now a k) k (hdZ (ddZ now a k k + ((now + 1) / 24 - now / 24)) 0 9) = ddZ now a (k + 1) := by
  unfold ddZ
  by_cases q : (now + 1) % 24 = 0
  · rw [if_pos q, if_pos q, show (now + 1) / 24 - now / 24 = 1 from by omega]
    exact diZ_s hk
  · rw [if_neg q, if_neg q, show (now + 1) / 24 - now / 24 = 0 from by omega]
    funext i
    by_cases e : i = k
    · rw [upZ_s e, e]
      have := h k
      unfold hdZ
      omega
    · rw [upZ_n e]
theorem upZ_id {f : Int → Int} {k : Int} : upZ f k (f k) = f := by
  funext i
  by_cases e : i = k
  · rw [upZ_s e, e]
  · rw [upZ_n e]
theorem hz_is1 {ws : va_W} {i : Nat} {q : Nat × va_E} (h : ws[i]? = some q) : [i].map (fun i => ws[i]?) = [q].map some := congrArg (fun x => [x]) h
def liW (a0 : Nat) (xm : Value) (xl : Value) (y : Nat → ClassId) (xN : Int) : va_W := [(a0, .inr (0, [xm, xl, zi xN]))]
def glW (a0 : Nat) (e0 : Nat) (xm : Value) (cap : Nat) (fo : Nat → Option Nat) (y : Nat → ClassId) (xN : Int) : va_W := [(a0, .inr (0, [xm, .ref (e0), zi xN])), (e0, .inl (y 3, cap, .inr (.inr (.inr (.inr fo)))))]
set_option maxHeartbeats 4000000 in
set_option maxRecDepth 100000 in
theorem c_Jx4a65c_size_8abf5 (l : Launch) (G : va_G) (a0 : Nat) (xm : Value) (xl : Value) (y : Nat → ClassId) (xN : Int)   : Met l yJx4a65c_size_8abf5 wsJx4a65c_size_8abf5 ({ frames := 0, cells := 0, slots := 0, locals := 0 }) (va_Pc [.ref a0] (HPr G (tyL y) (liW a0 xm xl y xN))) (vp_Si (fun r => r = zI (xN))) 0 0 (fun _ => False) := by
  refine hz_ofR (cc := cJx4a65c_size_8abf5) (maxL := 1) (ret := (some .int)) (by decide) rfl (Nat.le_of_ble_eq_true rfl) ?_
  intro p e s m below meth c ls hx hb hr hts hown hlocks hml hP hK hl
  have hown : s.vm.findClass RJx4a65c = some m.cls := hown
  have hl : lv_has ls 1 [(0, .ref a0)] := hl
  have hinwsJx4a65c0 : ∀ w ∈ wsJx4a65c0, w ∈ wsJx4a65c_size_8abf5 := fun _ h => List.mem_cons_of_mem _ (List.mem_append_right _ (h))
  refine lv_aload_n hx hb dJx4a65c_size_8abf5_0 rfl (lv_at hl 0 rfl) ?_
  refine va_get (D := G) (ci := 0) (v := zi xN) (C := RJx4a65c) (T := TJx4a65c) (N := 3) hx hb hts hinwsJx4a65c0 hown hK hP 0 rfl rfl 2 (by decide) (hts (.fieldLink RJx4a65c 48 "java/util/ArrayList" "size" "I") (List.mem_of_getElem? (i := 1) rfl)) (fun _ h9 => h9) rfl dJx4a65c_size_8abf5_1 ?_
  exact W.iret (v := zI xN) hx hb hr (fun t ht hW => ⟨zI xN, rfl, congrArg zI (rfl), ht⟩) (fun q hq => absurd hq List.not_mem_nil) dJx4a65c_size_8abf5_4
theorem c_J3_checkIndex_8e157 (l : Launch) (i : Int) (n : Int) (hi : 0 ≤ i ∧ i < n) (hn : n ≤ 1000) : Met l yJ3_checkIndex_8e157 wsJ3_checkIndex_8e157 ({ frames := 0, cells := 0, slots := 0, locals := 0 }) (va_Pc [zi i, zi n, .null] (fun _ => True)) (vp_Si (fun r => r = zI (i))) 0 0 (fun _ => False) := by
  refine hz_ofS (cc := cJ3_checkIndex_8e157) (maxL := 3) (ret := (some .int)) (by decide) rfl (Nat.le_of_ble_eq_true rfl) ?_
  intro p e s m below meth c ls hx hb hr hts hown hlocks hml hl
  have hown : s.vm.findClass RJ3 = some m.cls := hown
  have hl : lv_has ls 3 [(0, zi i), (1, zi n), (2, .null)] := hl
  refine lv_iload_n hx hb dJ3_checkIndex_8e157_0 rfl (lv_at hl 0 rfl) ?_
  refine hz_if_lt (tgt := 9) hx hb dJ3_checkIndex_8e157_1 (by decide) (by omega) (fun q => absurd q (by omega)) (fun c1 => ?_)
  refine lv_iload_n hx hb dJ3_checkIndex_8e157_4 rfl (lv_at hl 0 rfl) ?_
  refine lv_iload_n hx hb dJ3_checkIndex_8e157_5 rfl (lv_at hl 1 rfl) ?_
  refine hz_icmp_lt (tgt := 16) hx hb dJ3_checkIndex_8e157_6 (by decide) (by omega) (fun c2 => ?_) (fun q => absurd q (by omega))
  refine lv_iload_n hx hb dJ3_checkIndex_8e157_16 rfl (lv_at hl 0 rfl) ?_
  exact W.iret (v := zI i) hx hb hr (fun t ht hW => ⟨zI i, rfl, congrArg zI (rfl), ht⟩) (fun q hq => absurd hq List.not_mem_nil) dJ3_checkIndex_8e157_17
theorem c_J15_checkIndex_7cf53 (l : Launch) (i : Int) (n : Int) (hi : 0 ≤ i ∧ i < n) (hn : n ≤ 1000) : Met l yJ15_checkIndex_7cf53 wsJ15_checkIndex_7cf53 ({ frames := 1, cells := 0, slots := 0, locals := 22 }) (va_Pc [zi i, zi n] (fun _ => True)) (vp_Si (fun r => r = zI (i))) 0 0 (fun _ => False) := by
  refine hz_ofS (cc := cJ15_checkIndex_7cf53) (maxL := 2) (ret := (some .int)) (by decide) rfl (Nat.le_of_ble_eq_true rfl) ?_
  intro p e s m below meth c ls hx hb hr hts hown hlocks hml hl
  have hown : s.vm.findClass RJ15 = some m.cls := hown
  have hl : lv_has ls 2 [(0, zi i), (1, zi n)] := hl
  refine lv_iload_n hx hb dJ15_checkIndex_7cf53_0 rfl (lv_at hl 0 rfl) ?_
  refine lv_iload_n hx hb dJ15_checkIndex_7cf53_1 rfl (lv_at hl 1 rfl) ?_
  refine lv_null hx hb dJ15_checkIndex_7cf53_2 ?_
  refine hz_callSi (As := [zi i, zi n, .null]) (rest := []) ⟨hx, hb, hml, hown, hts⟩ (c_J3_checkIndex_8e157 l i n (by omega) (by omega)) (va_cwS 3 hts gJ15_checkIndex_7cf53_J3_checkIndex_8e157 rfl rfl rfl (by decide +kernel) ⟨Nat.le_of_ble_eq_true rfl, Nat.le_of_ble_eq_true rfl⟩) rfl hl.1 rfl (Nat.le_of_ble_eq_true rfl) dJ15_checkIndex_7cf53_3 ⟨Nat.zero_le _, Nat.zero_le _⟩ ?_
  exact W.iret (v := zI i) hx hb hr (fun t ht hW => ⟨zI i, rfl, congrArg zI (rfl), ht⟩) (fun q hq => absurd hq List.not_mem_nil) dJ15_checkIndex_7cf53_6
set_option maxHeartbeats 4000000 in
set_option maxRecDepth 100000 in
theorem c_Jx4a65c_elementData_915e3 (l : Launch) (G : va_G) (a0 : Nat) (e0 : Nat) (xm : Value) (cap : Nat) (fo : Nat → Option Nat) (y : Nat → ClassId) (xN : Int) (i : Int) (x : Nat) (hi : 0 ≤ i ∧ i < xN) (hc : xN ≤ cap ∧ cap ≤ 1000) (hf : fo i.toNat = some x) : Met l yJx4a65c_elementData_915e3 wsJx4a65c_elementData_915e3 ({ frames := 0, cells := 0, slots := 0, locals := 0 }) (va_Pc [.ref a0, zi i] (HPr G (tyL y) (glW a0 e0 xm cap fo y xN))) (va_Sr (fun k => k = x) (fun k => .ref k)) 0 0 (fun _ => False) := by
  refine hz_ofR (cc := cJx4a65c_elementData_915e3) (maxL := 2) (ret := (some (.object "java/lang/Object"))) (by decide) rfl (Nat.le_of_ble_eq_true rfl) ?_
  intro p e s m below meth c ls hx hb hr hts hown hlocks hml hP hK hl
  have hown : s.vm.findClass RJx4a65c = some m.cls := hown
  have hl : lv_has ls 2 [(0, .ref a0), (1, zi i)] := hl
  have hinwsJx4a65c0 : ∀ w ∈ wsJx4a65c0, w ∈ wsJx4a65c_elementData_915e3 := fun _ h => List.mem_cons_of_mem _ (List.mem_append_right _ (h))
  refine lv_aload_n hx hb dJx4a65c_elementData_915e3_0 rfl (lv_at hl 0 rfl) ?_
  refine va_get (D := G) (ci := 0) (v := .ref e0) (C := RJx4a65c) (T := TJx4a65c) (N := 3) hx hb hts hinwsJx4a65c0 hown hK hP 0 rfl rfl 1 (by decide) (hts (.fieldLink RJx4a65c 9 "java/util/ArrayList" "elementData" "[Ljava/lang/Object;") (List.mem_of_getElem? (i := 1) rfl)) (fun _ h9 => h9) rfl dJx4a65c_elementData_915e3_1 ?_
  refine lv_iload_n hx hb dJx4a65c_elementData_915e3_4 rfl (lv_at hl 1 rfl) ?_
  refine hz_aald hx hb hK hP 1 3 rfl rfl (by omega) (by omega) hf dJx4a65c_elementData_915e3_5 ?_
  exact W.aret (v := .ref x) (rt := (.object "java/lang/Object")) hx hb hr (Or.inl ⟨_, rfl⟩) (Or.inr ⟨_, rfl⟩) (fun t ht hW => ⟨x, rfl, rfl, ht⟩) (fun q hq => absurd hq List.not_mem_nil) dJx4a65c_elementData_915e3_6
set_option maxHeartbeats 4000000 in
set_option maxRecDepth 100000 in
theorem c_Jx4a65c_get_915e3 (l : Launch) (G : va_G) (a0 : Nat) (e0 : Nat) (xm : Value) (cap : Nat) (fo : Nat → Option Nat) (y : Nat → ClassId) (xN : Int) (i : Int) (x : Nat) (hi : 0 ≤ i ∧ i < xN) (hc : xN ≤ cap ∧ cap ≤ 1000) (hf : fo i.toNat = some x) : Met l yJx4a65c_get_915e3 wsJx4a65c_get_915e3 ({ frames := 2, cells := 0, slots := 0, locals := 43 }) (va_Pc [.ref a0, zi i] (HPr G (tyL y) (glW a0 e0 xm cap fo y xN))) (va_Sr (fun k => k = x) (fun k => .ref k)) 0 0 (fun _ => False) := by
  refine hz_ofR (cc := cJx4a65c_get_915e3) (maxL := 2) (ret := (some (.object "java/lang/Object"))) (by decide) rfl (Nat.le_of_ble_eq_true rfl) ?_
  intro p e s m below meth c ls hx hb hr hts hown hlocks hml hP hK hl
  have hown : s.vm.findClass RJx4a65c = some m.cls := hown
  have hl : lv_has ls 2 [(0, .ref a0), (1, zi i)] := hl
  have hinwsJx4a65c0 : ∀ w ∈ wsJx4a65c0, w ∈ wsJx4a65c_get_915e3 := fun _ h => List.mem_cons_of_mem _ (List.mem_append_right _ (h))
  refine lv_iload_n hx hb dJx4a65c_get_915e3_0 rfl (lv_at hl 1 rfl) ?_
  refine lv_aload_n hx hb dJx4a65c_get_915e3_1 rfl (lv_at hl 0 rfl) ?_
  refine va_get (D := G) (ci := 0) (v := zi xN) (C := RJx4a65c) (T := TJx4a65c) (N := 3) hx hb hts hinwsJx4a65c0 hown hK hP 0 rfl rfl 2 (by decide) (hts (.fieldLink RJx4a65c 48 "java/util/ArrayList" "size" "I") (List.mem_of_getElem? (i := 1) rfl)) (fun _ h9 => h9) rfl dJx4a65c_get_915e3_2 ?_
  refine hz_callSi (As := [zi i, zi xN]) (rest := []) ⟨hx, hb, hml, hown, hts⟩ (c_J15_checkIndex_7cf53 l i xN (by omega) (by omega)) (va_cwS 2 hts gJx4a65c_get_915e3_J15_checkIndex_7cf53 rfl rfl rfl (by decide +kernel) ⟨Nat.le_of_ble_eq_true rfl, Nat.le_of_ble_eq_true rfl⟩) rfl hl.1 rfl (Nat.le_of_ble_eq_true rfl) dJx4a65c_get_915e3_5 ⟨Nat.zero_le _, Nat.zero_le _⟩ ?_
  refine lv_pop hx hb dJx4a65c_get_915e3_8 rfl ?_
  refine lv_aload_n hx hb dJx4a65c_get_915e3_9 rfl (lv_at hl 0 rfl) ?_
  refine lv_iload_n hx hb dJx4a65c_get_915e3_10 rfl (lv_at hl 1 rfl) ?_
  refine hz_callRq (As := [zi i]) (rest := []) ⟨hx, hb, hml, hown, hts⟩ (c_Jx4a65c_elementData_915e3 l G a0 e0 xm cap fo y xN i x (by omega) (by omega) hf) (cwV 1 hts gJx4a65c_get_915e3_Jx4a65c_elementData_915e3 rfl rfl rfl (by decide +kernel) ⟨Nat.le_of_ble_eq_true rfl, Nat.le_of_ble_eq_true rfl⟩) hP hK 0 0 rfl rfl rfl rfl hl.1 rfl (Nat.le_of_ble_eq_true rfl) dJx4a65c_get_915e3_11 ⟨Nat.zero_le _, Nat.zero_le _⟩ ?_
  exact W.aret (v := .ref x) (rt := (.object "java/lang/Object")) hx hb hr (Or.inl ⟨_, rfl⟩) (Or.inr ⟨_, rfl⟩) (fun t ht hW => ⟨x, rfl, rfl, ht⟩) (fun q hq => absurd hq List.not_mem_nil) dJx4a65c_get_915e3_14
set_option maxHeartbeats 4000000 in
set_option maxRecDepth 100000 in
theorem c_X2_isTaken (l : Launch) (G : va_G) (ah : Nat → Nat) (z : LZ) (zE : Nat) (y : Nat → ClassId) (vN vC vNow vHaze vCold vHot vPipe vDeg vThaw vTrc vTurb vLeft vLoad vWater vTrips vMi1 vMi2 vSz vBs : Int) (vCell vDirt vAim vErr vCor vBrk vTop vLm vRows vCols vDown vRight vBound vStrain vPrice vFirm vSums vTk vFl1 vFl2 vTe vAw vRo vBe : Int → Int) (cx : Int) (hTk : ∀ j9 : Int, 0 ≤ j9 → j9 < 64 → vTk j9 = ocZ vN vCell j9) (rcx : -2147483648 ≤ cx ∧ cx < 2147483648) : Met l yX2_isTaken wsX2_isTaken ({ frames := 0, cells := 0, slots := 0, locals := 0 }) (va_Pc [.ref (ah 1), zi cx] (HPrG zE G (tyL y) (hW ah z y vN vC vNow vHaze vCold vHot vPipe vDeg vThaw vTrc vTurb vLeft vLoad vWater vTrips vMi1 vMi2 vSz vBs vCell vDirt vAim vErr vCor vBrk vTop vLm vRows vCols vDown vRight vBound vStrain vPrice vFirm vSums vTk vFl1 vFl2 vTe vAw vRo vBe))) (vp_Si (fun r => r = zI ((if 0 ≤ cx ∧ cx ≤ 63 then ocZ vN vCell cx else 0)))) 0 0 (fun _ => False) := by
  refine hz_ofRG (cc := cX2_isTaken) (maxL := 2) (ret := (some .boolean)) (by decide) rfl (Nat.le_of_ble_eq_true rfl) ?_
  intro p e s m below meth c A ls hA0 hx hb hr hts hown hlocks hml hP hK hS hGP hl
  have hown : s.vm.findClass RX2 = some m.cls := hown
  have hl : lv_has ls 2 [(0, .ref (ah 1)), (1, zi cx)] := hl
  have hinwsX20 : ∀ w ∈ wsX20, w ∈ wsX2_isTaken := fun _ h => List.mem_cons_of_mem _ (List.mem_append_right _ (h))
  refine lv_iload_n hx hb dX2_isTaken_0 rfl (lv_at hl 1 rfl) ?_
  refine hz_if_lt (tgt := 26) hx hb dX2_isTaken_1 (by decide) (by omega) (fun c1 => ?_) (fun c1 => ?_)
  · refine hz_iconst hx hb dX2_isTaken_26 ?_
    exact W.zret (ty := .boolean) (v := zI 0) hx hb hr (zI_nb (by omega)) (fun t ht hW => ⟨zI 0, rfl, congrArg zI (by omega), ht⟩) (fun q hq => absurd hq List.not_mem_nil) dX2_isTaken_27
  · refine lv_iload_n hx hb dX2_isTaken_4 rfl (lv_at hl 1 rfl) ?_
    refine lv_aload_n hx hb dX2_isTaken_5 rfl (lv_at hl 0 rfl) ?_
    refine va_get (D := G) (ci := 3) (v := .ref (ah 11)) (C := RX2) (T := TX2) (N := 5) hx hb hts hinwsX20 hown hK hP 1 rfl rfl 2 (by decide) (hts (.fieldLink RX2 21 "Heliokeep$Field" "taken" "[Z") (List.mem_of_getElem? (i := 1) rfl)) (fun _ h9 => h9) rfl dX2_isTaken_6 ?_
    refine va_alen (v := zI 64) hx hb hK hP 11 2 rfl rfl rfl dX2_isTaken_9 ?_
    refine hz_icmp_ge (tgt := 26) hx hb dX2_isTaken_10 (by decide) (by omega) (fun c2 => ?_) (fun c2 => ?_)
    · refine hz_iconst hx hb dX2_isTaken_26 ?_
      exact W.zret (ty := .boolean) (v := zI 0) hx hb hr (zI_nb (by omega)) (fun t ht hW => ⟨zI 0, rfl, congrArg zI (by omega), ht⟩) (fun q hq => absurd hq List.not_mem_nil) dX2_isTaken_27
    · refine lv_aload_n hx hb dX2_isTaken_13 rfl (lv_at hl 0 rfl) ?_
      refine va_get (D := G) (ci := 3) (v := .ref (ah 11)) (C := RX2) (T := TX2) (N := 5) hx hb hts hinwsX20 hown hK hP 1 rfl rfl 2 (by decide) (hts (.fieldLink RX2 21 "Heliokeep$Field" "taken" "[Z") (List.mem_of_getElem? (i := 1) rfl)) (fun _ h9 => h9) rfl dX2_isTaken_14 ?_
      refine lv_iload_n hx hb dX2_isTaken_17 rfl (lv_at hl 1 rfl) ?_
      have qt := hTk cx (by omega) (by omega)
      have q01 : ocZ vN vCell cx = 0 ∨ ocZ vN vCell cx = 1 := isZ_01 _
      refine hz_zald (f := vTk) hx hb hK hP 11 2 rfl rfl (Nat.le_of_ble_eq_true rfl) (by omega) dX2_isTaken_18 ?_
      have q3 := hTk cx
      refine hz_if_eq (tgt := 26) hx hb dX2_isTaken_19 (by decide) (by omega) (fun c4 => ?_) (fun c4 => ?_)
      · refine hz_iconst hx hb dX2_isTaken_26 ?_
        exact W.zret (ty := .boolean) (v := zI 0) hx hb hr (zI_nb (by omega)) (fun t ht hW => ⟨zI 0, rfl, congrArg zI (by omega), ht⟩) (fun q hq => absurd hq List.not_mem_nil) dX2_isTaken_27
      · refine hz_iconst hx hb dX2_isTaken_22 ?_
        refine lv_goto (tgt := 27) hx hb dX2_isTaken_23 (by decide) ?_
        exact W.zret (ty := .boolean) (v := zI 1) hx hb hr (zI_nb (by omega)) (fun t ht hW => ⟨zI 1, rfl, congrArg zI (by omega), ht⟩) (fun q hq => absurd hq List.not_mem_nil) dX2_isTaken_27
set_option maxHeartbeats 4000000 in
set_option maxRecDepth 100000 in
theorem c_X2_hourBehind (l : Launch) (G : va_G) (ah : Nat → Nat) (z : LZ) (zE : Nat) (y : Nat → ClassId) (vN vC vNow vHaze vCold vHot vPipe vDeg vThaw vTrc vTurb vLeft vLoad vWater vTrips vMi1 vMi2 vSz vBs : Int) (vCell vDirt vAim vErr vCor vBrk vTop vLm vRows vCols vDown vRight vBound vStrain vPrice vFirm vSums vTk vFl1 vFl2 vTe vAw vRo vBe : Int → Int) (tt : Int) (hNow : 0 ≤ vNow ∧ vNow ≤ 9999) (ht : 0 ≤ tt ∧ tt ≤ 24) : Met l yX2_hourBehind wsX2_hourBehind ({ frames := 0, cells := 0, slots := 0, locals := 0 }) (va_Pc [.ref (ah 1), zi tt] (HPrG zE G (tyL y) (hW ah z y vN vC vNow vHaze vCold vHot vPipe vDeg vThaw vTrc vTurb vLeft vLoad vWater vTrips vMi1 vMi2 vSz vBs vCell vDirt vAim vErr vCor vBrk vTop vLm vRows vCols vDown vRight vBound vStrain vPrice vFirm vSums vTk vFl1 vFl2 vTe vAw vRo vBe))) (vp_Si (fun r => r = zI ((vNow + tt) % 24))) 0 0 (fun _ => False) := by
  refine hz_ofRG (cc := cX2_hourBehind) (maxL := 3) (ret := (some .int)) (by decide) rfl (Nat.le_of_ble_eq_true rfl) ?_
  intro p e s m below meth c A ls hA0 hx hb hr hts hown hlocks hml hP hK hS hGP hl
  have hown : s.vm.findClass RX2 = some m.cls := hown
  have hl : lv_has ls 3 [(0, .ref (ah 1)), (1, zi tt)] := hl
  have hinwsX20 : ∀ w ∈ wsX20, w ∈ wsX2_hourBehind := fun _ h => List.mem_cons_of_mem _ (List.mem_append_right _ (h))
  refine lv_aload_n hx hb dX2_hourBehind_0 rfl (lv_at hl 0 rfl) ?_
  refine va_get (D := G) (ci := 3) (v := zi vNow) (C := RX2) (T := TX2) (N := 5) hx hb hts hinwsX20 hown hK hP 1 rfl rfl 3 (by decide) (hts (.fieldLink RX2 38 "Heliokeep$Field" "tick" "I") (List.mem_of_getElem? (i := 1) rfl)) (fun _ h9 => h9) rfl dX2_hourBehind_1 ?_
  refine lv_iload_n hx hb dX2_hourBehind_4 rfl (lv_at hl 1 rfl) ?_
  refine hz_iadd hx hb dX2_hourBehind_5 ?_
  refine hz_bipush hx hb dX2_hourBehind_6 (by decide) ?_
  refine hz_irem hx hb dX2_hourBehind_8 (by omega) ?_
  refine lv_istore_n (lv' := [(2, zi ((vNow + tt) % 24)), (0, .ref (ah 1)), (1, zi tt)]) hx hb dX2_hourBehind_9 rfl hl (by decide) rfl (fun ls hl => ?_)
  refine lv_iload_n hx hb dX2_hourBehind_10 rfl (lv_at hl 0 rfl) ?_
  refine hz_if_ge (tgt := 18) hx hb dX2_hourBehind_11 (by decide) (by omega) (fun c1 => ?_) (fun c1 => ?_)
  · refine lv_iload_n hx hb dX2_hourBehind_18 rfl (lv_at hl 0 rfl) ?_
    exact W.iret (v := zI ((vNow + tt) % 24)) hx hb hr (fun t ht hW => ⟨zI ((vNow + tt) % 24), rfl, congrArg zI (by omega), ht⟩) (fun q hq => absurd hq List.not_mem_nil) dX2_hourBehind_19
  · refine hz_iconst hx hb dX2_hourBehind_14 ?_
    refine lv_goto (tgt := 19) hx hb dX2_hourBehind_15 (by decide) ?_
    exact W.iret (v := zI 0) hx hb hr (fun t ht hW => ⟨zI 0, rfl, congrArg zI (by omega), ht⟩) (fun q hq => absurd hq List.not_mem_nil) dX2_hourBehind_19
set_option maxHeartbeats 4000000 in
set_option maxRecDepth 100000 in
theorem c_X2_strengthBehind (l : Launch) (G : va_G) (ah : Nat → Nat) (z : LZ) (zE : Nat) (y : Nat → ClassId) (vN vC vNow vHaze vCold vHot vPipe vDeg vThaw vTrc vTurb vLeft vLoad vWater vTrips vMi1 vMi2 vSz vBs : Int) (vCell vDirt vAim vErr vCor vBrk vTop vLm vRows vCols vDown vRight vBound vStrain vPrice vFirm vSums vTk vFl1 vFl2 vTe vAw vRo vBe : Int → Int) (tt : Int) (hNow : 0 ≤ vNow ∧ vNow ≤ 9999) (ht : 0 ≤ tt ∧ tt ≤ 24) : Met l yX2_strengthBehind wsX2_strengthBehind ({ frames := 1, cells := 0, slots := 0, locals := 22 }) (va_Pc [.ref (ah 1), zi tt] (HPrG zE G (tyL y) (hW ah z y vN vC vNow vHaze vCold vHot vPipe vDeg vThaw vTrc vTurb vLeft vLoad vWater vTrips vMi1 vMi2 vSz vBs vCell vDirt vAim vErr vCor vBrk vTop vLm vRows vCols vDown vRight vBound vStrain vPrice vFirm vSums vTk vFl1 vFl2 vTe vAw vRo vBe))) (vp_Si (fun r => r = zI (strZ (vNow + tt)))) 0 0 (fun _ => False) := by
  refine hz_ofRG (cc := cX2_strengthBehind) (maxL := 2) (ret := (some .int)) (by decide) rfl (Nat.le_of_ble_eq_true rfl) ?_
  intro p e s m below meth c A ls hA0 hx hb hr hts hown hlocks hml hP hK hS hGP hl
  have hown : s.vm.findClass RX2 = some m.cls := hown
  have hl : lv_has ls 2 [(0, .ref (ah 1)), (1, zi tt)] := hl
  have hinwsX20 : ∀ w ∈ wsX20, w ∈ wsX2_strengthBehind := fun _ h => List.mem_cons_of_mem _ (List.mem_append_right _ (h))
  obtain ⟨tS, hZs, hTs⟩ := hGP.2.1
  refine va_getsN (ref := "Heliokeep") (host := "Heliokeep") hx hb hZs hS hown (va_Nw.use rfl (hGP.1 (.fieldLinkNest "Heliokeep$Field" 42 "Heliokeep" "STRENGTHS" "[I" "Heliokeep") (by decide +kernel))) (fun _ h9 => h9) dX2_strengthBehind_0 ?_
  refine lv_aload_n hx hb dX2_strengthBehind_3 rfl (lv_at hl 0 rfl) ?_
  refine lv_iload_n hx hb dX2_strengthBehind_4 rfl (lv_at hl 1 rfl) ?_
  refine hz_callRiG (As := [zi tt]) (rest := [.ref tS]) ⟨hx, hb, hml, hown, hts⟩ (c_X2_hourBehind l G ah z zE y vN vC vNow vHaze vCold vHot vPipe vDeg vThaw vTrc vTurb vLeft vLoad vWater vTrips vMi1 vMi2 vSz vBs vCell vDirt vAim vErr vCor vBrk vTop vLm vRows vCols vDown vRight vBound vStrain vPrice vFirm vSums vTk vFl1 vFl2 vTe vAw vRo vBe tt hNow (by omega)) (cwV 1 hts gX2_strengthBehind_X2_hourBehind rfl rfl rfl (by decide +kernel) ⟨Nat.le_of_ble_eq_true rfl, Nat.le_of_ble_eq_true rfl⟩) hP hK hS hGP 1 3 rfl rfl rfl rfl hl.1 rfl (Nat.le_of_ble_eq_true rfl) dX2_strengthBehind_5 ⟨Nat.zero_le _, Nat.zero_le _⟩ ?_
  refine hz_str hx hb hTs hS (by omega) dX2_strengthBehind_8 ?_
  exact W.iret (v := zI (strZ ((vNow + tt) % 24))) hx hb hr (fun t ht hW => ⟨zI (strZ ((vNow + tt) % 24)), rfl, congrArg zI (strZ_mod _), ht⟩) (fun q hq => absurd hq List.not_mem_nil) dX2_strengthBehind_9
set_option maxHeartbeats 4000000 in
set_option maxRecDepth 100000 in
theorem c_X2_dirtBehind (l : Launch) (G : va_G) (ah : Nat → Nat) (z : LZ) (zE : Nat) (y : Nat → ClassId) (vN vC vNow vHaze vCold vHot vPipe vDeg vThaw vTrc vTurb vLeft vLoad vWater vTrips vMi1 vMi2 vSz vBs : Int) (vCell vDirt vAim vErr vCor vBrk vTop vLm vRows vCols vDown vRight vBound vStrain vPrice vFirm vSums vTk vFl1 vFl2 vTe vAw vRo vBe : Int → Int) (tt : Int) (k : Int) (hN : 0 ≤ vN ∧ vN ≤ 12) (hNow : 0 ≤ vNow ∧ vNow ≤ 9999) (hDirt : ∀ j9 : Int, 0 ≤ vDirt j9 ∧ vDirt j9 ≤ 9) (hk : 0 ≤ k ∧ k < vN) (ht : 0 ≤ tt ∧ tt ≤ 24) : Met l yX2_dirtBehind wsX2_dirtBehind ({ frames := 1, cells := 0, slots := 0, locals := 21 }) (va_Pc [.ref (ah 1), .ref (zam z k), zi tt] (HPrG zE G (tyL y) (hW ah z y vN vC vNow vHaze vCold vHot vPipe vDeg vThaw vTrc vTurb vLeft vLoad vWater vTrips vMi1 vMi2 vSz vBs vCell vDirt vAim vErr vCor vBrk vTop vLm vRows vCols vDown vRight vBound vStrain vPrice vFirm vSums vTk vFl1 vFl2 vTe vAw vRo vBe))) (vp_Si (fun r => r = zI (hdZ (vDirt k + ((vNow + tt) / 24 - vNow / 24)) 0 9))) 0 0 (fun _ => False) := by
  refine hz_ofRG (cc := cX2_dirtBehind) (maxL := 4) (ret := (some .int)) (by decide) rfl (Nat.le_of_ble_eq_true rfl) ?_
  intro p e s m below meth c A ls hA0 hx hb hr hts hown hlocks hml hP hK hS hGP hl
  have hown : s.vm.findClass RX2 = some m.cls := hown
  have hl : lv_has ls 4 [(0, .ref (ah 1)), (1, .ref (zam z k)), (2, zi tt)] := hl
  have hinwsX20 : ∀ w ∈ wsX20, w ∈ wsX2_dirtBehind := fun _ h => List.mem_cons_of_mem _ (List.mem_append_left _ (List.mem_append_right _ (h)))
  have hinwsX40 : ∀ w ∈ wsX40, w ∈ wsX2_dirtBehind := fun _ h => List.mem_cons_of_mem _ (List.mem_append_right _ (h))
  have qd := hDirt k
  refine lv_aload_n hx hb dX2_dirtBehind_0 rfl (lv_at hl 0 rfl) ?_
  refine va_get (D := G) (ci := 3) (v := zi vNow) (C := RX2) (T := TX2) (N := 5) hx hb hts hinwsX20 hown hK hP 1 rfl rfl 3 (by decide) (hts (.fieldLink RX2 38 "Heliokeep$Field" "tick" "I") (List.mem_of_getElem? (i := 1) rfl)) (fun _ h9 => h9) rfl dX2_dirtBehind_1 ?_
  refine lv_iload_n hx hb dX2_dirtBehind_4 rfl (lv_at hl 2 rfl) ?_
  refine hz_iadd hx hb dX2_dirtBehind_5 ?_
  refine hz_bipush hx hb dX2_dirtBehind_6 (by decide) ?_
  refine hz_idiv hx hb dX2_dirtBehind_8 (by omega) ?_
  refine lv_aload_n hx hb dX2_dirtBehind_9 rfl (lv_at hl 0 rfl) ?_
  refine va_get (D := G) (ci := 3) (v := zi vNow) (C := RX2) (T := TX2) (N := 5) hx hb hts hinwsX20 hown hK hP 1 rfl rfl 3 (by decide) (hts (.fieldLink RX2 38 "Heliokeep$Field" "tick" "I") (List.mem_of_getElem? (i := 1) rfl)) (fun _ h9 => h9) rfl dX2_dirtBehind_10 ?_
  refine hz_bipush hx hb dX2_dirtBehind_13 (by decide) ?_
  refine hz_idiv hx hb dX2_dirtBehind_15 (by omega) ?_
  refine hz_isub hx hb dX2_dirtBehind_16 ?_
  refine lv_istore_n (lv' := [(3, zi (((vNow + tt) / 24) - (vNow / 24))), (0, .ref (ah 1)), (1, .ref (zam z k)), (2, zi tt)]) hx hb dX2_dirtBehind_17 rfl hl (by decide) rfl (fun ls hl => ?_)
  refine hz_bipush hx hb dX2_dirtBehind_18 (by decide) ?_
  refine lv_aload_n hx hb dX2_dirtBehind_20 rfl (lv_at hl 2 rfl) ?_
  obtain ⟨i1, hi1, i1hd, i1ha, i1he, i1hc, i1hk⟩ := hW_m (ah := ah) (z := z) (y := y) (vN := vN) (vC := vC) (vNow := vNow) (vHaze := vHaze) (vCold := vCold) (vHot := vHot) (vPipe := vPipe) (vDeg := vDeg) (vThaw := vThaw) (vTrc := vTrc) (vTurb := vTurb) (vLeft := vLeft) (vLoad := vLoad) (vWater := vWater) (vTrips := vTrips) (vMi1 := vMi1) (vMi2 := vMi2) (vSz := vSz) (vBs := vBs) (vCell := vCell) (vDirt := vDirt) (vAim := vAim) (vErr := vErr) (vCor := vCor) (vBrk := vBrk) (vTop := vTop) (vLm := vLm) (vRows := vRows) (vCols := vCols) (vDown := vDown) (vRight := vRight) (vBound := vBound) (vStrain := vStrain) (vPrice := vPrice) (vFirm := vFirm) (vSums := vSums) (vTk := vTk) (vFl1 := vFl1) (vFl2 := vFl2) (vTe := vTe) (vAw := vAw) (vRo := vRo) (vBe := vBe) (k := k) (by omega) (by omega)
  refine va_get (D := G) (ci := 5) (v := zi (vDirt k)) (C := RX4) (T := TX4) (N := 8) hx hb hts hinwsX40 hown hK hP i1 hi1 rfl 3 (by decide) (hts (.fieldLink RX2 50 "Heliokeep$Mirror" "dirt" "I") (List.mem_of_getElem? (i := 2) rfl)) (fun _ h9 => h9) rfl dX2_dirtBehind_21 ?_
  refine lv_iload_n hx hb dX2_dirtBehind_24 rfl (lv_at hl 0 rfl) ?_
  refine hz_iadd hx hb dX2_dirtBehind_25 ?_
  refine hz_mmin hx hb (hml.trans hl.1.symm) hown (hts (.methodLink RX2 53 Lib.Math.min.name) (List.mem_of_getElem? (i := 3) rfl)) (hts (.static Lib.Math.min.name) (List.mem_of_getElem? (i := 4) rfl)) (hts (.initialized "java/lang/Math") (List.mem_of_getElem? (i := 5) rfl)) (hts (.code Lib.Math.min.name Lib.Math.min.code 2 (some .int)) (List.mem_of_getElem? (i := 6) rfl)) (Nat.le_of_ble_eq_true rfl) (Nat.le_of_ble_eq_true rfl) (Nat.le_of_ble_eq_true rfl) (Nat.le_of_ble_eq_true rfl) (by omega) dX2_dirtBehind_26 ?_
  refine hz_topi (fun z2 e3 => ?_)
  exact W.iret (v := zI z2) hx hb hr (fun t ht hW => ⟨zI z2, rfl, congrArg zI (by unfold hdZ; omega), ht⟩) (fun q hq => absurd hq List.not_mem_nil) dX2_dirtBehind_29
set_option maxHeartbeats 4000000 in
set_option maxRecDepth 100000 in
theorem c_X2_isCovered (l : Launch) (G : va_G) (ah : Nat → Nat) (z : LZ) (zE : Nat) (y : Nat → ClassId) (vN vC vNow vHaze vCold vHot vPipe vDeg vThaw vTrc vTurb vLeft vLoad vWater vTrips vMi1 vMi2 vSz vBs : Int) (vCell vDirt vAim vErr vCor vBrk vTop vLm vRows vCols vDown vRight vBound vStrain vPrice vFirm vSums vTk vFl1 vFl2 vTe vAw vRo vBe : Int → Int) (tt : Int) (k : Int) (hZ : LZok z vN vC) (hC : 0 ≤ vC ∧ vC ≤ 4) (hNow : 0 ≤ vNow ∧ vNow ≤ 9999) (hCell : ∀ j9 : Int, 0 ≤ vCell j9 ∧ vCell j9 ≤ 63) (hTop : ∀ j9 : Int, -(16 + vNow) ≤ vTop j9 ∧ vTop j9 ≤ 16 + vNow) (hLm : ∀ j9 : Int, -(16 + vNow) ≤ vLm j9 ∧ vLm j9 ≤ 16 + vNow) (hRows : ∀ j9 : Int, 0 ≤ vRows j9 ∧ vRows j9 ≤ 8) (hCols : ∀ j9 : Int, 0 ≤ vCols j9 ∧ vCols j9 ≤ 8) (hDown : ∀ j9 : Int, -1 ≤ vDown j9 ∧ vDown j9 ≤ 1) (hRight : ∀ j9 : Int, -1 ≤ vRight j9 ∧ vRight j9 ≤ 1) (hk : 0 ≤ k ∧ k < vN) (ht : 0 ≤ tt ∧ tt ≤ 24) : Met l yX2_isCovered wsX2_isCovered ({ frames := 3, cells := 0, slots := 0, locals := 64 }) (va_Pc [.ref (ah 1), .ref (zam z k), zi tt] (HPrG zE G (tyL y) (hW ah z y vN vC vNow vHaze vCold vHot vPipe vDeg vThaw vTrc vTurb vLeft vLoad vWater vTrips vMi1 vMi2 vSz vBs vCell vDirt vAim vErr vCor vBrk vTop vLm vRows vCols vDown vRight vBound vStrain vPrice vFirm vSums vTk vFl1 vFl2 vTe vAw vRo vBe))) (vp_Si (fun r => r = zI (cvZ vC vTop vLm vRows vCols vDown vRight (vCell k) tt))) 0 0 (fun _ => False) := by
  refine hz_ofRG (cc := cX2_isCovered) (maxL := 4) (ret := (some .boolean)) (by decide) rfl (Nat.le_of_ble_eq_true rfl) ?_
  intro p e s m below meth c A ls hA0 hx hb hr hts hown hlocks hml hP hK hS hGP hl
  have hown : s.vm.findClass RX2 = some m.cls := hown
  have hl : lv_has ls 4 [(0, .ref (ah 1)), (1, .ref (zam z k)), (2, zi tt)] := hl
  have hinwsJx4a65c0 : ∀ w ∈ wsJx4a65c0, w ∈ wsX2_isCovered := fun _ h => List.mem_cons_of_mem _ (List.mem_append_left _ (List.mem_append_left _ (List.mem_append_right _ (h))))
  have hinwsX10 : ∀ w ∈ wsX10, w ∈ wsX2_isCovered := fun _ h => List.mem_cons_of_mem _ (List.mem_append_right _ (h))
  have hinwsX20 : ∀ w ∈ wsX20, w ∈ wsX2_isCovered := fun _ h => List.mem_cons_of_mem _ (List.mem_append_left _ (List.mem_append_left _ (List.mem_append_left _ (List.mem_append_right _ (h)))))
  have hinwsX40 : ∀ w ∈ wsX40, w ∈ wsX2_isCovered := fun _ h => List.mem_cons_of_mem _ (List.mem_append_left _ (List.mem_append_right _ (h)))
  have qc := hCell k
  refine hz_iconst hx hb dX2_isCovered_0 ?_
  refine lv_istore_n (lv' := [(3, zi 0), (0, .ref (ah 1)), (1, .ref (zam z k)), (2, zi tt)]) hx hb dX2_isCovered_1 rfl hl (by decide) rfl (fun ls hl => ?_)
  have L2 : ∀ (n : Nat) (j : Int), (0 ≤ j ∧ j ≤ vC) → (cvZ j vTop vLm vRows vCols vDown vRight (vCell k) tt = 0) → ((vC - j).toNat) < n → ∀ ls : Array Slot, lv_has ls 4 [(0, .ref (ah 1)), (1, .ref (zam z k)), (2, zi tt), (3, zi j)] → W p l e (headSpec wsX2_isCovered ({ frames := 3, cells := 0, slots := 0, locals := 64 })).room s m ([.ref (ah 1), .ref (zam z k), zi tt] : List Value).toArray below meth c s.heap [] 0 0 (MQ below (vp_Si (fun r => r = zI (cvZ vC vTop vLm vRows vCols vDown vRight (vCell k) tt))) ([.ref (ah 1), .ref (zam z k), zi tt] : List Value).toArray s 0 0 (fun _ => False)) (F0 m 2 ls []) := by
    intro n
    induction n with
    | zero => exact fun j h_k2 h_c2 hm => absurd hm (Nat.not_lt_zero _)
    | succ n ih2 =>
      intro j h_k2 h_c2 hm2 ls hl
      refine lv_iload_n hx hb dX2_isCovered_2 rfl (lv_at hl 3 rfl) ?_
      refine lv_aload_n hx hb dX2_isCovered_3 rfl (lv_at hl 0 rfl) ?_
      refine va_get (D := G) (ci := 3) (v := .ref (ah 20)) (C := RX2) (T := TX2) (N := 5) hx hb hts hinwsX20 hown hK hP 1 rfl rfl 1 (by decide) (hts (.fieldLink RX2 18 "Heliokeep$Field" "clouds" "Ljava/util/ArrayList;") (List.mem_of_getElem? (i := 1) rfl)) (fun _ h9 => h9) rfl dX2_isCovered_4 ?_
      refine hz_callRi (As := []) (rest := [zi j]) ⟨hx, hb, hml, hown, hts⟩ (c_Jx4a65c_size_8abf5 l G (ah 20) (.int z.2.2.2.2.2.2.1) (.ref z.2.2.2.2.2.2.2.2.1) y vC) (cwV 0 hts gX2_isCovered_Jx4a65c_size_8abf5 rfl rfl rfl (by decide +kernel) ⟨Nat.le_of_ble_eq_true rfl, Nat.le_of_ble_eq_true rfl⟩) (hz_cons hP (i := 20) rfl hz_nil) hK 0 0 rfl rfl rfl rfl hl.1 rfl (Nat.le_of_ble_eq_true rfl) dX2_isCovered_7 ⟨Nat.zero_le _, Nat.zero_le _⟩ ?_
      refine hz_icmp_ge (tgt := 40) hx hb dX2_isCovered_10 (by decide) (by omega) (fun c1 => ?_) (fun c1 => ?_)
      · refine hz_iconst hx hb dX2_isCovered_40 ?_
        exact W.zret (ty := .boolean) (v := zI 0) hx hb hr (zI_nb (by omega)) (fun t ht hW => ⟨zI 0, rfl, congrArg zI (by first | (rw [show j = vC from by omega] at h_c2; exact h_c2.symm) | exact (isZ_1 ⟨j, by omega, by omega, by unfold cvP; omega⟩).symm), ht⟩) (fun q hq => absurd hq List.not_mem_nil) dX2_isCovered_41
      · refine lv_aload_n hx hb dX2_isCovered_13 rfl (lv_at hl 0 rfl) ?_
        refine va_get (D := G) (ci := 3) (v := .ref (ah 20)) (C := RX2) (T := TX2) (N := 5) hx hb hts hinwsX20 hown hK hP 1 rfl rfl 1 (by decide) (hts (.fieldLink RX2 18 "Heliokeep$Field" "clouds" "Ljava/util/ArrayList;") (List.mem_of_getElem? (i := 1) rfl)) (fun _ h9 => h9) rfl dX2_isCovered_14 ?_
        refine lv_iload_n hx hb dX2_isCovered_17 rfl (lv_at hl 3 rfl) ?_
        obtain ⟨i2, hi2⟩ := hW_l2 (ah := ah) (z := z) (y := y) (vN := vN) (vC := vC) (vNow := vNow) (vHaze := vHaze) (vCold := vCold) (vHot := vHot) (vPipe := vPipe) (vDeg := vDeg) (vThaw := vThaw) (vTrc := vTrc) (vTurb := vTurb) (vLeft := vLeft) (vLoad := vLoad) (vWater := vWater) (vTrips := vTrips) (vMi1 := vMi1) (vMi2 := vMi2) (vSz := vSz) (vBs := vBs) (vCell := vCell) (vDirt := vDirt) (vAim := vAim) (vErr := vErr) (vCor := vCor) (vBrk := vBrk) (vTop := vTop) (vLm := vLm) (vRows := vRows) (vCols := vCols) (vDown := vDown) (vRight := vRight) (vBound := vBound) (vStrain := vStrain) (vPrice := vPrice) (vFirm := vFirm) (vSums := vSums) (vTk := vTk) (vFl1 := vFl1) (vFl2 := vFl2) (vTe := vTe) (vAw := vAw) (vRo := vRo) (vBe := vBe) hZ (by omega)
        refine hz_callRq (As := [zi j]) (rest := []) ⟨hx, hb, hml, hown, hts⟩ (c_Jx4a65c_get_915e3 l G (ah 20) z.2.2.2.2.2.2.2.2.1 (.int z.2.2.2.2.2.2.1) z.2.2.2.2.2.2.2.2.2.1 z.2.2.2.2.2.2.2.2.2.2.1 y vC j (zac z j) (by omega) hZ.2.2.1 (hZ.2.2.2 j (by omega) (by omega))) (cwV 1 hts gX2_isCovered_Jx4a65c_get_915e3 rfl rfl rfl (by decide +kernel) ⟨Nat.le_of_ble_eq_true rfl, Nat.le_of_ble_eq_true rfl⟩) (hz_cons hP (i := 20) rfl (hz_cons hP (i := i2) hi2 hz_nil)) hK 0 0 rfl rfl rfl rfl hl.1 rfl (Nat.le_of_ble_eq_true rfl) dX2_isCovered_18 ⟨Nat.zero_le _, Nat.zero_le _⟩ ?_
        obtain ⟨i3, hi3, i3hw⟩ := hW_c (ah := ah) (z := z) (y := y) (vN := vN) (vC := vC) (vNow := vNow) (vHaze := vHaze) (vCold := vCold) (vHot := vHot) (vPipe := vPipe) (vDeg := vDeg) (vThaw := vThaw) (vTrc := vTrc) (vTurb := vTurb) (vLeft := vLeft) (vLoad := vLoad) (vWater := vWater) (vTrips := vTrips) (vMi1 := vMi1) (vMi2 := vMi2) (vSz := vSz) (vBs := vBs) (vCell := vCell) (vDirt := vDirt) (vAim := vAim) (vErr := vErr) (vCor := vCor) (vBrk := vBrk) (vTop := vTop) (vLm := vLm) (vRows := vRows) (vCols := vCols) (vDown := vDown) (vRight := vRight) (vBound := vBound) (vStrain := vStrain) (vPrice := vPrice) (vFirm := vFirm) (vSums := vSums) (vTk := vTk) (vFl1 := vFl1) (vFl2 := vFl2) (vTe := vTe) (vAw := vAw) (vRo := vRo) (vBe := vBe) (k := j) (by omega) (by omega)
        refine va_castS (cC := G.1 2) hx hb hown (hts (.classLink RX2 63 "Heliokeep$Cloud") (List.mem_of_getElem? (i := 2) rfl)) (hK.1 2 (RX1, TX1, 6) rfl).2 (va_recv hK hP (ci := 2) (q0 := i3) rfl hi3) dX2_isCovered_21 ?_
        refine lv_aload_n hx hb dX2_isCovered_24 rfl (lv_at hl 1 rfl) ?_
        refine lv_iload_n hx hb dX2_isCovered_25 rfl (lv_at hl 2 rfl) ?_
        have qT := hTop j
        have qL := hLm j
        have qR := hRows j
        have qC := hCols j
        have qD := hDown j
        have qG := hRight j
        obtain ⟨i4, hi4, i4hw⟩ := hW_c (ah := ah) (z := z) (y := y) (vN := vN) (vC := vC) (vNow := vNow) (vHaze := vHaze) (vCold := vCold) (vHot := vHot) (vPipe := vPipe) (vDeg := vDeg) (vThaw := vThaw) (vTrc := vTrc) (vTurb := vTurb) (vLeft := vLeft) (vLoad := vLoad) (vWater := vWater) (vTrips := vTrips) (vMi1 := vMi1) (vMi2 := vMi2) (vSz := vSz) (vBs := vBs) (vCell := vCell) (vDirt := vDirt) (vAim := vAim) (vErr := vErr) (vCor := vCor) (vBrk := vBrk) (vTop := vTop) (vLm := vLm) (vRows := vRows) (vCols := vCols) (vDown := vDown) (vRight := vRight) (vBound := vBound) (vStrain := vStrain) (vPrice := vPrice) (vFirm := vFirm) (vSums := vSums) (vTk := vTk) (vFl1 := vFl1) (vFl2 := vFl2) (vTe := vTe) (vAw := vAw) (vRo := vRo) (vBe := vBe) (k := j) (by omega) (by omega)
        obtain ⟨i5, hi5, i5hd, i5ha, i5he, i5hc, i5hk⟩ := hW_m (ah := ah) (z := z) (y := y) (vN := vN) (vC := vC) (vNow := vNow) (vHaze := vHaze) (vCold := vCold) (vHot := vHot) (vPipe := vPipe) (vDeg := vDeg) (vThaw := vThaw) (vTrc := vTrc) (vTurb := vTurb) (vLeft := vLeft) (vLoad := vLoad) (vWater := vWater) (vTrips := vTrips) (vMi1 := vMi1) (vMi2 := vMi2) (vSz := vSz) (vBs := vBs) (vCell := vCell) (vDirt := vDirt) (vAim := vAim) (vErr := vErr) (vCor := vCor) (vBrk := vBrk) (vTop := vTop) (vLm := vLm) (vRows := vRows) (vCols := vCols) (vDown := vDown) (vRight := vRight) (vBound := vBound) (vStrain := vStrain) (vPrice := vPrice) (vFirm := vFirm) (vSums := vSums) (vTk := vTk) (vFl1 := vFl1) (vFl2 := vFl2) (vTe := vTe) (vAw := vAw) (vRo := vRo) (vBe := vBe) (k := k) (by omega) (by omega)
        refine hz_callRi (As := [.ref (zam z k), zi tt]) (rest := []) ⟨hx, hb, hml, hown, hts⟩ (c_X1_isOver l G (zac z j) (zam z k) y (vTop j) (vLm j) (vRows j) (vCols j) (vDown j) (vRight j) (vCell k) ((vCell k) / 8) ((vCell k) % 8) (vDirt k) (vAim k) (vErr k) (vCor k) (vBrk k) tt (by omega) (by omega) (by omega) (by omega) (by omega)) (cwV 2 hts gX2_isCovered_X1_isOver rfl rfl rfl (by decide +kernel) ⟨Nat.le_of_ble_eq_true rfl, Nat.le_of_ble_eq_true rfl⟩) (hz_cons hP (i := i4) hi4 (hz_cons hP (i := i5) hi5 hz_nil)) hK 0 2 rfl rfl rfl rfl hl.1 rfl (Nat.le_of_ble_eq_true rfl) dX2_isCovered_26 ⟨Nat.zero_le _, Nat.zero_le _⟩ ?_
        refine hz_topi (fun z6 e7 => ?_)
        refine hz_if_eq (tgt := 34) hx hb dX2_isCovered_29 (by decide) (by omega) (fun c8 => ?_) (fun c8 => ?_)
        · refine hz_iinc (v := (j + 1)) (lv' := [(3, zi (j + 1)), (0, .ref (ah 1)), (1, .ref (zam z k)), (2, zi tt)]) hx hb dX2_isCovered_34 hl (k := 3) rfl (by omega) (by decide) rfl (fun ls hl => ?_)
          refine lv_goto (tgt := 2) hx hb dX2_isCovered_37 (by decide) ?_
          exact ih2 (j + 1) (by omega) (cvZ_n h_c2 (by unfold cvP; omega)) (by omega) ls (lv_sub hl [1, 2, 3, 0] rfl)
        · refine hz_iconst hx hb dX2_isCovered_32 ?_
          exact W.zret (ty := .boolean) (v := zI 1) hx hb hr (zI_nb (by omega)) (fun t ht hW => ⟨zI 1, rfl, congrArg zI (by first | (rw [show j = vC from by omega] at h_c2; exact h_c2.symm) | exact (isZ_1 ⟨j, by omega, by omega, by unfold cvP; omega⟩).symm), ht⟩) (fun q hq => absurd hq List.not_mem_nil) dX2_isCovered_33
  exact L2 _ 0 (by omega) (cvZ_0) (Nat.lt_succ_self _) ls (lv_sub hl [1, 2, 3, 0] rfl)
set_option maxHeartbeats 4000000 in
set_option maxRecDepth 100000 in
theorem c_X2_isShaded (l : Launch) (G : va_G) (ah : Nat → Nat) (z : LZ) (zE : Nat) (y : Nat → ClassId) (vN vC vNow vHaze vCold vHot vPipe vDeg vThaw vTrc vTurb vLeft vLoad vWater vTrips vMi1 vMi2 vSz vBs : Int) (vCell vDirt vAim vErr vCor vBrk vTop vLm vRows vCols vDown vRight vBound vStrain vPrice vFirm vSums vTk vFl1 vFl2 vTe vAw vRo vBe : Int → Int) (tt : Int) (k : Int) (hN : 0 ≤ vN ∧ vN ≤ 12) (hNow : 0 ≤ vNow ∧ vNow ≤ 9999) (hCell : ∀ j9 : Int, 0 ≤ vCell j9 ∧ vCell j9 ≤ 63) (hTk : ∀ j9 : Int, 0 ≤ j9 → j9 < 64 → vTk j9 = ocZ vN vCell j9) (hk : 0 ≤ k ∧ k < vN) (ht : 0 ≤ tt ∧ tt ≤ 24) : Met l yX2_isShaded wsX2_isShaded ({ frames := 1, cells := 0, slots := 0, locals := 22 }) (va_Pc [.ref (ah 1), .ref (zam z k), zi tt] (HPrG zE G (tyL y) (hW ah z y vN vC vNow vHaze vCold vHot vPipe vDeg vThaw vTrc vTurb vLeft vLoad vWater vTrips vMi1 vMi2 vSz vBs vCell vDirt vAim vErr vCor vBrk vTop vLm vRows vCols vDown vRight vBound vStrain vPrice vFirm vSums vTk vFl1 vFl2 vTe vAw vRo vBe))) (vp_Si (fun r => r = zI (shZ vN vCell (vCell k) (vNow + tt)))) 0 0 (fun _ => False) := by
  refine hz_ofRG (cc := cX2_isShaded) (maxL := 5) (ret := (some .boolean)) (by decide) rfl (Nat.le_of_ble_eq_true rfl) ?_
  intro p e s m below meth c A ls hA0 hx hb hr hts hown hlocks hml hP hK hS hGP hl
  have hown : s.vm.findClass RX2 = some m.cls := hown
  have hl : lv_has ls 5 [(0, .ref (ah 1)), (1, .ref (zam z k)), (2, zi tt)] := hl
  have hinwsX20 : ∀ w ∈ wsX20, w ∈ wsX2_isShaded := fun _ h => List.mem_cons_of_mem _ (List.mem_append_right _ (h))
  have hinwsX40 : ∀ w ∈ wsX40, w ∈ wsX2_isShaded := fun _ h => List.mem_cons_of_mem _ (List.mem_append_left _ (List.mem_append_right _ (h)))
  have qc := hCell k
  have o1 : ocZ vN vCell (vCell k + 1) = 0 ∨ ocZ vN vCell (vCell k + 1) = 1 := isZ_01 _
  have o2 : ocZ vN vCell (vCell k - 1) = 0 ∨ ocZ vN vCell (vCell k - 1) = 1 := isZ_01 _
  have qs := strZ_rng (vNow + tt)
  refine lv_aload_n hx hb dX2_isShaded_0 rfl (lv_at hl 0 rfl) ?_
  refine lv_iload_n hx hb dX2_isShaded_1 rfl (lv_at hl 2 rfl) ?_
  refine hz_callRiG (As := [zi tt]) (rest := []) ⟨hx, hb, hml, hown, hts⟩ (c_X2_hourBehind l G ah z zE y vN vC vNow vHaze vCold vHot vPipe vDeg vThaw vTrc vTurb vLeft vLoad vWater vTrips vMi1 vMi2 vSz vBs vCell vDirt vAim vErr vCor vBrk vTop vLm vRows vCols vDown vRight vBound vStrain vPrice vFirm vSums vTk vFl1 vFl2 vTe vAw vRo vBe tt hNow (by omega)) (cwV 1 hts gX2_isShaded_X2_hourBehind rfl rfl rfl (by decide +kernel) ⟨Nat.le_of_ble_eq_true rfl, Nat.le_of_ble_eq_true rfl⟩) hP hK hS hGP 1 3 rfl rfl rfl rfl hl.1 rfl (Nat.le_of_ble_eq_true rfl) dX2_isShaded_2 ⟨Nat.zero_le _, Nat.zero_le _⟩ ?_
  refine lv_istore_n (lv' := [(3, zi ((vNow + tt) % 24)), (0, .ref (ah 1)), (1, .ref (zam z k)), (2, zi tt)]) hx hb dX2_isShaded_5 rfl hl (by decide) rfl (fun ls hl => ?_)
  obtain ⟨tS, hZs, hTs⟩ := hGP.2.1
  refine va_getsN (ref := "Heliokeep") (host := "Heliokeep") hx hb hZs hS hown (va_Nw.use rfl (hGP.1 (.fieldLinkNest "Heliokeep$Field" 42 "Heliokeep" "STRENGTHS" "[I" "Heliokeep") (by decide +kernel))) (fun _ h9 => h9) dX2_isShaded_6 ?_
  refine lv_iload_n hx hb dX2_isShaded_9 rfl (lv_at hl 0 rfl) ?_
  refine hz_str hx hb hTs hS (by omega) dX2_isShaded_10 ?_
  refine hz_tope (z2 := (strZ (vNow + tt))) (by exact strZ_mod _) ?_
  refine hz_iconst hx hb dX2_isShaded_11 ?_
  refine hz_icmp_le (tgt := 17) hx hb dX2_isShaded_12 (by decide) (by omega) (fun c1 => ?_) (fun c1 => ?_)
  · refine lv_iload_n hx hb dX2_isShaded_17 rfl (lv_at hl 0 rfl) ?_
    refine hz_bipush hx hb dX2_isShaded_18 (by decide) ?_
    refine hz_icmp_ge (tgt := 32) hx hb dX2_isShaded_20 (by decide) (by omega) (fun c2 => ?_) (fun c2 => ?_)
    · refine lv_aload_n hx hb dX2_isShaded_32 rfl (lv_at hl 2 rfl) ?_
      obtain ⟨i3, hi3, i3hd, i3ha, i3he, i3hc, i3hk⟩ := hW_m (ah := ah) (z := z) (y := y) (vN := vN) (vC := vC) (vNow := vNow) (vHaze := vHaze) (vCold := vCold) (vHot := vHot) (vPipe := vPipe) (vDeg := vDeg) (vThaw := vThaw) (vTrc := vTrc) (vTurb := vTurb) (vLeft := vLeft) (vLoad := vLoad) (vWater := vWater) (vTrips := vTrips) (vMi1 := vMi1) (vMi2 := vMi2) (vSz := vSz) (vBs := vBs) (vCell := vCell) (vDirt := vDirt) (vAim := vAim) (vErr := vErr) (vCor := vCor) (vBrk := vBrk) (vTop := vTop) (vLm := vLm) (vRows := vRows) (vCols := vCols) (vDown := vDown) (vRight := vRight) (vBound := vBound) (vStrain := vStrain) (vPrice := vPrice) (vFirm := vFirm) (vSums := vSums) (vTk := vTk) (vFl1 := vFl1) (vFl2 := vFl2) (vTe := vTe) (vAw := vAw) (vRo := vRo) (vBe := vBe) (k := k) (by omega) (by omega)
      refine va_get (D := G) (ci := 5) (v := zi ((vCell k) % 8)) (C := RX4) (T := TX4) (N := 8) hx hb hts hinwsX40 hown hK hP i3 hi3 rfl 2 (by decide) (hts (.fieldLink RX2 69 "Heliokeep$Mirror" "column" "I") (List.mem_of_getElem? (i := 1) rfl)) (fun _ h9 => h9) rfl dX2_isShaded_33 ?_
      refine hz_iconst hx hb dX2_isShaded_36 ?_
      refine hz_isub hx hb dX2_isShaded_37 ?_
      refine lv_istore (lv' := [(4, zi (((vCell k) % 8) - 1)), (3, zi ((vNow + tt) % 24)), (0, .ref (ah 1)), (1, .ref (zam z k)), (2, zi tt)]) hx hb dX2_isShaded_38 hl (by decide) rfl (fun ls hl => ?_)
      refine lv_iload hx hb dX2_isShaded_40 (lv_at hl 0 rfl) ?_
      refine hz_if_lt (tgt := 73) hx hb dX2_isShaded_42 (by decide) (by omega) (fun c4 => ?_) (fun c4 => ?_)
      · refine hz_iconst hx hb dX2_isShaded_73 ?_
        exact W.zret (ty := .boolean) (v := zI 0) hx hb hr (zI_nb (by omega)) (fun t ht hW => ⟨zI 0, rfl, congrArg zI (by unfold shZ; omega), ht⟩) (fun q hq => absurd hq List.not_mem_nil) dX2_isShaded_74
      · refine lv_iload hx hb dX2_isShaded_45 (lv_at hl 0 rfl) ?_
        refine hz_bipush hx hb dX2_isShaded_47 (by decide) ?_
        refine hz_icmp_ge (tgt := 73) hx hb dX2_isShaded_49 (by decide) (by omega) (fun c5 => ?_) (fun c5 => ?_)
        · refine hz_iconst hx hb dX2_isShaded_73 ?_
          exact W.zret (ty := .boolean) (v := zI 0) hx hb hr (zI_nb (by omega)) (fun t ht hW => ⟨zI 0, rfl, congrArg zI (by unfold shZ; omega), ht⟩) (fun q hq => absurd hq List.not_mem_nil) dX2_isShaded_74
        · refine lv_aload_n hx hb dX2_isShaded_52 rfl (lv_at hl 2 rfl) ?_
          refine lv_aload_n hx hb dX2_isShaded_53 rfl (lv_at hl 3 rfl) ?_
          obtain ⟨i6, hi6, i6hd, i6ha, i6he, i6hc, i6hk⟩ := hW_m (ah := ah) (z := z) (y := y) (vN := vN) (vC := vC) (vNow := vNow) (vHaze := vHaze) (vCold := vCold) (vHot := vHot) (vPipe := vPipe) (vDeg := vDeg) (vThaw := vThaw) (vTrc := vTrc) (vTurb := vTurb) (vLeft := vLeft) (vLoad := vLoad) (vWater := vWater) (vTrips := vTrips) (vMi1 := vMi1) (vMi2 := vMi2) (vSz := vSz) (vBs := vBs) (vCell := vCell) (vDirt := vDirt) (vAim := vAim) (vErr := vErr) (vCor := vCor) (vBrk := vBrk) (vTop := vTop) (vLm := vLm) (vRows := vRows) (vCols := vCols) (vDown := vDown) (vRight := vRight) (vBound := vBound) (vStrain := vStrain) (vPrice := vPrice) (vFirm := vFirm) (vSums := vSums) (vTk := vTk) (vFl1 := vFl1) (vFl2 := vFl2) (vTe := vTe) (vAw := vAw) (vRo := vRo) (vBe := vBe) (k := k) (by omega) (by omega)
          refine va_get (D := G) (ci := 5) (v := zi ((vCell k) / 8)) (C := RX4) (T := TX4) (N := 8) hx hb hts hinwsX40 hown hK hP i6 hi6 rfl 1 (by decide) (hts (.fieldLink RX2 72 "Heliokeep$Mirror" "row" "I") (List.mem_of_getElem? (i := 2) rfl)) (fun _ h9 => h9) rfl dX2_isShaded_54 ?_
          refine hz_bipush hx hb dX2_isShaded_57 (by decide) ?_
          refine hz_imul hx hb dX2_isShaded_59 ?_
          refine lv_iload hx hb dX2_isShaded_60 (lv_at hl 0 rfl) ?_
          refine hz_iadd hx hb dX2_isShaded_62 ?_
          refine hz_tope (z2 := (vCell k - 1)) (by omega) ?_
          refine hz_callRiG (As := [zi (vCell k - 1)]) (rest := []) ⟨hx, hb, hml, hown, hts⟩ (c_X2_isTaken l G ah z zE y vN vC vNow vHaze vCold vHot vPipe vDeg vThaw vTrc vTurb vLeft vLoad vWater vTrips vMi1 vMi2 vSz vBs vCell vDirt vAim vErr vCor vBrk vTop vLm vRows vCols vDown vRight vBound vStrain vPrice vFirm vSums vTk vFl1 vFl2 vTe vAw vRo vBe (vCell k - 1) hTk (by omega)) (cwV 1 hts gX2_isShaded_X2_isTaken rfl rfl rfl (by decide +kernel) ⟨Nat.le_of_ble_eq_true rfl, Nat.le_of_ble_eq_true rfl⟩) hP hK hS hGP 1 3 rfl rfl rfl rfl hl.1 rfl (Nat.le_of_ble_eq_true rfl) dX2_isShaded_63 ⟨Nat.zero_le _, Nat.zero_le _⟩ ?_
          refine hz_topi (fun z7 e8 => ?_)
          refine hz_if_eq (tgt := 73) hx hb dX2_isShaded_66 (by decide) (by omega) (fun c9 => ?_) (fun c9 => ?_)
          · refine hz_iconst hx hb dX2_isShaded_73 ?_
            exact W.zret (ty := .boolean) (v := zI 0) hx hb hr (zI_nb (by omega)) (fun t ht hW => ⟨zI 0, rfl, congrArg zI (by unfold shZ; omega), ht⟩) (fun q hq => absurd hq List.not_mem_nil) dX2_isShaded_74
          · refine hz_iconst hx hb dX2_isShaded_69 ?_
            refine lv_goto (tgt := 74) hx hb dX2_isShaded_70 (by decide) ?_
            exact W.zret (ty := .boolean) (v := zI 1) hx hb hr (zI_nb (by omega)) (fun t ht hW => ⟨zI 1, rfl, congrArg zI (by unfold shZ; omega), ht⟩) (fun q hq => absurd hq List.not_mem_nil) dX2_isShaded_74
    · refine lv_aload_n hx hb dX2_isShaded_23 rfl (lv_at hl 2 rfl) ?_
      obtain ⟨i10, hi10, i10hd, i10ha, i10he, i10hc, i10hk⟩ := hW_m (ah := ah) (z := z) (y := y) (vN := vN) (vC := vC) (vNow := vNow) (vHaze := vHaze) (vCold := vCold) (vHot := vHot) (vPipe := vPipe) (vDeg := vDeg) (vThaw := vThaw) (vTrc := vTrc) (vTurb := vTurb) (vLeft := vLeft) (vLoad := vLoad) (vWater := vWater) (vTrips := vTrips) (vMi1 := vMi1) (vMi2 := vMi2) (vSz := vSz) (vBs := vBs) (vCell := vCell) (vDirt := vDirt) (vAim := vAim) (vErr := vErr) (vCor := vCor) (vBrk := vBrk) (vTop := vTop) (vLm := vLm) (vRows := vRows) (vCols := vCols) (vDown := vDown) (vRight := vRight) (vBound := vBound) (vStrain := vStrain) (vPrice := vPrice) (vFirm := vFirm) (vSums := vSums) (vTk := vTk) (vFl1 := vFl1) (vFl2 := vFl2) (vTe := vTe) (vAw := vAw) (vRo := vRo) (vBe := vBe) (k := k) (by omega) (by omega)
      refine va_get (D := G) (ci := 5) (v := zi ((vCell k) % 8)) (C := RX4) (T := TX4) (N := 8) hx hb hts hinwsX40 hown hK hP i10 hi10 rfl 2 (by decide) (hts (.fieldLink RX2 69 "Heliokeep$Mirror" "column" "I") (List.mem_of_getElem? (i := 1) rfl)) (fun _ h9 => h9) rfl dX2_isShaded_24 ?_
      refine hz_iconst hx hb dX2_isShaded_27 ?_
      refine hz_iadd hx hb dX2_isShaded_28 ?_
      refine lv_goto (tgt := 38) hx hb dX2_isShaded_29 (by decide) ?_
      refine lv_istore (lv' := [(4, zi (((vCell k) % 8) + 1)), (3, zi ((vNow + tt) % 24)), (0, .ref (ah 1)), (1, .ref (zam z k)), (2, zi tt)]) hx hb dX2_isShaded_38 hl (by decide) rfl (fun ls hl => ?_)
      refine lv_iload hx hb dX2_isShaded_40 (lv_at hl 0 rfl) ?_
      refine hz_if_lt (tgt := 73) hx hb dX2_isShaded_42 (by decide) (by omega) (fun c11 => ?_) (fun c11 => ?_)
      · refine hz_iconst hx hb dX2_isShaded_73 ?_
        exact W.zret (ty := .boolean) (v := zI 0) hx hb hr (zI_nb (by omega)) (fun t ht hW => ⟨zI 0, rfl, congrArg zI (by unfold shZ; omega), ht⟩) (fun q hq => absurd hq List.not_mem_nil) dX2_isShaded_74
      · refine lv_iload hx hb dX2_isShaded_45 (lv_at hl 0 rfl) ?_
        refine hz_bipush hx hb dX2_isShaded_47 (by decide) ?_
        refine hz_icmp_ge (tgt := 73) hx hb dX2_isShaded_49 (by decide) (by omega) (fun c12 => ?_) (fun c12 => ?_)
        · refine hz_iconst hx hb dX2_isShaded_73 ?_
          exact W.zret (ty := .boolean) (v := zI 0) hx hb hr (zI_nb (by omega)) (fun t ht hW => ⟨zI 0, rfl, congrArg zI (by unfold shZ; omega), ht⟩) (fun q hq => absurd hq List.not_mem_nil) dX2_isShaded_74
        · refine lv_aload_n hx hb dX2_isShaded_52 rfl (lv_at hl 2 rfl) ?_
          refine lv_aload_n hx hb dX2_isShaded_53 rfl (lv_at hl 3 rfl) ?_
          obtain ⟨i13, hi13, i13hd, i13ha, i13he, i13hc, i13hk⟩ := hW_m (ah := ah) (z := z) (y := y) (vN := vN) (vC := vC) (vNow := vNow) (vHaze := vHaze) (vCold := vCold) (vHot := vHot) (vPipe := vPipe) (vDeg := vDeg) (vThaw := vThaw) (vTrc := vTrc) (vTurb := vTurb) (vLeft := vLeft) (vLoad := vLoad) (vWater := vWater) (vTrips := vTrips) (vMi1 := vMi1) (vMi2 := vMi2) (vSz := vSz) (vBs := vBs) (vCell := vCell) (vDirt := vDirt) (vAim := vAim) (vErr := vErr) (vCor := vCor) (vBrk := vBrk) (vTop := vTop) (vLm := vLm) (vRows := vRows) (vCols := vCols) (vDown := vDown) (vRight := vRight) (vBound := vBound) (vStrain := vStrain) (vPrice := vPrice) (vFirm := vFirm) (vSums := vSums) (vTk := vTk) (vFl1 := vFl1) (vFl2 := vFl2) (vTe := vTe) (vAw := vAw) (vRo := vRo) (vBe := vBe) (k := k) (by omega) (by omega)
          refine va_get (D := G) (ci := 5) (v := zi ((vCell k) / 8)) (C := RX4) (T := TX4) (N := 8) hx hb hts hinwsX40 hown hK hP i13 hi13 rfl 1 (by decide) (hts (.fieldLink RX2 72 "Heliokeep$Mirror" "row" "I") (List.mem_of_getElem? (i := 2) rfl)) (fun _ h9 => h9) rfl dX2_isShaded_54 ?_
          refine hz_bipush hx hb dX2_isShaded_57 (by decide) ?_
          refine hz_imul hx hb dX2_isShaded_59 ?_
          refine lv_iload hx hb dX2_isShaded_60 (lv_at hl 0 rfl) ?_
          refine hz_iadd hx hb dX2_isShaded_62 ?_
          refine hz_tope (z2 := (vCell k + 1)) (by omega) ?_
          refine hz_callRiG (As := [zi (vCell k + 1)]) (rest := []) ⟨hx, hb, hml, hown, hts⟩ (c_X2_isTaken l G ah z zE y vN vC vNow vHaze vCold vHot vPipe vDeg vThaw vTrc vTurb vLeft vLoad vWater vTrips vMi1 vMi2 vSz vBs vCell vDirt vAim vErr vCor vBrk vTop vLm vRows vCols vDown vRight vBound vStrain vPrice vFirm vSums vTk vFl1 vFl2 vTe vAw vRo vBe (vCell k + 1) hTk (by omega)) (cwV 1 hts gX2_isShaded_X2_isTaken rfl rfl rfl (by decide +kernel) ⟨Nat.le_of_ble_eq_true rfl, Nat.le_of_ble_eq_true rfl⟩) hP hK hS hGP 1 3 rfl rfl rfl rfl hl.1 rfl (Nat.le_of_ble_eq_true rfl) dX2_isShaded_63 ⟨Nat.zero_le _, Nat.zero_le _⟩ ?_
          refine hz_topi (fun z14 e15 => ?_)
          refine hz_if_eq (tgt := 73) hx hb dX2_isShaded_66 (by decide) (by omega) (fun c16 => ?_) (fun c16 => ?_)
          · refine hz_iconst hx hb dX2_isShaded_73 ?_
            exact W.zret (ty := .boolean) (v := zI 0) hx hb hr (zI_nb (by omega)) (fun t ht hW => ⟨zI 0, rfl, congrArg zI (by unfold shZ; omega), ht⟩) (fun q hq => absurd hq List.not_mem_nil) dX2_isShaded_74
          · refine hz_iconst hx hb dX2_isShaded_69 ?_
            refine lv_goto (tgt := 74) hx hb dX2_isShaded_70 (by decide) ?_
            exact W.zret (ty := .boolean) (v := zI 1) hx hb hr (zI_nb (by omega)) (fun t ht hW => ⟨zI 1, rfl, congrArg zI (by unfold shZ; omega), ht⟩) (fun q hq => absurd hq List.not_mem_nil) dX2_isShaded_74
  · refine hz_iconst hx hb dX2_isShaded_15 ?_
    exact W.zret (ty := .boolean) (v := zI 0) hx hb hr (zI_nb (by omega)) (fun t ht hW => ⟨zI 0, rfl, congrArg zI (by unfold shZ; omega), ht⟩) (fun q hq => absurd hq List.not_mem_nil) dX2_isShaded_16
set_option maxHeartbeats 4000000 in
set_option maxRecDepth 100000 in
theorem c_X2_powerBehind (l : Launch) (G : va_G) (ah : Nat → Nat) (z : LZ) (zE : Nat) (y : Nat → ClassId) (vN vC vNow vHaze vCold vHot vPipe vDeg vThaw vTrc vTurb vLeft vLoad vWater vTrips vMi1 vMi2 vSz vBs : Int) (vCell vDirt vAim vErr vCor vBrk vTop vLm vRows vCols vDown vRight vBound vStrain vPrice vFirm vSums vTk vFl1 vFl2 vTe vAw vRo vBe : Int → Int) (tt : Int) (k : Int) (hZ : LZok z vN vC) (hTk : ∀ j9 : Int, 0 ≤ j9 → j9 < 64 → vTk j9 = ocZ vN vCell j9) (hN : 0 ≤ vN ∧ vN ≤ 12) (hC : 0 ≤ vC ∧ vC ≤ 4) (hNow : 0 ≤ vNow ∧ vNow ≤ 9999) (hHaze : 0 ≤ vHaze ∧ vHaze ≤ 9) (hCell : ∀ j9 : Int, 0 ≤ vCell j9 ∧ vCell j9 ≤ 63) (hDirt : ∀ j9 : Int, 0 ≤ vDirt j9 ∧ vDirt j9 ≤ 9) (hTop : ∀ j9 : Int, -(16 + vNow) ≤ vTop j9 ∧ vTop j9 ≤ 16 + vNow) (hLm : ∀ j9 : Int, -(16 + vNow) ≤ vLm j9 ∧ vLm j9 ≤ 16 + vNow) (hRows : ∀ j9 : Int, 0 ≤ vRows j9 ∧ vRows j9 ≤ 8) (hCols : ∀ j9 : Int, 0 ≤ vCols j9 ∧ vCols j9 ≤ 8) (hDown : ∀ j9 : Int, -1 ≤ vDown j9 ∧ vDown j9 ≤ 1) (hRight : ∀ j9 : Int, -1 ≤ vRight j9 ∧ vRight j9 ≤ 1) (hk : 0 ≤ k ∧ k < vN) (ht : 0 ≤ tt ∧ tt ≤ 24) : Met l yX2_powerBehind wsX2_powerBehind ({ frames := 4, cells := 0, slots := 0, locals := 87 }) (va_Pc [.ref (ah 1), .ref (zam z k), zi tt] (HPrG zE G (tyL y) (hW ah z y vN vC vNow vHaze vCold vHot vPipe vDeg vThaw vTrc vTurb vLeft vLoad vWater vTrips vMi1 vMi2 vSz vBs vCell vDirt vAim vErr vCor vBrk vTop vLm vRows vCols vDown vRight vBound vStrain vPrice vFirm vSums vTk vFl1 vFl2 vTe vAw vRo vBe))) (vp_Si (fun r => r = zI (pwZ vN vC vNow vHaze vCell vDirt vTop vLm vRows vCols vDown vRight k tt))) 0 0 (fun _ => False) := by
  refine hz_ofRG (cc := cX2_powerBehind) (maxL := 4) (ret := (some .int)) (by decide) rfl (Nat.le_of_ble_eq_true rfl) ?_
  intro p e s m below meth c A ls hA0 hx hb hr hts hown hlocks hml hP hK hS hGP hl
  have hown : s.vm.findClass RX2 = some m.cls := hown
  have hl : lv_has ls 4 [(0, .ref (ah 1)), (1, .ref (zam z k)), (2, zi tt)] := hl
  have hinwsJx4a65c0 : ∀ w ∈ wsJx4a65c0, w ∈ wsX2_powerBehind := fun _ h => List.mem_cons_of_mem _ (List.mem_append_left _ (List.mem_append_left _ (List.mem_append_right _ (h))))
  have hinwsX10 : ∀ w ∈ wsX10, w ∈ wsX2_powerBehind := fun _ h => List.mem_cons_of_mem _ (List.mem_append_right _ (h))
  have hinwsX20 : ∀ w ∈ wsX20, w ∈ wsX2_powerBehind := fun _ h => List.mem_cons_of_mem _ (List.mem_append_left _ (List.mem_append_left _ (List.mem_append_left _ (List.mem_append_right _ (h)))))
  have hinwsX40 : ∀ w ∈ wsX40, w ∈ wsX2_powerBehind := fun _ h => List.mem_cons_of_mem _ (List.mem_append_left _ (List.mem_append_right _ (h)))
  have qc := hCell k
  have qv : cvZ vC vTop vLm vRows vCols vDown vRight (vCell k) tt = 0 ∨ cvZ vC vTop vLm vRows vCols vDown vRight (vCell k) tt = 1 := isZ_01 _
  have qs := strZ_rng (vNow + tt)
  have qdi := dstZ_rng qc
  have qh := hdZ_rng (v := vDirt k + ((vNow + tt) / 24 - vNow / 24)) (a := 0) (b := 9) (by omega)
  have qp := pw_rng qs (b := 10 - vHaze) (by omega) (c := 10 - hdZ (vDirt k + ((vNow + tt) / 24 - vNow / 24)) 0 9) (by omega) (d := 20 - dstZ (vCell k)) (by omega)
  have qz : shZ vN vCell (vCell k) (vNow + tt) = 0 ∨ shZ vN vCell (vCell k) (vNow + tt) = 1 := by unfold shZ; omega
  refine lv_aload_n hx hb dX2_powerBehind_0 rfl (lv_at hl 0 rfl) ?_
  refine lv_aload_n hx hb dX2_powerBehind_1 rfl (lv_at hl 1 rfl) ?_
  refine lv_iload_n hx hb dX2_powerBehind_2 rfl (lv_at hl 2 rfl) ?_
  refine hz_callRiG (As := [.ref (zam z k), zi tt]) (rest := []) ⟨hx, hb, hml, hown, hts⟩ (c_X2_isCovered l G ah z zE y vN vC vNow vHaze vCold vHot vPipe vDeg vThaw vTrc vTurb vLeft vLoad vWater vTrips vMi1 vMi2 vSz vBs vCell vDirt vAim vErr vCor vBrk vTop vLm vRows vCols vDown vRight vBound vStrain vPrice vFirm vSums vTk vFl1 vFl2 vTe vAw vRo vBe tt k hZ hC hNow hCell hTop hLm hRows hCols hDown hRight (by omega) (by omega)) (cwV 2 hts gX2_powerBehind_X2_isCovered rfl rfl rfl (by decide +kernel) ⟨Nat.le_of_ble_eq_true rfl, Nat.le_of_ble_eq_true rfl⟩) hP hK hS hGP 1 3 rfl rfl rfl rfl hl.1 rfl (Nat.le_of_ble_eq_true rfl) dX2_powerBehind_3 ⟨Nat.zero_le _, Nat.zero_le _⟩ ?_
  refine hz_if_ne (tgt := 18) hx hb dX2_powerBehind_6 (by decide) (by omega) (fun c1 => ?_) (fun c1 => ?_)
  · refine hz_iconst hx hb dX2_powerBehind_18 ?_
    exact W.iret (v := zI 0) hx hb hr (fun t ht hW => ⟨zI 0, rfl, congrArg zI (by unfold pwZ; first | exact (if_pos (by omega)).symm | exact (if_neg (by omega)).symm), ht⟩) (fun q hq => absurd hq List.not_mem_nil) dX2_powerBehind_19
  · refine lv_aload_n hx hb dX2_powerBehind_9 rfl (lv_at hl 0 rfl) ?_
    refine lv_aload_n hx hb dX2_powerBehind_10 rfl (lv_at hl 1 rfl) ?_
    refine lv_iload_n hx hb dX2_powerBehind_11 rfl (lv_at hl 2 rfl) ?_
    refine hz_callRiG (As := [.ref (zam z k), zi tt]) (rest := []) ⟨hx, hb, hml, hown, hts⟩ (c_X2_isShaded l G ah z zE y vN vC vNow vHaze vCold vHot vPipe vDeg vThaw vTrc vTurb vLeft vLoad vWater vTrips vMi1 vMi2 vSz vBs vCell vDirt vAim vErr vCor vBrk vTop vLm vRows vCols vDown vRight vBound vStrain vPrice vFirm vSums vTk vFl1 vFl2 vTe vAw vRo vBe tt k hN hNow hCell hTk (by omega) (by omega)) (cwV 2 hts gX2_powerBehind_X2_isShaded rfl rfl rfl (by decide +kernel) ⟨Nat.le_of_ble_eq_true rfl, Nat.le_of_ble_eq_true rfl⟩) hP hK hS hGP 1 3 rfl rfl rfl rfl hl.1 rfl (Nat.le_of_ble_eq_true rfl) dX2_powerBehind_12 ⟨Nat.zero_le _, Nat.zero_le _⟩ ?_
    refine hz_if_eq (tgt := 20) hx hb dX2_powerBehind_15 (by decide) (by omega) (fun c2 => ?_) (fun c2 => ?_)
    · refine hz_bipush hx hb dX2_powerBehind_20 (by decide) ?_
      refine lv_aload_n hx hb dX2_powerBehind_22 rfl (lv_at hl 0 rfl) ?_
      refine lv_aload_n hx hb dX2_powerBehind_23 rfl (lv_at hl 1 rfl) ?_
      refine lv_iload_n hx hb dX2_powerBehind_24 rfl (lv_at hl 2 rfl) ?_
      refine hz_callRiG (As := [.ref (zam z k), zi tt]) (rest := [zi 10]) ⟨hx, hb, hml, hown, hts⟩ (c_X2_dirtBehind l G ah z zE y vN vC vNow vHaze vCold vHot vPipe vDeg vThaw vTrc vTurb vLeft vLoad vWater vTrips vMi1 vMi2 vSz vBs vCell vDirt vAim vErr vCor vBrk vTop vLm vRows vCols vDown vRight vBound vStrain vPrice vFirm vSums vTk vFl1 vFl2 vTe vAw vRo vBe tt k hN hNow hDirt (by omega) (by omega)) (cwV 2 hts gX2_powerBehind_X2_dirtBehind rfl rfl rfl (by decide +kernel) ⟨Nat.le_of_ble_eq_true rfl, Nat.le_of_ble_eq_true rfl⟩) hP hK hS hGP 1 3 rfl rfl rfl rfl hl.1 rfl (Nat.le_of_ble_eq_true rfl) dX2_powerBehind_25 ⟨Nat.zero_le _, Nat.zero_le _⟩ ?_
      refine hz_isub hx hb dX2_powerBehind_28 ?_
      refine lv_istore_n (lv' := [(3, zi (10 - (hdZ (vDirt k + ((vNow + tt) / 24 - vNow / 24)) 0 9))), (0, .ref (ah 1)), (1, .ref (zam z k)), (2, zi tt)]) hx hb dX2_powerBehind_29 rfl hl (by decide) rfl (fun ls hl => ?_)
      refine lv_aload_n hx hb dX2_powerBehind_30 rfl (lv_at hl 1 rfl) ?_
      refine lv_iload_n hx hb dX2_powerBehind_31 rfl (lv_at hl 3 rfl) ?_
      refine hz_callRiG (As := [zi tt]) (rest := []) ⟨hx, hb, hml, hown, hts⟩ (c_X2_strengthBehind l G ah z zE y vN vC vNow vHaze vCold vHot vPipe vDeg vThaw vTrc vTurb vLeft vLoad vWater vTrips vMi1 vMi2 vSz vBs vCell vDirt vAim vErr vCor vBrk vTop vLm vRows vCols vDown vRight vBound vStrain vPrice vFirm vSums vTk vFl1 vFl2 vTe vAw vRo vBe tt hNow (by omega)) (cwV 1 hts gX2_powerBehind_X2_strengthBehind rfl rfl rfl (by decide +kernel) ⟨Nat.le_of_ble_eq_true rfl, Nat.le_of_ble_eq_true rfl⟩) hP hK hS hGP 1 3 rfl rfl rfl rfl hl.1 rfl (Nat.le_of_ble_eq_true rfl) dX2_powerBehind_32 ⟨Nat.zero_le _, Nat.zero_le _⟩ ?_
      refine hz_bipush hx hb dX2_powerBehind_35 (by decide) ?_
      refine lv_aload_n hx hb dX2_powerBehind_37 rfl (lv_at hl 1 rfl) ?_
      refine va_get (D := G) (ci := 3) (v := zi vHaze) (C := RX2) (T := TX2) (N := 5) hx hb hts hinwsX20 hown hK hP 1 rfl rfl 4 (by decide) (hts (.fieldLink RX2 92 "Heliokeep$Field" "haze" "I") (List.mem_of_getElem? (i := 1) rfl)) (fun _ h9 => h9) rfl dX2_powerBehind_38 ?_
      refine hz_isub hx hb dX2_powerBehind_41 ?_
      refine hz_imul hx hb dX2_powerBehind_42 ?_
      refine lv_iload_n hx hb dX2_powerBehind_43 rfl (lv_at hl 0 rfl) ?_
      refine hz_imul hx hb dX2_powerBehind_44 ?_
      refine hz_bipush hx hb dX2_powerBehind_45 (by decide) ?_
      refine lv_aload_n hx hb dX2_powerBehind_47 rfl (lv_at hl 2 rfl) ?_
      obtain ⟨i3, hi3, i3hd, i3ha, i3he, i3hc, i3hk⟩ := hW_m (ah := ah) (z := z) (y := y) (vN := vN) (vC := vC) (vNow := vNow) (vHaze := vHaze) (vCold := vCold) (vHot := vHot) (vPipe := vPipe) (vDeg := vDeg) (vThaw := vThaw) (vTrc := vTrc) (vTurb := vTurb) (vLeft := vLeft) (vLoad := vLoad) (vWater := vWater) (vTrips := vTrips) (vMi1 := vMi1) (vMi2 := vMi2) (vSz := vSz) (vBs := vBs) (vCell := vCell) (vDirt := vDirt) (vAim := vAim) (vErr := vErr) (vCor := vCor) (vBrk := vBrk) (vTop := vTop) (vLm := vLm) (vRows := vRows) (vCols := vCols) (vDown := vDown) (vRight := vRight) (vBound := vBound) (vStrain := vStrain) (vPrice := vPrice) (vFirm := vFirm) (vSums := vSums) (vTk := vTk) (vFl1 := vFl1) (vFl2 := vFl2) (vTe := vTe) (vAw := vAw) (vRo := vRo) (vBe := vBe) (k := k) (by omega) (by omega)
      refine hz_callRi (As := []) (rest := [zi 20, zi (((strZ (vNow + tt)) * (10 - vHaze)) * (10 - (hdZ (vDirt k + ((vNow + tt) / 24 - vNow / 24)) 0 9)))]) ⟨hx, hb, hml, hown, hts⟩ (c_X4_distance l G (zam z k) y (vCell k) ((vCell k) / 8) ((vCell k) % 8) (vDirt k) (vAim k) (vErr k) (vCor k) (vBrk k)  (by omega)) (cwV 0 hts gX2_powerBehind_X4_distance rfl rfl rfl (by decide +kernel) ⟨Nat.le_of_ble_eq_true rfl, Nat.le_of_ble_eq_true rfl⟩) (hz_cons hP (i := i3) hi3 hz_nil) hK 0 5 rfl rfl rfl rfl hl.1 rfl (Nat.le_of_ble_eq_true rfl) dX2_powerBehind_48 ⟨Nat.zero_le _, Nat.zero_le _⟩ ?_
      refine hz_tope (z2 := (dstZ (vCell k))) (by rfl) ?_
      refine hz_isub hx hb dX2_powerBehind_51 ?_
      refine hz_imul hx hb dX2_powerBehind_52 ?_
      refine hz_bipush hx hb dX2_powerBehind_53 (by decide) ?_
      refine hz_idiv hx hb dX2_powerBehind_55 (by omega) ?_
      exact W.iret (v := zI (((((strZ (vNow + tt)) * (10 - vHaze)) * (10 - (hdZ (vDirt k + ((vNow + tt) / 24 - vNow / 24)) 0 9))) * (20 - (dstZ (vCell k)))) / 20)) hx hb hr (fun t ht hW => ⟨zI (((((strZ (vNow + tt)) * (10 - vHaze)) * (10 - (hdZ (vDirt k + ((vNow + tt) / 24 - vNow / 24)) 0 9))) * (20 - (dstZ (vCell k)))) / 20), rfl, congrArg zI (by unfold pwZ; first | exact (if_pos (by omega)).symm | exact (if_neg (by omega)).symm), ht⟩) (fun q hq => absurd hq List.not_mem_nil) dX2_powerBehind_56
    · refine hz_iconst hx hb dX2_powerBehind_18 ?_
      exact W.iret (v := zI 0) hx hb hr (fun t ht hW => ⟨zI 0, rfl, congrArg zI (by unfold pwZ; first | exact (if_pos (by omega)).symm | exact (if_neg (by omega)).symm), ht⟩) (fun q hq => absurd hq List.not_mem_nil) dX2_powerBehind_19
set_option maxHeartbeats 4000000 in
set_option maxRecDepth 100000 in
theorem c_X2_tenthOf (l : Launch) (G : va_G) (ah : Nat → Nat) (z : LZ) (zE : Nat) (y : Nat → ClassId) (vN vC vNow vHaze vCold vHot vPipe vDeg vThaw vTrc vTurb vLeft vLoad vWater vTrips vMi1 vMi2 vSz vBs : Int) (vCell vDirt vAim vErr vCor vBrk vTop vLm vRows vCols vDown vRight vBound vStrain vPrice vFirm vSums vTk vFl1 vFl2 vTe vAw vRo vBe : Int → Int) (k : Int) (hZ : LZok z vN vC) (hTk : ∀ j9 : Int, 0 ≤ j9 → j9 < 64 → vTk j9 = ocZ vN vCell j9) (hN : 0 ≤ vN ∧ vN ≤ 12) (hC : 0 ≤ vC ∧ vC ≤ 4) (hNow : 0 ≤ vNow ∧ vNow ≤ 9999) (hHaze : 0 ≤ vHaze ∧ vHaze ≤ 9) (hCell : ∀ j9 : Int, 0 ≤ vCell j9 ∧ vCell j9 ≤ 63) (hDirt : ∀ j9 : Int, 0 ≤ vDirt j9 ∧ vDirt j9 ≤ 9) (hTop : ∀ j9 : Int, -(16 + vNow) ≤ vTop j9 ∧ vTop j9 ≤ 16 + vNow) (hLm : ∀ j9 : Int, -(16 + vNow) ≤ vLm j9 ∧ vLm j9 ≤ 16 + vNow) (hRows : ∀ j9 : Int, 0 ≤ vRows j9 ∧ vRows j9 ≤ 8) (hCols : ∀ j9 : Int, 0 ≤ vCols j9 ∧ vCols j9 ≤ 8) (hDown : ∀ j9 : Int, -1 ≤ vDown j9 ∧ vDown j9 ≤ 1) (hRight : ∀ j9 : Int, -1 ≤ vRight j9 ∧ vRight j9 ≤ 1) (hk : 0 ≤ k ∧ k < vN) : Met l yX2_tenthOf wsX2_tenthOf ({ frames := 5, cells := 0, slots := 0, locals := 110 }) (va_Pc [.ref (ah 1), .ref (zam z k)] (HPrG zE G (tyL y) (hW ah z y vN vC vNow vHaze vCold vHot vPipe vDeg vThaw vTrc vTurb vLeft vLoad vWater vTrips vMi1 vMi2 vSz vBs vCell vDirt vAim vErr vCor vBrk vTop vLm vRows vCols vDown vRight vBound vStrain vPrice vFirm vSums vTk vFl1 vFl2 vTe vAw vRo vBe))) (vp_Si (fun r => r = zI ((ryZ vN vC vNow vHaze vCell vDirt vTop vLm vRows vCols vDown vRight) k))) 0 0 (fun _ => False) := by
  refine hz_ofRG (cc := cX2_tenthOf) (maxL := 2) (ret := (some .int)) (by decide) rfl (Nat.le_of_ble_eq_true rfl) ?_
  intro p e s m below meth c A ls hA0 hx hb hr hts hown hlocks hml hP hK hS hGP hl
  have hown : s.vm.findClass RX2 = some m.cls := hown
  have hl : lv_has ls 2 [(0, .ref (ah 1)), (1, .ref (zam z k))] := hl
  have hinwsJx4a65c0 : ∀ w ∈ wsJx4a65c0, w ∈ wsX2_tenthOf := fun _ h => List.mem_cons_of_mem _ (List.mem_append_left _ (List.mem_append_left _ (List.mem_append_right _ (h))))
  have hinwsX10 : ∀ w ∈ wsX10, w ∈ wsX2_tenthOf := fun _ h => List.mem_cons_of_mem _ (List.mem_append_right _ (h))
  have hinwsX20 : ∀ w ∈ wsX20, w ∈ wsX2_tenthOf := fun _ h => List.mem_cons_of_mem _ (List.mem_append_left _ (List.mem_append_left _ (List.mem_append_left _ (List.mem_append_right _ (h)))))
  have hinwsX40 : ∀ w ∈ wsX40, w ∈ wsX2_tenthOf := fun _ h => List.mem_cons_of_mem _ (List.mem_append_left _ (List.mem_append_right _ (h)))
  have qr := pwZ_rng (n := vN) (cl := vC) (now := vNow) (dirt := vDirt) (top := vTop) (lm := vLm) (rows := vRows) (cols := vCols) (down := vDown) (right := vRight) (t := 0) hHaze (hCell k)
  refine lv_aload_n hx hb dX2_tenthOf_0 rfl (lv_at hl 0 rfl) ?_
  refine lv_aload_n hx hb dX2_tenthOf_1 rfl (lv_at hl 1 rfl) ?_
  refine hz_iconst hx hb dX2_tenthOf_2 ?_
  refine hz_callRiG (As := [.ref (zam z k), zi 0]) (rest := []) ⟨hx, hb, hml, hown, hts⟩ (c_X2_powerBehind l G ah z zE y vN vC vNow vHaze vCold vHot vPipe vDeg vThaw vTrc vTurb vLeft vLoad vWater vTrips vMi1 vMi2 vSz vBs vCell vDirt vAim vErr vCor vBrk vTop vLm vRows vCols vDown vRight vBound vStrain vPrice vFirm vSums vTk vFl1 vFl2 vTe vAw vRo vBe 0 k hZ hTk hN hC hNow hHaze hCell hDirt hTop hLm hRows hCols hDown hRight (by omega) (by omega)) (cwV 2 hts gX2_tenthOf_X2_powerBehind rfl rfl rfl (by decide +kernel) ⟨Nat.le_of_ble_eq_true rfl, Nat.le_of_ble_eq_true rfl⟩) hP hK hS hGP 1 3 rfl rfl rfl rfl hl.1 rfl (Nat.le_of_ble_eq_true rfl) dX2_tenthOf_3 ⟨Nat.zero_le _, Nat.zero_le _⟩ ?_
  refine hz_bipush hx hb dX2_tenthOf_6 (by decide) ?_
  refine hz_idiv hx hb dX2_tenthOf_8 (by omega) ?_
  exact W.iret (v := zI ((pwZ vN vC vNow vHaze vCell vDirt vTop vLm vRows vCols vDown vRight k 0) / 10)) hx hb hr (fun t ht hW => ⟨zI ((pwZ vN vC vNow vHaze vCell vDirt vTop vLm vRows vCols vDown vRight k 0) / 10), rfl, congrArg zI (rfl), ht⟩) (fun q hq => absurd hq List.not_mem_nil) dX2_tenthOf_9
theorem c_X7_isIn (l : Launch) (set : Int) (k : Int) (hs : 0 ≤ set ∧ set < 2147483648) (hk : 0 ≤ k ∧ k ≤ 31) : Met l yX7_isIn wsX7_isIn ({ frames := 0, cells := 0, slots := 0, locals := 0 }) (va_Pc [zi set, zi k] (fun _ => True)) (vp_Si (fun r => r = zI (memZ set k))) 0 0 (fun _ => False) := by
  refine hz_ofS (cc := cX7_isIn) (maxL := 2) (ret := (some .boolean)) (by decide) rfl (Nat.le_of_ble_eq_true rfl) ?_
  intro p e s m below meth c ls hx hb hr hts hown hlocks hml hl
  have hown : s.vm.findClass RX7 = some m.cls := hown
  have hl : lv_has ls 2 [(0, zi set), (1, zi k)] := hl
  refine lv_iload_n hx hb dX7_isIn_0 rfl (lv_at hl 0 rfl) ?_
  refine lv_iload_n hx hb dX7_isIn_1 rfl (lv_at hl 1 rfl) ?_
  have q1 := shr_rng (a := set) (k := (k : Int).toNat) (by omega)
  refine hz_ishr hx hb dX7_isIn_2 (by omega) ?_
  refine hz_iconst hx hb dX7_isIn_3 ?_
  refine hz_iand1 hx hb dX7_isIn_4 (by omega) ?_
  refine hz_iconst hx hb dX7_isIn_5 ?_
  refine hz_icmp_ne (tgt := 13) hx hb dX7_isIn_6 (by decide) (by omega) (fun c2 => ?_) (fun c2 => ?_)
  · refine hz_iconst hx hb dX7_isIn_13 ?_
    exact W.zret (ty := .boolean) (v := zI 0) hx hb hr (zI_nb (by omega)) (fun t ht hW => ⟨zI 0, rfl, congrArg zI (by unfold memZ; omega), ht⟩) (fun q hq => absurd hq List.not_mem_nil) dX7_isIn_14
  · refine hz_iconst hx hb dX7_isIn_9 ?_
    refine lv_goto (tgt := 14) hx hb dX7_isIn_10 (by decide) ?_
    exact W.zret (ty := .boolean) (v := zI 1) hx hb hr (zI_nb (by omega)) (fun t ht hW => ⟨zI 1, rfl, congrArg zI (by unfold memZ; omega), ht⟩) (fun q hq => absurd hq List.not_mem_nil) dX7_isIn_14
abbrev Q_shine1 (G : va_G) (ah : Nat → Nat) (z : LZ) (y : Nat → ClassId) (vN vC vNow vHaze vCold vHot vPipe vDeg vThaw vTrc vTurb vLeft vLoad vWater vTrips vMi1 vMi2 vSz vBs : Int) (vCell vDirt vAim vErr vCor vBrk vTop vLm vRows vCols vDown vRight vBound vStrain vPrice vFirm vSums vTk vFl1 vFl2 vTe vAw vRo vBe : Int → Int) (wi : Int) (A : Nat → Prop) : Array Value → State → Outcome → State → Prop := va_Qv (fun (u : (Int → Int) × Int) => (∀ q : Int, 0 ≤ q → q ≤ 5 → u.1 q = baZ wi vN vAim vErr vCor (ryZ vN vC vNow vHaze vCell vDirt vTop vLm vRows vCols vDown vRight) q) ∧ (u.2 = byZ wi vN vAim vErr vCor (ryZ vN vC vNow vHaze vCell vDirt vTop vLm vRows vCols vDown vRight))) (fun (u : (Int → Int) × Int) t => va_P G vwCl (hW ah z y vN vC vNow vHaze vCold vHot vPipe vDeg vThaw vTrc vTurb vLeft vLoad vWater vTrips u.2 vMi2 vSz vBs vCell vDirt vAim vErr vCor vBrk vTop vLm vRows vCols vDown vRight vBound vStrain vPrice vFirm vSums vTk u.1 vFl2 vTe vAw vRo vBe) t.heap) A
set_option maxHeartbeats 4000000 in
set_option maxRecDepth 100000 in
theorem c_shine1 (l : Launch) (G : va_G) (ah : Nat → Nat) (z : LZ) (zE : Nat) (y : Nat → ClassId) (sz : Nat) (vN vC vNow vHaze vCold vHot vPipe vDeg vThaw vTrc vTurb vLeft vLoad vWater vTrips vMi1 vMi2 vSz vBs : Int) (vCell vDirt vAim vErr vCor vBrk vTop vLm vRows vCols vDown vRight vBound vStrain vPrice vFirm vSums vTk vFl1 vFl2 vTe vAw vRo vBe : Int → Int) (wi : Int) (hZ : LZok z vN vC) (hTk : ∀ j9 : Int, 0 ≤ j9 → j9 < 64 → vTk j9 = ocZ vN vCell j9) (hN : 0 ≤ vN ∧ vN ≤ 12) (hC : 0 ≤ vC ∧ vC ≤ 4) (hNow : 0 ≤ vNow ∧ vNow ≤ 9999) (hHaze : 0 ≤ vHaze ∧ vHaze ≤ 9) (hCell : ∀ j9 : Int, 0 ≤ vCell j9 ∧ vCell j9 ≤ 63) (hDirt : ∀ j9 : Int, 0 ≤ vDirt j9 ∧ vDirt j9 ≤ 9) (hTop : ∀ j9 : Int, -(16 + vNow) ≤ vTop j9 ∧ vTop j9 ≤ 16 + vNow) (hLm : ∀ j9 : Int, -(16 + vNow) ≤ vLm j9 ∧ vLm j9 ≤ 16 + vNow) (hRows : ∀ j9 : Int, 0 ≤ vRows j9 ∧ vRows j9 ≤ 8) (hCols : ∀ j9 : Int, 0 ≤ vCols j9 ∧ vCols j9 ≤ 8) (hDown : ∀ j9 : Int, -1 ≤ vDown j9 ∧ vDown j9 ≤ 1) (hRight : ∀ j9 : Int, -1 ≤ vRight j9 ∧ vRight j9 ≤ 1) (hAim : ∀ j9 : Int, -1 ≤ vAim j9 ∧ vAim j9 ≤ 5) (hErr : ∀ j9 : Int, -3 ≤ vErr j9 ∧ vErr j9 ≤ 3) (hCor : ∀ j9 : Int, -3 ≤ vCor j9 ∧ vCor j9 ≤ 3) (hw : 0 ≤ wi ∧ wi < 2147483648) : Met l yX2_shineOn wsX2_shineOn ({ frames := 6, cells := 0, slots := 0, locals := 131 }) (va_Pc [.ref (ah 1), .ref (ah 2), zi wi] (HPreG zE G (tyL y) (hW ah z y vN vC vNow vHaze vCold vHot vPipe vDeg vThaw vTrc vTurb vLeft vLoad vWater vTrips vMi1 vMi2 vSz vBs vCell vDirt vAim vErr vCor vBrk vTop vLm vRows vCols vDown vRight vBound vStrain vPrice vFirm vSums vTk vFl1 vFl2 vTe vAw vRo vBe) sz)) (Q_shine1 G ah z y vN vC vNow vHaze vCold vHot vPipe vDeg vThaw vTrc vTurb vLeft vLoad vWater vTrips vMi1 vMi2 vSz vBs vCell vDirt vAim vErr vCor vBrk vTop vLm vRows vCols vDown vRight vBound vStrain vPrice vFirm vSums vTk vFl1 vFl2 vTe vAw vRo vBe wi (va_A (hW ah z y vN vC vNow vHaze vCold vHot vPipe vDeg vThaw vTrc vTurb vLeft vLoad vWater vTrips vMi1 vMi2 vSz vBs vCell vDirt vAim vErr vCor vBrk vTop vLm vRows vCols vDown vRight vBound vStrain vPrice vFirm vSums vTk vFl1 vFl2 vTe vAw vRo vBe) sz)) 0 0 (va_A (hW ah z y vN vC vNow vHaze vCold vHot vPipe vDeg vThaw vTrc vTurb vLeft vLoad vWater vTrips vMi1 vMi2 vSz vBs vCell vDirt vAim vErr vCor vBrk vTop vLm vRows vCols vDown vRight vBound vStrain vPrice vFirm vSums vTk vFl1 vFl2 vTe vAw vRo vBe) sz) := by
  refine hz_ofWG (Qf := Q_shine1 G ah z y vN vC vNow vHaze vCold vHot vPipe vDeg vThaw vTrc vTurb vLeft vLoad vWater vTrips vMi1 vMi2 vSz vBs vCell vDirt vAim vErr vCor vBrk vTop vLm vRows vCols vDown vRight vBound vStrain vPrice vFirm vSums vTk vFl1 vFl2 vTe vAw vRo vBe wi) (cc := cX2_shineOn) (maxL := 5) (ret := none) (by decide) rfl (Nat.le_of_ble_eq_true rfl) ?_
  intro p e s m below meth c A ls hx hb hr hts hown hin hlocks hml hP hK hA hD hS hGP hl
  have hown : s.vm.findClass RX2 = some m.cls := hown
  have hl : lv_has ls 5 [(0, .ref (ah 1)), (1, .ref (ah 2)), (2, zi wi)] := hl
  have hinwsJx4a65c0 : ∀ w ∈ wsJx4a65c0, w ∈ wsX2_shineOn := fun _ h => List.mem_cons_of_mem _ (List.mem_append_left _ (List.mem_append_right _ (h)))
  have hinwsX10 : ∀ w ∈ wsX10, w ∈ wsX2_shineOn := fun _ h => List.mem_cons_of_mem _ (List.mem_append_right _ (h))
  have hinwsX20 : ∀ w ∈ wsX20, w ∈ wsX2_shineOn := fun _ h => List.mem_cons_of_mem _ (List.mem_append_left _ (List.mem_append_left _ (List.mem_append_left _ (List.mem_append_left _ (List.mem_append_right _ (h))))))
  have hinwsX30 : ∀ w ∈ wsX30, w ∈ wsX2_shineOn := fun _ h => List.mem_cons_of_mem _ (List.mem_append_left _ (List.mem_append_left _ (List.mem_append_right _ (h))))
  have hinwsX40 : ∀ w ∈ wsX40, w ∈ wsX2_shineOn := fun _ h => List.mem_cons_of_mem _ (List.mem_append_left _ (List.mem_append_left _ (List.mem_append_left _ (List.mem_append_right _ (h)))))
  refine lv_aload_n hx hb dX2_shineOn_0 rfl (lv_at hl 1 rfl) ?_
  refine hz_callVv (ws := (hW ah z y vN vC vNow vHaze vCold vHot vPipe vDeg vThaw vTrc vTurb vLeft vLoad vWater vTrips vMi1 vMi2 vSz vBs vCell vDirt vAim vErr vCor vBrk vTop vLm vRows vCols vDown vRight vBound vStrain vPrice vFirm vSums vTk vFl1 vFl2 vTe vAw vRo vBe)) (wc := (lW (ah 2) (ah 12) y vMi1 vFl1)) (As := []) (rest := []) ⟨hx, hb, hml, hown, hts⟩ (c_X3_darken l G (ah 2) (ah 12) y _ vMi1 vFl1  ) (cwV 0 hts gX2_shineOn_X3_darken rfl rfl rfl (by decide +kernel) ⟨Nat.le_of_ble_eq_true rfl, Nat.le_of_ble_eq_true rfl⟩) hP hK hD hS hA [2, 12] [0, 1, 2, 3] rfl rfl rfl 2 4 rfl rfl rfl rfl hl.1 rfl (Nat.le_of_ble_eq_true rfl) dX2_shineOn_1 ⟨Nat.zero_le _, Nat.zero_le _⟩ (fun _ => rfl) (fun f_1 H locs hu hP hD hS => ?_)
  have p2 : ∀ q : Int, 0 ≤ q → q ≤ 5 → f_1 q = 0 := hu
  have hP : va_P G vwCl (hW ah z y vN vC vNow vHaze vCold vHot vPipe vDeg vThaw vTrc vTurb vLeft vLoad vWater vTrips 0 vMi2 vSz vBs vCell vDirt vAim vErr vCor vBrk vTop vLm vRows vCols vDown vRight vBound vStrain vPrice vFirm vSums vTk f_1 vFl2 vTe vAw vRo vBe) H := hP
  have hD : va_D A (hW ah z y vN vC vNow vHaze vCold vHot vPipe vDeg vThaw vTrc vTurb vLeft vLoad vWater vTrips 0 vMi2 vSz vBs vCell vDirt vAim vErr vCor vBrk vTop vLm vRows vCols vDown vRight vBound vStrain vPrice vFirm vSums vTk f_1 vFl2 vTe vAw vRo vBe) := hD
  refine hz_iconst hx hb dX2_shineOn_4 ?_
  refine lv_istore_n (lv' := [(3, zi 0), (0, .ref (ah 1)), (1, .ref (ah 2)), (2, zi wi)]) hx hb dX2_shineOn_5 rfl hl (by decide) rfl (fun ls hl => ?_)
  have L6 : ∀ (n : Nat) (k : Int) (f : Int → Int) (mi : Int) (H : Heap) (locs : List Loc), (0 ≤ k ∧ k ≤ vN) → (∀ q : Int, 0 ≤ q → q ≤ 5 → f q = smZ (bzZ wi vAim vErr vCor (ryZ vN vC vNow vHaze vCell vDirt vTop vLm vRows vCols vDown vRight) q) k.toNat) → (mi = smZ (bmZ wi vAim vErr vCor (ryZ vN vC vNow vHaze vCell vDirt vTop vLm vRows vCols vDown vRight)) k.toNat) → ((vN - k).toNat) < n → va_P G vwCl (hW ah z y vN vC vNow vHaze vCold vHot vPipe vDeg vThaw vTrc vTurb vLeft vLoad vWater vTrips mi vMi2 vSz vBs vCell vDirt vAim vErr vCor vBrk vTop vLm vRows vCols vDown vRight vBound vStrain vPrice vFirm vSums vTk f vFl2 vTe vAw vRo vBe) H → va_D A (hW ah z y vN vC vNow vHaze vCold vHot vPipe vDeg vThaw vTrc vTurb vLeft vLoad vWater vTrips mi vMi2 vSz vBs vCell vDirt vAim vErr vCor vBrk vTop vLm vRows vCols vDown vRight vBound vStrain vPrice vFirm vSums vTk f vFl2 vTe vAw vRo vBe) → va_S A s.heap H locs → ∀ ls : Array Slot, lv_has ls 5 [(0, .ref (ah 1)), (1, .ref (ah 2)), (2, zi wi), (3, zi k)] → W p l e (headSpec wsX2_shineOn ({ frames := 6, cells := 0, slots := 0, locals := 131 })).room s m ([.ref (ah 1), .ref (ah 2), zi wi] : List Value).toArray below meth c H locs 0 0 (MQ below (Q_shine1 G ah z y vN vC vNow vHaze vCold vHot vPipe vDeg vThaw vTrc vTurb vLeft vLoad vWater vTrips vMi1 vMi2 vSz vBs vCell vDirt vAim vErr vCor vBrk vTop vLm vRows vCols vDown vRight vBound vStrain vPrice vFirm vSums vTk vFl1 vFl2 vTe vAw vRo vBe wi A) ([.ref (ah 1), .ref (ah 2), zi wi] : List Value).toArray s 0 0 A) (F0 m 6 ls []) := by
    intro n
    induction n with
    | zero => exact fun k f mi H locs h_k6 h_f6 h_m6 hm => absurd hm (Nat.not_lt_zero _)
    | succ n ih6 =>
      intro k f mi H locs h_k6 h_f6 h_m6 hm6 hP hD hS ls hl
      refine lv_iload_n hx hb dX2_shineOn_6 rfl (lv_at hl 3 rfl) ?_
      refine lv_aload_n hx hb dX2_shineOn_7 rfl (lv_at hl 0 rfl) ?_
      refine va_get (D := G) (ci := 3) (v := .ref (ah 19)) (C := RX2) (T := TX2) (N := 5) hx hb hts hinwsX20 hown hK hP 1 rfl rfl 0 (by decide) (hts (.fieldLink RX2 12 "Heliokeep$Field" "mirrors" "Ljava/util/ArrayList;") (List.mem_of_getElem? (i := 1) rfl)) (fun _ h9 => h9) rfl dX2_shineOn_8 ?_
      refine hz_callRi (As := []) (rest := [zi k]) ⟨hx, hb, hml, hown, hts⟩ (c_Jx4a65c_size_8abf5 l G (ah 19) (.int z.1) (.ref z.2.2.1) y vN) (cwV 0 hts gX2_shineOn_Jx4a65c_size_8abf5 rfl rfl rfl (by decide +kernel) ⟨Nat.le_of_ble_eq_true rfl, Nat.le_of_ble_eq_true rfl⟩) (hz_cons hP (i := 19) rfl hz_nil) hK 0 0 rfl rfl rfl rfl hl.1 rfl (Nat.le_of_ble_eq_true rfl) dX2_shineOn_11 ⟨Nat.zero_le _, Nat.zero_le _⟩ ?_
      refine hz_icmp_ge (tgt := 68) hx hb dX2_shineOn_14 (by decide) (by omega) (fun c3 => ?_) (fun c3 => ?_)
      · exact W.vret hx hb hr (fun t ht hW => ⟨⟨(f, mi), rfl, ⟨(show ∀ q : Int, 0 ≤ q → q ≤ 5 → f q = baZ wi vN vAim vErr vCor (ryZ vN vC vNow vHaze vCell vDirt vTop vLm vRows vCols vDown vRight) q from fun q a b => by rw [h_f6 q a b, show k = vN from by omega]; rfl), (show mi = byZ wi vN vAim vErr vCor (ryZ vN vC vNow vHaze vCell vDirt vTop vLm vRows vCols vDown vRight) from by rw [h_m6, show k = vN from by omega]; rfl)⟩, hz_at hP ht⟩, hS.F ht⟩) hS.2.2 dX2_shineOn_68
      · refine lv_aload_n hx hb dX2_shineOn_17 rfl (lv_at hl 0 rfl) ?_
        refine va_get (D := G) (ci := 3) (v := .ref (ah 19)) (C := RX2) (T := TX2) (N := 5) hx hb hts hinwsX20 hown hK hP 1 rfl rfl 0 (by decide) (hts (.fieldLink RX2 12 "Heliokeep$Field" "mirrors" "Ljava/util/ArrayList;") (List.mem_of_getElem? (i := 1) rfl)) (fun _ h9 => h9) rfl dX2_shineOn_18 ?_
        refine lv_iload_n hx hb dX2_shineOn_21 rfl (lv_at hl 3 rfl) ?_
        obtain ⟨i4, hi4⟩ := hW_l1 (ah := ah) (z := z) (y := y) (vN := vN) (vC := vC) (vNow := vNow) (vHaze := vHaze) (vCold := vCold) (vHot := vHot) (vPipe := vPipe) (vDeg := vDeg) (vThaw := vThaw) (vTrc := vTrc) (vTurb := vTurb) (vLeft := vLeft) (vLoad := vLoad) (vWater := vWater) (vTrips := vTrips) (vMi1 := mi) (vMi2 := vMi2) (vSz := vSz) (vBs := vBs) (vCell := vCell) (vDirt := vDirt) (vAim := vAim) (vErr := vErr) (vCor := vCor) (vBrk := vBrk) (vTop := vTop) (vLm := vLm) (vRows := vRows) (vCols := vCols) (vDown := vDown) (vRight := vRight) (vBound := vBound) (vStrain := vStrain) (vPrice := vPrice) (vFirm := vFirm) (vSums := vSums) (vTk := vTk) (vFl1 := f) (vFl2 := vFl2) (vTe := vTe) (vAw := vAw) (vRo := vRo) (vBe := vBe) hZ (by omega)
        refine hz_callRq (As := [zi k]) (rest := []) ⟨hx, hb, hml, hown, hts⟩ (c_Jx4a65c_get_915e3 l G (ah 19) z.2.2.1 (.int z.1) z.2.2.2.1 z.2.2.2.2.1 y vN k (zam z k) (by omega) hZ.1.2.1 (hZ.1.2.2 k (by omega) (by omega))) (cwV 1 hts gX2_shineOn_Jx4a65c_get_915e3 rfl rfl rfl (by decide +kernel) ⟨Nat.le_of_ble_eq_true rfl, Nat.le_of_ble_eq_true rfl⟩) (hz_cons hP (i := 19) rfl (hz_cons hP (i := i4) hi4 hz_nil)) hK 0 0 rfl rfl rfl rfl hl.1 rfl (Nat.le_of_ble_eq_true rfl) dX2_shineOn_22 ⟨Nat.zero_le _, Nat.zero_le _⟩ ?_
        obtain ⟨i5, hi5, i5hd, i5ha, i5he, i5hc, i5hk⟩ := hW_m (ah := ah) (z := z) (y := y) (vN := vN) (vC := vC) (vNow := vNow) (vHaze := vHaze) (vCold := vCold) (vHot := vHot) (vPipe := vPipe) (vDeg := vDeg) (vThaw := vThaw) (vTrc := vTrc) (vTurb := vTurb) (vLeft := vLeft) (vLoad := vLoad) (vWater := vWater) (vTrips := vTrips) (vMi1 := mi) (vMi2 := vMi2) (vSz := vSz) (vBs := vBs) (vCell := vCell) (vDirt := vDirt) (vAim := vAim) (vErr := vErr) (vCor := vCor) (vBrk := vBrk) (vTop := vTop) (vLm := vLm) (vRows := vRows) (vCols := vCols) (vDown := vDown) (vRight := vRight) (vBound := vBound) (vStrain := vStrain) (vPrice := vPrice) (vFirm := vFirm) (vSums := vSums) (vTk := vTk) (vFl1 := f) (vFl2 := vFl2) (vTe := vTe) (vAw := vAw) (vRo := vRo) (vBe := vBe) (k := k) (by omega) (by omega)
        refine va_castS (cC := G.1 5) hx hb hown (hts (.classLink RX2 25 "Heliokeep$Mirror") (List.mem_of_getElem? (i := 2) rfl)) (hK.1 5 (RX4, TX4, 8) rfl).2 (va_recv hK hP (ci := 5) (q0 := i5) rfl hi5) dX2_shineOn_25 ?_
        refine lv_astore (lv' := [(4, .ref (zam z k)), (0, .ref (ah 1)), (1, .ref (ah 2)), (2, zi wi), (3, zi k)]) hx hb dX2_shineOn_28 hl (by decide) rfl (fun ls hl => ?_)
        have qa := hAim k
        have qe := hErr k
        have qo := hCor k
        have q01 := memZ_01 wi k
        refine lv_aload hx hb dX2_shineOn_30 (lv_at hl 0 rfl) ?_
        obtain ⟨i6, hi6, i6hd, i6ha, i6he, i6hc, i6hk⟩ := hW_m (ah := ah) (z := z) (y := y) (vN := vN) (vC := vC) (vNow := vNow) (vHaze := vHaze) (vCold := vCold) (vHot := vHot) (vPipe := vPipe) (vDeg := vDeg) (vThaw := vThaw) (vTrc := vTrc) (vTurb := vTurb) (vLeft := vLeft) (vLoad := vLoad) (vWater := vWater) (vTrips := vTrips) (vMi1 := mi) (vMi2 := vMi2) (vSz := vSz) (vBs := vBs) (vCell := vCell) (vDirt := vDirt) (vAim := vAim) (vErr := vErr) (vCor := vCor) (vBrk := vBrk) (vTop := vTop) (vLm := vLm) (vRows := vRows) (vCols := vCols) (vDown := vDown) (vRight := vRight) (vBound := vBound) (vStrain := vStrain) (vPrice := vPrice) (vFirm := vFirm) (vSums := vSums) (vTk := vTk) (vFl1 := f) (vFl2 := vFl2) (vTe := vTe) (vAw := vAw) (vRo := vRo) (vBe := vBe) (k := k) (by omega) (by omega)
        refine va_get (D := G) (ci := 5) (v := zi (vAim k)) (C := RX4) (T := TX4) (N := 8) hx hb hts hinwsX40 hown hK hP i6 hi6 rfl 4 (by decide) (hts (.fieldLink RX2 106 "Heliokeep$Mirror" "aim" "I") (List.mem_of_getElem? (i := 3) rfl)) (fun _ h9 => h9) rfl dX2_shineOn_32 ?_
        refine hz_iconst hx hb dX2_shineOn_35 ?_
        refine hz_icmp_eq (tgt := 62) hx hb dX2_shineOn_36 (by decide) (by omega) (fun c7 => ?_) (fun c7 => ?_)
        · refine hz_iinc (v := (k + 1)) (lv' := [(3, zi (k + 1)), (4, .ref (zam z k)), (0, .ref (ah 1)), (1, .ref (ah 2)), (2, zi wi)]) hx hb dX2_shineOn_62 hl (k := 4) rfl (by omega) (by decide) rfl (fun ls hl => ?_)
          refine lv_goto (tgt := 6) hx hb dX2_shineOn_65 (by decide) ?_
          exact ih6 (k + 1) f mi _ _ (by omega) (by
          intro q h0 h1
          rw [smZ_s (by omega)]
          first
            | (rw [h_f6 q h0 h1, h_f6 q h0 h1, bz_1 (by omega) (by omega)]; done)
            | (rw [bz_0a (by omega), h_f6 q h0 h1]; omega)
            | (rw [bz_0m (by omega), h_f6 q h0 h1]; omega)) (by
          rw [smZ_s (by omega)]
          first
            | (rw [h_m6, h_m6, bm_1 (by omega) (by omega)]; done)
            | (rw [bm_0a (by omega), h_m6]; omega)
            | (rw [bm_0m (by omega), h_m6]; omega)) (by omega) hP hD hS ls (lv_sub hl [2, 3, 4, 0] rfl)
        · refine lv_iload_n hx hb dX2_shineOn_39 rfl (lv_at hl 3 rfl) ?_
          refine lv_iload_n hx hb dX2_shineOn_40 rfl (lv_at hl 4 rfl) ?_
          refine hz_callSNi (host := "Heliokeep") (As := [zi wi, zi k]) (rest := []) ⟨hx, hb, hml, hown, hts⟩ (c_X7_isIn l wi k (by omega) (by omega)) ⟨va_cnB 2 hts (goodIn_sub (fun w h => by rw [List.mem_singleton.mp h]; exact List.mem_of_getElem? (i := 36) rfl) (by decide +kernel)) rfl rfl rfl (hGP.1 (.methodLinkNest "Heliokeep$Field" 109 yX7_isIn "Heliokeep") (by decide +kernel)) (hts (.initialized RX7) (List.mem_of_getElem? (i := 35) rfl)) (by decide +kernel) ⟨Nat.le_of_ble_eq_true rfl, Nat.le_of_ble_eq_true rfl⟩, (hts (.static yX7_isIn) (List.mem_of_getElem? (i := 34) rfl)), trivial⟩ rfl hl.1 rfl (Nat.le_of_ble_eq_true rfl) dX2_shineOn_41 ⟨Nat.zero_le _, Nat.zero_le _⟩ ?_
          refine hz_if_ne (tgt := 62) hx hb dX2_shineOn_44 (by decide) (by omega) (fun c8 => ?_) (fun c8 => ?_)
          · refine hz_iinc (v := (k + 1)) (lv' := [(3, zi (k + 1)), (4, .ref (zam z k)), (0, .ref (ah 1)), (1, .ref (ah 2)), (2, zi wi)]) hx hb dX2_shineOn_62 hl (k := 4) rfl (by omega) (by decide) rfl (fun ls hl => ?_)
            refine lv_goto (tgt := 6) hx hb dX2_shineOn_65 (by decide) ?_
            exact ih6 (k + 1) f mi _ _ (by omega) (by
          intro q h0 h1
          rw [smZ_s (by omega)]
          first
            | (rw [h_f6 q h0 h1, h_f6 q h0 h1, bz_1 (by omega) (by omega)]; done)
            | (rw [bz_0a (by omega), h_f6 q h0 h1]; omega)
            | (rw [bz_0m (by omega), h_f6 q h0 h1]; omega)) (by
          rw [smZ_s (by omega)]
          first
            | (rw [h_m6, h_m6, bm_1 (by omega) (by omega)]; done)
            | (rw [bm_0a (by omega), h_m6]; omega)
            | (rw [bm_0m (by omega), h_m6]; omega)) (by omega) hP hD hS ls (lv_sub hl [2, 3, 4, 0] rfl)
          · refine lv_aload_n hx hb dX2_shineOn_47 rfl (lv_at hl 2 rfl) ?_
            refine lv_aload hx hb dX2_shineOn_48 (lv_at hl 0 rfl) ?_
            obtain ⟨i9, hi9, i9hd, i9ha, i9he, i9hc, i9hk⟩ := hW_m (ah := ah) (z := z) (y := y) (vN := vN) (vC := vC) (vNow := vNow) (vHaze := vHaze) (vCold := vCold) (vHot := vHot) (vPipe := vPipe) (vDeg := vDeg) (vThaw := vThaw) (vTrc := vTrc) (vTurb := vTurb) (vLeft := vLeft) (vLoad := vLoad) (vWater := vWater) (vTrips := vTrips) (vMi1 := mi) (vMi2 := vMi2) (vSz := vSz) (vBs := vBs) (vCell := vCell) (vDirt := vDirt) (vAim := vAim) (vErr := vErr) (vCor := vCor) (vBrk := vBrk) (vTop := vTop) (vLm := vLm) (vRows := vRows) (vCols := vCols) (vDown := vDown) (vRight := vRight) (vBound := vBound) (vStrain := vStrain) (vPrice := vPrice) (vFirm := vFirm) (vSums := vSums) (vTk := vTk) (vFl1 := f) (vFl2 := vFl2) (vTe := vTe) (vAw := vAw) (vRo := vRo) (vBe := vBe) (k := k) (by omega) (by omega)
            refine hz_callRi (As := []) (rest := [.ref (ah 2)]) ⟨hx, hb, hml, hown, hts⟩ (c_X4_place l G (zam z k) y (vCell k) ((vCell k) / 8) ((vCell k) % 8) (vDirt k) (vAim k) (vErr k) (vCor k) (vBrk k)  ) (cwV 0 hts gX2_shineOn_X4_place rfl rfl rfl (by decide +kernel) ⟨Nat.le_of_ble_eq_true rfl, Nat.le_of_ble_eq_true rfl⟩) (hz_cons hP (i := i9) hi9 hz_nil) hK 0 5 rfl rfl rfl rfl hl.1 rfl (Nat.le_of_ble_eq_true rfl) dX2_shineOn_50 ⟨Nat.zero_le _, Nat.zero_le _⟩ ?_
            refine lv_aload_n hx hb dX2_shineOn_53 rfl (lv_at hl 1 rfl) ?_
            refine lv_aload hx hb dX2_shineOn_54 (lv_at hl 0 rfl) ?_
            refine hz_callRiG (As := [.ref (zam z k)]) (rest := [zi ((vAim k) + ((vErr k) - (vCor k))), .ref (ah 2)]) ⟨hx, hb, hml, hown, hts⟩ (c_X2_tenthOf l G ah z zE y vN vC vNow vHaze vCold vHot vPipe vDeg vThaw vTrc vTurb vLeft vLoad vWater vTrips mi vMi2 vSz vBs vCell vDirt vAim vErr vCor vBrk vTop vLm vRows vCols vDown vRight vBound vStrain vPrice vFirm vSums vTk f vFl2 vTe vAw vRo vBe k hZ hTk hN hC hNow hHaze hCell hDirt hTop hLm hRows hCols hDown hRight (by omega)) (cwV 1 hts gX2_shineOn_X2_tenthOf rfl rfl rfl (by decide +kernel) ⟨Nat.le_of_ble_eq_true rfl, Nat.le_of_ble_eq_true rfl⟩) hP hK hS hGP 1 3 rfl rfl rfl rfl hl.1 rfl (Nat.le_of_ble_eq_true rfl) dX2_shineOn_56 ⟨Nat.zero_le _, Nat.zero_le _⟩ ?_
            refine hz_callVv (ws := (hW ah z y vN vC vNow vHaze vCold vHot vPipe vDeg vThaw vTrc vTurb vLeft vLoad vWater vTrips mi vMi2 vSz vBs vCell vDirt vAim vErr vCor vBrk vTop vLm vRows vCols vDown vRight vBound vStrain vPrice vFirm vSums vTk f vFl2 vTe vAw vRo vBe)) (wc := (lW (ah 2) (ah 12) y mi f)) (As := [zi ((vAim k) + ((vErr k) - (vCor k))), zi ((ryZ vN vC vNow vHaze vCell vDirt vTop vLm vRows vCols vDown vRight) k)]) (rest := []) ⟨hx, hb, hml, hown, hts⟩ (c_X3_shine l G (ah 2) (ah 12) y _ mi f ((vAim k) + ((vErr k) - (vCor k))) ((ryZ vN vC vNow vHaze vCell vDirt vTop vLm vRows vCols vDown vRight) k) (by omega)) (cwV 2 hts gX2_shineOn_X3_shine rfl rfl rfl (by decide +kernel) ⟨Nat.le_of_ble_eq_true rfl, Nat.le_of_ble_eq_true rfl⟩) hP hK hD hS hA [2, 12] [0, 1, 2, 3] rfl rfl rfl 2 4 rfl rfl rfl rfl hl.1 rfl (Nat.le_of_ble_eq_true rfl) dX2_shineOn_59 ⟨Nat.zero_le _, Nat.zero_le _⟩ (fun _ => rfl) (fun u H locs hu hP hD hS => ?_)
            obtain ⟨f_10, m_11⟩ := u
            have p12 : ∀ q : Int, 0 ≤ q → q ≤ 5 → f_10 q = f q + raZ ((vAim k) + ((vErr k) - (vCor k))) ((ryZ vN vC vNow vHaze vCell vDirt vTop vLm vRows vCols vDown vRight) k) q := hu.1
            have p13 : m_11 = mi + rmZ ((vAim k) + ((vErr k) - (vCor k))) ((ryZ vN vC vNow vHaze vCell vDirt vTop vLm vRows vCols vDown vRight) k) := hu.2
            have hP : va_P G vwCl (hW ah z y vN vC vNow vHaze vCold vHot vPipe vDeg vThaw vTrc vTurb vLeft vLoad vWater vTrips m_11 vMi2 vSz vBs vCell vDirt vAim vErr vCor vBrk vTop vLm vRows vCols vDown vRight vBound vStrain vPrice vFirm vSums vTk f_10 vFl2 vTe vAw vRo vBe) H := hP
            have hD : va_D A (hW ah z y vN vC vNow vHaze vCold vHot vPipe vDeg vThaw vTrc vTurb vLeft vLoad vWater vTrips m_11 vMi2 vSz vBs vCell vDirt vAim vErr vCor vBrk vTop vLm vRows vCols vDown vRight vBound vStrain vPrice vFirm vSums vTk f_10 vFl2 vTe vAw vRo vBe) := hD
            refine hz_iinc (v := (k + 1)) (lv' := [(3, zi (k + 1)), (4, .ref (zam z k)), (0, .ref (ah 1)), (1, .ref (ah 2)), (2, zi wi)]) hx hb dX2_shineOn_62 hl (k := 4) rfl (by omega) (by decide) rfl (fun ls hl => ?_)
            refine lv_goto (tgt := 6) hx hb dX2_shineOn_65 (by decide) ?_
            exact ih6 (k + 1) f_10 m_11 _ _ (by omega) (by
          intro q h0 h1
          rw [smZ_s (by omega)]
          first
            | (rw [p12 q h0 h1, h_f6 q h0 h1, bz_1 (by omega) (by omega)]; done)
            | (rw [bz_0a (by omega), h_f6 q h0 h1]; omega)
            | (rw [bz_0m (by omega), h_f6 q h0 h1]; omega)) (by
          rw [smZ_s (by omega)]
          first
            | (rw [p13, h_m6, bm_1 (by omega) (by omega)]; done)
            | (rw [bm_0a (by omega), h_m6]; omega)
            | (rw [bm_0m (by omega), h_m6]; omega)) (by omega) hP hD hS ls (lv_sub hl [2, 3, 4, 0] rfl)
  exact L6 _ 0 f_1 0 _ _ (by omega) (fun q a b => p2 q a b) (rfl) (Nat.lt_succ_self _) hP hD hS ls (lv_sub hl [1, 2, 3, 0] rfl)
abbrev Q_shine2 (G : va_G) (ah : Nat → Nat) (z : LZ) (y : Nat → ClassId) (vN vC vNow vHaze vCold vHot vPipe vDeg vThaw vTrc vTurb vLeft vLoad vWater vTrips vMi1 vMi2 vSz vBs : Int) (vCell vDirt vAim vErr vCor vBrk vTop vLm vRows vCols vDown vRight vBound vStrain vPrice vFirm vSums vTk vFl1 vFl2 vTe vAw vRo vBe : Int → Int) (wi : Int) (A : Nat → Prop) : Array Value → State → Outcome → State → Prop := va_Qv (fun (u : (Int → Int) × Int) => (∀ q : Int, 0 ≤ q → q ≤ 5 → u.1 q = baZ wi vN vAim vErr vCor (ryZ vN vC vNow vHaze vCell vDirt vTop vLm vRows vCols vDown vRight) q) ∧ (u.2 = byZ wi vN vAim vErr vCor (ryZ vN vC vNow vHaze vCell vDirt vTop vLm vRows vCols vDown vRight))) (fun (u : (Int → Int) × Int) t => va_P G vwCl (hW ah z y vN vC vNow vHaze vCold vHot vPipe vDeg vThaw vTrc vTurb vLeft vLoad vWater vTrips vMi1 u.2 vSz vBs vCell vDirt vAim vErr vCor vBrk vTop vLm vRows vCols vDown vRight vBound vStrain vPrice vFirm vSums vTk vFl1 u.1 vTe vAw vRo vBe) t.heap) A
set_option maxHeartbeats 4000000 in
set_option maxRecDepth 100000 in
theorem c_shine2 (l : Launch) (G : va_G) (ah : Nat → Nat) (z : LZ) (zE : Nat) (y : Nat → ClassId) (sz : Nat) (vN vC vNow vHaze vCold vHot vPipe vDeg vThaw vTrc vTurb vLeft vLoad vWater vTrips vMi1 vMi2 vSz vBs : Int) (vCell vDirt vAim vErr vCor vBrk vTop vLm vRows vCols vDown vRight vBound vStrain vPrice vFirm vSums vTk vFl1 vFl2 vTe vAw vRo vBe : Int → Int) (wi : Int) (hZ : LZok z vN vC) (hTk : ∀ j9 : Int, 0 ≤ j9 → j9 < 64 → vTk j9 = ocZ vN vCell j9) (hN : 0 ≤ vN ∧ vN ≤ 12) (hC : 0 ≤ vC ∧ vC ≤ 4) (hNow : 0 ≤ vNow ∧ vNow ≤ 9999) (hHaze : 0 ≤ vHaze ∧ vHaze ≤ 9) (hCell : ∀ j9 : Int, 0 ≤ vCell j9 ∧ vCell j9 ≤ 63) (hDirt : ∀ j9 : Int, 0 ≤ vDirt j9 ∧ vDirt j9 ≤ 9) (hTop : ∀ j9 : Int, -(16 + vNow) ≤ vTop j9 ∧ vTop j9 ≤ 16 + vNow) (hLm : ∀ j9 : Int, -(16 + vNow) ≤ vLm j9 ∧ vLm j9 ≤ 16 + vNow) (hRows : ∀ j9 : Int, 0 ≤ vRows j9 ∧ vRows j9 ≤ 8) (hCols : ∀ j9 : Int, 0 ≤ vCols j9 ∧ vCols j9 ≤ 8) (hDown : ∀ j9 : Int, -1 ≤ vDown j9 ∧ vDown j9 ≤ 1) (hRight : ∀ j9 : Int, -1 ≤ vRight j9 ∧ vRight j9 ≤ 1) (hAim : ∀ j9 : Int, -1 ≤ vAim j9 ∧ vAim j9 ≤ 5) (hErr : ∀ j9 : Int, -3 ≤ vErr j9 ∧ vErr j9 ≤ 3) (hCor : ∀ j9 : Int, -3 ≤ vCor j9 ∧ vCor j9 ≤ 3) (hw : 0 ≤ wi ∧ wi < 2147483648) : Met l yX2_shineOn wsX2_shineOn ({ frames := 6, cells := 0, slots := 0, locals := 131 }) (va_Pc [.ref (ah 1), .ref (ah 4), zi wi] (HPreG zE G (tyL y) (hW ah z y vN vC vNow vHaze vCold vHot vPipe vDeg vThaw vTrc vTurb vLeft vLoad vWater vTrips vMi1 vMi2 vSz vBs vCell vDirt vAim vErr vCor vBrk vTop vLm vRows vCols vDown vRight vBound vStrain vPrice vFirm vSums vTk vFl1 vFl2 vTe vAw vRo vBe) sz)) (Q_shine2 G ah z y vN vC vNow vHaze vCold vHot vPipe vDeg vThaw vTrc vTurb vLeft vLoad vWater vTrips vMi1 vMi2 vSz vBs vCell vDirt vAim vErr vCor vBrk vTop vLm vRows vCols vDown vRight vBound vStrain vPrice vFirm vSums vTk vFl1 vFl2 vTe vAw vRo vBe wi (va_A (hW ah z y vN vC vNow vHaze vCold vHot vPipe vDeg vThaw vTrc vTurb vLeft vLoad vWater vTrips vMi1 vMi2 vSz vBs vCell vDirt vAim vErr vCor vBrk vTop vLm vRows vCols vDown vRight vBound vStrain vPrice vFirm vSums vTk vFl1 vFl2 vTe vAw vRo vBe) sz)) 0 0 (va_A (hW ah z y vN vC vNow vHaze vCold vHot vPipe vDeg vThaw vTrc vTurb vLeft vLoad vWater vTrips vMi1 vMi2 vSz vBs vCell vDirt vAim vErr vCor vBrk vTop vLm vRows vCols vDown vRight vBound vStrain vPrice vFirm vSums vTk vFl1 vFl2 vTe vAw vRo vBe) sz) := by
  refine hz_ofWG (Qf := Q_shine2 G ah z y vN vC vNow vHaze vCold vHot vPipe vDeg vThaw vTrc vTurb vLeft vLoad vWater vTrips vMi1 vMi2 vSz vBs vCell vDirt vAim vErr vCor vBrk vTop vLm vRows vCols vDown vRight vBound vStrain vPrice vFirm vSums vTk vFl1 vFl2 vTe vAw vRo vBe wi) (cc := cX2_shineOn) (maxL := 5) (ret := none) (by decide) rfl (Nat.le_of_ble_eq_true rfl) ?_
  intro p e s m below meth c A ls hx hb hr hts hown hin hlocks hml hP hK hA hD hS hGP hl
  have hown : s.vm.findClass RX2 = some m.cls := hown
  have hl : lv_has ls 5 [(0, .ref (ah 1)), (1, .ref (ah 4)), (2, zi wi)] := hl
  have hinwsJx4a65c0 : ∀ w ∈ wsJx4a65c0, w ∈ wsX2_shineOn := fun _ h => List.mem_cons_of_mem _ (List.mem_append_left _ (List.mem_append_right _ (h)))
  have hinwsX10 : ∀ w ∈ wsX10, w ∈ wsX2_shineOn := fun _ h => List.mem_cons_of_mem _ (List.mem_append_right _ (h))
  have hinwsX20 : ∀ w ∈ wsX20, w ∈ wsX2_shineOn := fun _ h => List.mem_cons_of_mem _ (List.mem_append_left _ (List.mem_append_left _ (List.mem_append_left _ (List.mem_append_left _ (List.mem_append_right _ (h))))))
  have hinwsX30 : ∀ w ∈ wsX30, w ∈ wsX2_shineOn := fun _ h => List.mem_cons_of_mem _ (List.mem_append_left _ (List.mem_append_left _ (List.mem_append_right _ (h))))
  have hinwsX40 : ∀ w ∈ wsX40, w ∈ wsX2_shineOn := fun _ h => List.mem_cons_of_mem _ (List.mem_append_left _ (List.mem_append_left _ (List.mem_append_left _ (List.mem_append_right _ (h)))))
  refine lv_aload_n hx hb dX2_shineOn_0 rfl (lv_at hl 1 rfl) ?_
  refine hz_callVv (ws := (hW ah z y vN vC vNow vHaze vCold vHot vPipe vDeg vThaw vTrc vTurb vLeft vLoad vWater vTrips vMi1 vMi2 vSz vBs vCell vDirt vAim vErr vCor vBrk vTop vLm vRows vCols vDown vRight vBound vStrain vPrice vFirm vSums vTk vFl1 vFl2 vTe vAw vRo vBe)) (wc := (lW (ah 4) (ah 13) y vMi2 vFl2)) (As := []) (rest := []) ⟨hx, hb, hml, hown, hts⟩ (c_X3_darken l G (ah 4) (ah 13) y _ vMi2 vFl2  ) (cwV 0 hts gX2_shineOn_X3_darken rfl rfl rfl (by decide +kernel) ⟨Nat.le_of_ble_eq_true rfl, Nat.le_of_ble_eq_true rfl⟩) hP hK hD hS hA [4, 13] [0, 1, 2, 3] rfl rfl rfl 4 4 rfl rfl rfl rfl hl.1 rfl (Nat.le_of_ble_eq_true rfl) dX2_shineOn_1 ⟨Nat.zero_le _, Nat.zero_le _⟩ (fun _ => rfl) (fun f_1 H locs hu hP hD hS => ?_)
  have p2 : ∀ q : Int, 0 ≤ q → q ≤ 5 → f_1 q = 0 := hu
  have hP : va_P G vwCl (hW ah z y vN vC vNow vHaze vCold vHot vPipe vDeg vThaw vTrc vTurb vLeft vLoad vWater vTrips vMi1 0 vSz vBs vCell vDirt vAim vErr vCor vBrk vTop vLm vRows vCols vDown vRight vBound vStrain vPrice vFirm vSums vTk vFl1 f_1 vTe vAw vRo vBe) H := hP
  have hD : va_D A (hW ah z y vN vC vNow vHaze vCold vHot vPipe vDeg vThaw vTrc vTurb vLeft vLoad vWater vTrips vMi1 0 vSz vBs vCell vDirt vAim vErr vCor vBrk vTop vLm vRows vCols vDown vRight vBound vStrain vPrice vFirm vSums vTk vFl1 f_1 vTe vAw vRo vBe) := hD
  refine hz_iconst hx hb dX2_shineOn_4 ?_
  refine lv_istore_n (lv' := [(3, zi 0), (0, .ref (ah 1)), (1, .ref (ah 4)), (2, zi wi)]) hx hb dX2_shineOn_5 rfl hl (by decide) rfl (fun ls hl => ?_)
  have L6 : ∀ (n : Nat) (k : Int) (f : Int → Int) (mi : Int) (H : Heap) (locs : List Loc), (0 ≤ k ∧ k ≤ vN) → (∀ q : Int, 0 ≤ q → q ≤ 5 → f q = smZ (bzZ wi vAim vErr vCor (ryZ vN vC vNow vHaze vCell vDirt vTop vLm vRows vCols vDown vRight) q) k.toNat) → (mi = smZ (bmZ wi vAim vErr vCor (ryZ vN vC vNow vHaze vCell vDirt vTop vLm vRows vCols vDown vRight)) k.toNat) → ((vN - k).toNat) < n → va_P G vwCl (hW ah z y vN vC vNow vHaze vCold vHot vPipe vDeg vThaw vTrc vTurb vLeft vLoad vWater vTrips vMi1 mi vSz vBs vCell vDirt vAim vErr vCor vBrk vTop vLm vRows vCols vDown vRight vBound vStrain vPrice vFirm vSums vTk vFl1 f vTe vAw vRo vBe) H → va_D A (hW ah z y vN vC vNow vHaze vCold vHot vPipe vDeg vThaw vTrc vTurb vLeft vLoad vWater vTrips vMi1 mi vSz vBs vCell vDirt vAim vErr vCor vBrk vTop vLm vRows vCols vDown vRight vBound vStrain vPrice vFirm vSums vTk vFl1 f vTe vAw vRo vBe) → va_S A s.heap H locs → ∀ ls : Array Slot, lv_has ls 5 [(0, .ref (ah 1)), (1, .ref (ah 4)), (2, zi wi), (3, zi k)] → W p l e (headSpec wsX2_shineOn ({ frames := 6, cells := 0, slots := 0, locals := 131 })).room s m ([.ref (ah 1), .ref (ah 4), zi wi] : List Value).toArray below meth c H locs 0 0 (MQ below (Q_shine2 G ah z y vN vC vNow vHaze vCold vHot vPipe vDeg vThaw vTrc vTurb vLeft vLoad vWater vTrips vMi1 vMi2 vSz vBs vCell vDirt vAim vErr vCor vBrk vTop vLm vRows vCols vDown vRight vBound vStrain vPrice vFirm vSums vTk vFl1 vFl2 vTe vAw vRo vBe wi A) ([.ref (ah 1), .ref (ah 4), zi wi] : List Value).toArray s 0 0 A) (F0 m 6 ls []) := by
    intro n
    induction n with
    | zero => exact fun k f mi H locs h_k6 h_f6 h_m6 hm => absurd hm (Nat.not_lt_zero _)
    | succ n ih6 =>
      intro k f mi H locs h_k6 h_f6 h_m6 hm6 hP hD hS ls hl
      refine lv_iload_n hx hb dX2_shineOn_6 rfl (lv_at hl 3 rfl) ?_
      refine lv_aload_n hx hb dX2_shineOn_7 rfl (lv_at hl 0 rfl) ?_
      refine va_get (D := G) (ci := 3) (v := .ref (ah 19)) (C := RX2) (T := TX2) (N := 5) hx hb hts hinwsX20 hown hK hP 1 rfl rfl 0 (by decide) (hts (.fieldLink RX2 12 "Heliokeep$Field" "mirrors" "Ljava/util/ArrayList;") (List.mem_of_getElem? (i := 1) rfl)) (fun _ h9 => h9) rfl dX2_shineOn_8 ?_
      refine hz_callRi (As := []) (rest := [zi k]) ⟨hx, hb, hml, hown, hts⟩ (c_Jx4a65c_size_8abf5 l G (ah 19) (.int z.1) (.ref z.2.2.1) y vN) (cwV 0 hts gX2_shineOn_Jx4a65c_size_8abf5 rfl rfl rfl (by decide +kernel) ⟨Nat.le_of_ble_eq_true rfl, Nat.le_of_ble_eq_true rfl⟩) (hz_cons hP (i := 19) rfl hz_nil) hK 0 0 rfl rfl rfl rfl hl.1 rfl (Nat.le_of_ble_eq_true rfl) dX2_shineOn_11 ⟨Nat.zero_le _, Nat.zero_le _⟩ ?_
      refine hz_icmp_ge (tgt := 68) hx hb dX2_shineOn_14 (by decide) (by omega) (fun c3 => ?_) (fun c3 => ?_)
      · exact W.vret hx hb hr (fun t ht hW => ⟨⟨(f, mi), rfl, ⟨(show ∀ q : Int, 0 ≤ q → q ≤ 5 → f q = baZ wi vN vAim vErr vCor (ryZ vN vC vNow vHaze vCell vDirt vTop vLm vRows vCols vDown vRight) q from fun q a b => by rw [h_f6 q a b, show k = vN from by omega]; rfl), (show mi = byZ wi vN vAim vErr vCor (ryZ vN vC vNow vHaze vCell vDirt vTop vLm vRows vCols vDown vRight) from by rw [h_m6, show k = vN from by omega]; rfl)⟩, hz_at hP ht⟩, hS.F ht⟩) hS.2.2 dX2_shineOn_68
      · refine lv_aload_n hx hb dX2_shineOn_17 rfl (lv_at hl 0 rfl) ?_
        refine va_get (D := G) (ci := 3) (v := .ref (ah 19)) (C := RX2) (T := TX2) (N := 5) hx hb hts hinwsX20 hown hK hP 1 rfl rfl 0 (by decide) (hts (.fieldLink RX2 12 "Heliokeep$Field" "mirrors" "Ljava/util/ArrayList;") (List.mem_of_getElem? (i := 1) rfl)) (fun _ h9 => h9) rfl dX2_shineOn_18 ?_
        refine lv_iload_n hx hb dX2_shineOn_21 rfl (lv_at hl 3 rfl) ?_
        obtain ⟨i4, hi4⟩ := hW_l1 (ah := ah) (z := z) (y := y) (vN := vN) (vC := vC) (vNow := vNow) (vHaze := vHaze) (vCold := vCold) (vHot := vHot) (vPipe := vPipe) (vDeg := vDeg) (vThaw := vThaw) (vTrc := vTrc) (vTurb := vTurb) (vLeft := vLeft) (vLoad := vLoad) (vWater := vWater) (vTrips := vTrips) (vMi1 := vMi1) (vMi2 := mi) (vSz := vSz) (vBs := vBs) (vCell := vCell) (vDirt := vDirt) (vAim := vAim) (vErr := vErr) (vCor := vCor) (vBrk := vBrk) (vTop := vTop) (vLm := vLm) (vRows := vRows) (vCols := vCols) (vDown := vDown) (vRight := vRight) (vBound := vBound) (vStrain := vStrain) (vPrice := vPrice) (vFirm := vFirm) (vSums := vSums) (vTk := vTk) (vFl1 := vFl1) (vFl2 := f) (vTe := vTe) (vAw := vAw) (vRo := vRo) (vBe := vBe) hZ (by omega)
        refine hz_callRq (As := [zi k]) (rest := []) ⟨hx, hb, hml, hown, hts⟩ (c_Jx4a65c_get_915e3 l G (ah 19) z.2.2.1 (.int z.1) z.2.2.2.1 z.2.2.2.2.1 y vN k (zam z k) (by omega) hZ.1.2.1 (hZ.1.2.2 k (by omega) (by omega))) (cwV 1 hts gX2_shineOn_Jx4a65c_get_915e3 rfl rfl rfl (by decide +kernel) ⟨Nat.le_of_ble_eq_true rfl, Nat.le_of_ble_eq_true rfl⟩) (hz_cons hP (i := 19) rfl (hz_cons hP (i := i4) hi4 hz_nil)) hK 0 0 rfl rfl rfl rfl hl.1 rfl (Nat.le_of_ble_eq_true rfl) dX2_shineOn_22 ⟨Nat.zero_le _, Nat.zero_le _⟩ ?_
        obtain ⟨i5, hi5, i5hd, i5ha, i5he, i5hc, i5hk⟩ := hW_m (ah := ah) (z := z) (y := y) (vN := vN) (vC := vC) (vNow := vNow) (vHaze := vHaze) (vCold := vCold) (vHot := vHot) (vPipe := vPipe) (vDeg := vDeg) (vThaw := vThaw) (vTrc := vTrc) (vTurb := vTurb) (vLeft := vLeft) (vLoad := vLoad) (vWater := vWater) (vTrips := vTrips) (vMi1 := vMi1) (vMi2 := mi) (vSz := vSz) (vBs := vBs) (vCell := vCell) (vDirt := vDirt) (vAim := vAim) (vErr := vErr) (vCor := vCor) (vBrk := vBrk) (vTop := vTop) (vLm := vLm) (vRows := vRows) (vCols := vCols) (vDown := vDown) (vRight := vRight) (vBound := vBound) (vStrain := vStrain) (vPrice := vPrice) (vFirm := vFirm) (vSums := vSums) (vTk := vTk) (vFl1 := vFl1) (vFl2 := f) (vTe := vTe) (vAw := vAw) (vRo := vRo) (vBe := vBe) (k := k) (by omega) (by omega)
        refine va_castS (cC := G.1 5) hx hb hown (hts (.classLink RX2 25 "Heliokeep$Mirror") (List.mem_of_getElem? (i := 2) rfl)) (hK.1 5 (RX4, TX4, 8) rfl).2 (va_recv hK hP (ci := 5) (q0 := i5) rfl hi5) dX2_shineOn_25 ?_
        refine lv_astore (lv' := [(4, .ref (zam z k)), (0, .ref (ah 1)), (1, .ref (ah 4)), (2, zi wi), (3, zi k)]) hx hb dX2_shineOn_28 hl (by decide) rfl (fun ls hl => ?_)
        have qa := hAim k
        have qe := hErr k
        have qo := hCor k
        have q01 := memZ_01 wi k
        refine lv_aload hx hb dX2_shineOn_30 (lv_at hl 0 rfl) ?_
        obtain ⟨i6, hi6, i6hd, i6ha, i6he, i6hc, i6hk⟩ := hW_m (ah := ah) (z := z) (y := y) (vN := vN) (vC := vC) (vNow := vNow) (vHaze := vHaze) (vCold := vCold) (vHot := vHot) (vPipe := vPipe) (vDeg := vDeg) (vThaw := vThaw) (vTrc := vTrc) (vTurb := vTurb) (vLeft := vLeft) (vLoad := vLoad) (vWater := vWater) (vTrips := vTrips) (vMi1 := vMi1) (vMi2 := mi) (vSz := vSz) (vBs := vBs) (vCell := vCell) (vDirt := vDirt) (vAim := vAim) (vErr := vErr) (vCor := vCor) (vBrk := vBrk) (vTop := vTop) (vLm := vLm) (vRows := vRows) (vCols := vCols) (vDown := vDown) (vRight := vRight) (vBound := vBound) (vStrain := vStrain) (vPrice := vPrice) (vFirm := vFirm) (vSums := vSums) (vTk := vTk) (vFl1 := vFl1) (vFl2 := f) (vTe := vTe) (vAw := vAw) (vRo := vRo) (vBe := vBe) (k := k) (by omega) (by omega)
        refine va_get (D := G) (ci := 5) (v := zi (vAim k)) (C := RX4) (T := TX4) (N := 8) hx hb hts hinwsX40 hown hK hP i6 hi6 rfl 4 (by decide) (hts (.fieldLink RX2 106 "Heliokeep$Mirror" "aim" "I") (List.mem_of_getElem? (i := 3) rfl)) (fun _ h9 => h9) rfl dX2_shineOn_32 ?_
        refine hz_iconst hx hb dX2_shineOn_35 ?_
        refine hz_icmp_eq (tgt := 62) hx hb dX2_shineOn_36 (by decide) (by omega) (fun c7 => ?_) (fun c7 => ?_)
        · refine hz_iinc (v := (k + 1)) (lv' := [(3, zi (k + 1)), (4, .ref (zam z k)), (0, .ref (ah 1)), (1, .ref (ah 4)), (2, zi wi)]) hx hb dX2_shineOn_62 hl (k := 4) rfl (by omega) (by decide) rfl (fun ls hl => ?_)
          refine lv_goto (tgt := 6) hx hb dX2_shineOn_65 (by decide) ?_
          exact ih6 (k + 1) f mi _ _ (by omega) (by
          intro q h0 h1
          rw [smZ_s (by omega)]
          first
            | (rw [h_f6 q h0 h1, h_f6 q h0 h1, bz_1 (by omega) (by omega)]; done)
            | (rw [bz_0a (by omega), h_f6 q h0 h1]; omega)
            | (rw [bz_0m (by omega), h_f6 q h0 h1]; omega)) (by
          rw [smZ_s (by omega)]
          first
            | (rw [h_m6, h_m6, bm_1 (by omega) (by omega)]; done)
            | (rw [bm_0a (by omega), h_m6]; omega)
            | (rw [bm_0m (by omega), h_m6]; omega)) (by omega) hP hD hS ls (lv_sub hl [2, 3, 4, 0] rfl)
        · refine lv_iload_n hx hb dX2_shineOn_39 rfl (lv_at hl 3 rfl) ?_
          refine lv_iload_n hx hb dX2_shineOn_40 rfl (lv_at hl 4 rfl) ?_
          refine hz_callSNi (host := "Heliokeep") (As := [zi wi, zi k]) (rest := []) ⟨hx, hb, hml, hown, hts⟩ (c_X7_isIn l wi k (by omega) (by omega)) ⟨va_cnB 2 hts (goodIn_sub (fun w h => by rw [List.mem_singleton.mp h]; exact List.mem_of_getElem? (i := 36) rfl) (by decide +kernel)) rfl rfl rfl (hGP.1 (.methodLinkNest "Heliokeep$Field" 109 yX7_isIn "Heliokeep") (by decide +kernel)) (hts (.initialized RX7) (List.mem_of_getElem? (i := 35) rfl)) (by decide +kernel) ⟨Nat.le_of_ble_eq_true rfl, Nat.le_of_ble_eq_true rfl⟩, (hts (.static yX7_isIn) (List.mem_of_getElem? (i := 34) rfl)), trivial⟩ rfl hl.1 rfl (Nat.le_of_ble_eq_true rfl) dX2_shineOn_41 ⟨Nat.zero_le _, Nat.zero_le _⟩ ?_
          refine hz_if_ne (tgt := 62) hx hb dX2_shineOn_44 (by decide) (by omega) (fun c8 => ?_) (fun c8 => ?_)
          · refine hz_iinc (v := (k + 1)) (lv' := [(3, zi (k + 1)), (4, .ref (zam z k)), (0, .ref (ah 1)), (1, .ref (ah 4)), (2, zi wi)]) hx hb dX2_shineOn_62 hl (k := 4) rfl (by omega) (by decide) rfl (fun ls hl => ?_)
            refine lv_goto (tgt := 6) hx hb dX2_shineOn_65 (by decide) ?_
            exact ih6 (k + 1) f mi _ _ (by omega) (by
          intro q h0 h1
          rw [smZ_s (by omega)]
          first
            | (rw [h_f6 q h0 h1, h_f6 q h0 h1, bz_1 (by omega) (by omega)]; done)
            | (rw [bz_0a (by omega), h_f6 q h0 h1]; omega)
            | (rw [bz_0m (by omega), h_f6 q h0 h1]; omega)) (by
          rw [smZ_s (by omega)]
          first
            | (rw [h_m6, h_m6, bm_1 (by omega) (by omega)]; done)
            | (rw [bm_0a (by omega), h_m6]; omega)
            | (rw [bm_0m (by omega), h_m6]; omega)) (by omega) hP hD hS ls (lv_sub hl [2, 3, 4, 0] rfl)
          · refine lv_aload_n hx hb dX2_shineOn_47 rfl (lv_at hl 2 rfl) ?_
            refine lv_aload hx hb dX2_shineOn_48 (lv_at hl 0 rfl) ?_
            obtain ⟨i9, hi9, i9hd, i9ha, i9he, i9hc, i9hk⟩ := hW_m (ah := ah) (z := z) (y := y) (vN := vN) (vC := vC) (vNow := vNow) (vHaze := vHaze) (vCold := vCold) (vHot := vHot) (vPipe := vPipe) (vDeg := vDeg) (vThaw := vThaw) (vTrc := vTrc) (vTurb := vTurb) (vLeft := vLeft) (vLoad := vLoad) (vWater := vWater) (vTrips := vTrips) (vMi1 := vMi1) (vMi2 := mi) (vSz := vSz) (vBs := vBs) (vCell := vCell) (vDirt := vDirt) (vAim := vAim) (vErr := vErr) (vCor := vCor) (vBrk := vBrk) (vTop := vTop) (vLm := vLm) (vRows := vRows) (vCols := vCols) (vDown := vDown) (vRight := vRight) (vBound := vBound) (vStrain := vStrain) (vPrice := vPrice) (vFirm := vFirm) (vSums := vSums) (vTk := vTk) (vFl1 := vFl1) (vFl2 := f) (vTe := vTe) (vAw := vAw) (vRo := vRo) (vBe := vBe) (k := k) (by omega) (by omega)
            refine hz_callRi (As := []) (rest := [.ref (ah 4)]) ⟨hx, hb, hml, hown, hts⟩ (c_X4_place l G (zam z k) y (vCell k) ((vCell k) / 8) ((vCell k) % 8) (vDirt k) (vAim k) (vErr k) (vCor k) (vBrk k)  ) (cwV 0 hts gX2_shineOn_X4_place rfl rfl rfl (by decide +kernel) ⟨Nat.le_of_ble_eq_true rfl, Nat.le_of_ble_eq_true rfl⟩) (hz_cons hP (i := i9) hi9 hz_nil) hK 0 5 rfl rfl rfl rfl hl.1 rfl (Nat.le_of_ble_eq_true rfl) dX2_shineOn_50 ⟨Nat.zero_le _, Nat.zero_le _⟩ ?_
            refine lv_aload_n hx hb dX2_shineOn_53 rfl (lv_at hl 1 rfl) ?_
            refine lv_aload hx hb dX2_shineOn_54 (lv_at hl 0 rfl) ?_
            refine hz_callRiG (As := [.ref (zam z k)]) (rest := [zi ((vAim k) + ((vErr k) - (vCor k))), .ref (ah 4)]) ⟨hx, hb, hml, hown, hts⟩ (c_X2_tenthOf l G ah z zE y vN vC vNow vHaze vCold vHot vPipe vDeg vThaw vTrc vTurb vLeft vLoad vWater vTrips vMi1 mi vSz vBs vCell vDirt vAim vErr vCor vBrk vTop vLm vRows vCols vDown vRight vBound vStrain vPrice vFirm vSums vTk vFl1 f vTe vAw vRo vBe k hZ hTk hN hC hNow hHaze hCell hDirt hTop hLm hRows hCols hDown hRight (by omega)) (cwV 1 hts gX2_shineOn_X2_tenthOf rfl rfl rfl (by decide +kernel) ⟨Nat.le_of_ble_eq_true rfl, Nat.le_of_ble_eq_true rfl⟩) hP hK hS hGP 1 3 rfl rfl rfl rfl hl.1 rfl (Nat.le_of_ble_eq_true rfl) dX2_shineOn_56 ⟨Nat.zero_le _, Nat.zero_le _⟩ ?_
            refine hz_callVv (ws := (hW ah z y vN vC vNow vHaze vCold vHot vPipe vDeg vThaw vTrc vTurb vLeft vLoad vWater vTrips vMi1 mi vSz vBs vCell vDirt vAim vErr vCor vBrk vTop vLm vRows vCols vDown vRight vBound vStrain vPrice vFirm vSums vTk vFl1 f vTe vAw vRo vBe)) (wc := (lW (ah 4) (ah 13) y mi f)) (As := [zi ((vAim k) + ((vErr k) - (vCor k))), zi ((ryZ vN vC vNow vHaze vCell vDirt vTop vLm vRows vCols vDown vRight) k)]) (rest := []) ⟨hx, hb, hml, hown, hts⟩ (c_X3_shine l G (ah 4) (ah 13) y _ mi f ((vAim k) + ((vErr k) - (vCor k))) ((ryZ vN vC vNow vHaze vCell vDirt vTop vLm vRows vCols vDown vRight) k) (by omega)) (cwV 2 hts gX2_shineOn_X3_shine rfl rfl rfl (by decide +kernel) ⟨Nat.le_of_ble_eq_true rfl, Nat.le_of_ble_eq_true rfl⟩) hP hK hD hS hA [4, 13] [0, 1, 2, 3] rfl rfl rfl 4 4 rfl rfl rfl rfl hl.1 rfl (Nat.le_of_ble_eq_true rfl) dX2_shineOn_59 ⟨Nat.zero_le _, Nat.zero_le _⟩ (fun _ => rfl) (fun u H locs hu hP hD hS => ?_)
            obtain ⟨f_10, m_11⟩ := u
            have p12 : ∀ q : Int, 0 ≤ q → q ≤ 5 → f_10 q = f q + raZ ((vAim k) + ((vErr k) - (vCor k))) ((ryZ vN vC vNow vHaze vCell vDirt vTop vLm vRows vCols vDown vRight) k) q := hu.1
            have p13 : m_11 = mi + rmZ ((vAim k) + ((vErr k) - (vCor k))) ((ryZ vN vC vNow vHaze vCell vDirt vTop vLm vRows vCols vDown vRight) k) := hu.2
            have hP : va_P G vwCl (hW ah z y vN vC vNow vHaze vCold vHot vPipe vDeg vThaw vTrc vTurb vLeft vLoad vWater vTrips vMi1 m_11 vSz vBs vCell vDirt vAim vErr vCor vBrk vTop vLm vRows vCols vDown vRight vBound vStrain vPrice vFirm vSums vTk vFl1 f_10 vTe vAw vRo vBe) H := hP
            have hD : va_D A (hW ah z y vN vC vNow vHaze vCold vHot vPipe vDeg vThaw vTrc vTurb vLeft vLoad vWater vTrips vMi1 m_11 vSz vBs vCell vDirt vAim vErr vCor vBrk vTop vLm vRows vCols vDown vRight vBound vStrain vPrice vFirm vSums vTk vFl1 f_10 vTe vAw vRo vBe) := hD
            refine hz_iinc (v := (k + 1)) (lv' := [(3, zi (k + 1)), (4, .ref (zam z k)), (0, .ref (ah 1)), (1, .ref (ah 4)), (2, zi wi)]) hx hb dX2_shineOn_62 hl (k := 4) rfl (by omega) (by decide) rfl (fun ls hl => ?_)
            refine lv_goto (tgt := 6) hx hb dX2_shineOn_65 (by decide) ?_
            exact ih6 (k + 1) f_10 m_11 _ _ (by omega) (by
          intro q h0 h1
          rw [smZ_s (by omega)]
          first
            | (rw [p12 q h0 h1, h_f6 q h0 h1, bz_1 (by omega) (by omega)]; done)
            | (rw [bz_0a (by omega), h_f6 q h0 h1]; omega)
            | (rw [bz_0m (by omega), h_f6 q h0 h1]; omega)) (by
          rw [smZ_s (by omega)]
          first
            | (rw [p13, h_m6, bm_1 (by omega) (by omega)]; done)
            | (rw [bm_0a (by omega), h_m6]; omega)
            | (rw [bm_0m (by omega), h_m6]; omega)) (by omega) hP hD hS ls (lv_sub hl [2, 3, 4, 0] rfl)
  exact L6 _ 0 f_1 0 _ _ (by omega) (fun q a b => p2 q a b) (rfl) (Nat.lt_succ_self _) hP hD hS ls (lv_sub hl [1, 2, 3, 0] rfl)
abbrev Q_X2_stowWhole (G : va_G) (ah : Nat → Nat) (z : LZ) (y : Nat → ClassId) (vN vC vNow vHaze vCold vHot vPipe vDeg vThaw vTrc vTurb vLeft vLoad vWater vTrips vMi1 vMi2 vSz vBs : Int) (vCell vDirt vAim vErr vCor vBrk vTop vLm vRows vCols vDown vRight vBound vStrain vPrice vFirm vSums vTk vFl1 vFl2 vTe vAw vRo vBe : Int → Int)  (A : Nat → Prop) : Array Value → State → Outcome → State → Prop := va_Qv (fun (u : (Int → Int)) => (u = stZ vAim vBrk vN) ∧ (∀ k : Int, -1 ≤ u k ∧ u k ≤ 5)) (fun (u : (Int → Int)) t => va_P G vwCl (hW ah z y vN vC vNow vHaze vCold vHot vPipe vDeg vThaw vTrc vTurb vLeft vLoad vWater vTrips vMi1 vMi2 vSz vBs vCell vDirt u vErr vCor vBrk vTop vLm vRows vCols vDown vRight vBound vStrain vPrice vFirm vSums vTk vFl1 vFl2 vTe vAw vRo vBe) t.heap) A
set_option maxHeartbeats 4000000 in
set_option maxRecDepth 100000 in
theorem c_X2_stowWhole (l : Launch) (G : va_G) (ah : Nat → Nat) (z : LZ) (zE : Nat) (y : Nat → ClassId) (sz : Nat) (vN vC vNow vHaze vCold vHot vPipe vDeg vThaw vTrc vTurb vLeft vLoad vWater vTrips vMi1 vMi2 vSz vBs : Int) (vCell vDirt vAim vErr vCor vBrk vTop vLm vRows vCols vDown vRight vBound vStrain vPrice vFirm vSums vTk vFl1 vFl2 vTe vAw vRo vBe : Int → Int)  (hZ : LZok z vN vC) (hN : 0 ≤ vN ∧ vN ≤ 12) (hAim : ∀ j9 : Int, -1 ≤ vAim j9 ∧ vAim j9 ≤ 5) (hBrk : ∀ j9 : Int, 0 ≤ vBrk j9 ∧ vBrk j9 ≤ 1) : Met l yX2_stowWhole wsX2_stowWhole ({ frames := 3, cells := 0, slots := 0, locals := 64 }) (va_Pc [.ref (ah 1)] (HPreG zE G (tyL y) (hW ah z y vN vC vNow vHaze vCold vHot vPipe vDeg vThaw vTrc vTurb vLeft vLoad vWater vTrips vMi1 vMi2 vSz vBs vCell vDirt vAim vErr vCor vBrk vTop vLm vRows vCols vDown vRight vBound vStrain vPrice vFirm vSums vTk vFl1 vFl2 vTe vAw vRo vBe) sz)) (Q_X2_stowWhole G ah z y vN vC vNow vHaze vCold vHot vPipe vDeg vThaw vTrc vTurb vLeft vLoad vWater vTrips vMi1 vMi2 vSz vBs vCell vDirt vAim vErr vCor vBrk vTop vLm vRows vCols vDown vRight vBound vStrain vPrice vFirm vSums vTk vFl1 vFl2 vTe vAw vRo vBe (va_A (hW ah z y vN vC vNow vHaze vCold vHot vPipe vDeg vThaw vTrc vTurb vLeft vLoad vWater vTrips vMi1 vMi2 vSz vBs vCell vDirt vAim vErr vCor vBrk vTop vLm vRows vCols vDown vRight vBound vStrain vPrice vFirm vSums vTk vFl1 vFl2 vTe vAw vRo vBe) sz)) 0 0 (va_A (hW ah z y vN vC vNow vHaze vCold vHot vPipe vDeg vThaw vTrc vTurb vLeft vLoad vWater vTrips vMi1 vMi2 vSz vBs vCell vDirt vAim vErr vCor vBrk vTop vLm vRows vCols vDown vRight vBound vStrain vPrice vFirm vSums vTk vFl1 vFl2 vTe vAw vRo vBe) sz) := by
  refine hz_ofWG (Qf := Q_X2_stowWhole G ah z y vN vC vNow vHaze vCold vHot vPipe vDeg vThaw vTrc vTurb vLeft vLoad vWater vTrips vMi1 vMi2 vSz vBs vCell vDirt vAim vErr vCor vBrk vTop vLm vRows vCols vDown vRight vBound vStrain vPrice vFirm vSums vTk vFl1 vFl2 vTe vAw vRo vBe) (cc := cX2_stowWhole) (maxL := 3) (ret := none) (by decide) rfl (Nat.le_of_ble_eq_true rfl) ?_
  intro p e s m below meth c A ls hx hb hr hts hown hin hlocks hml hP hK hA hD hS hGP hl
  have hown : s.vm.findClass RX2 = some m.cls := hown
  have hl : lv_has ls 3 [(0, .ref (ah 1))] := hl
  have hinwsJx4a65c0 : ∀ w ∈ wsJx4a65c0, w ∈ wsX2_stowWhole := fun _ h => List.mem_cons_of_mem _ (List.mem_append_right _ (h))
  have hinwsX20 : ∀ w ∈ wsX20, w ∈ wsX2_stowWhole := fun _ h => List.mem_cons_of_mem _ (List.mem_append_left _ (List.mem_append_left _ (List.mem_append_right _ (h))))
  have hinwsX40 : ∀ w ∈ wsX40, w ∈ wsX2_stowWhole := fun _ h => List.mem_cons_of_mem _ (List.mem_append_left _ (List.mem_append_right _ (h)))
  refine hz_iconst hx hb dX2_stowWhole_0 ?_
  refine lv_istore_n (lv' := [(1, zi 0), (0, .ref (ah 1))]) hx hb dX2_stowWhole_1 rfl hl (by decide) rfl (fun ls hl => ?_)
  have L2 : ∀ (n : Nat) (k : Int) (f : Int → Int) (H : Heap) (locs : List Loc), (0 ≤ k ∧ k ≤ vN) → (f = stZ vAim vBrk k) → ((vN - k).toNat) < n → va_P G vwCl (hW ah z y vN vC vNow vHaze vCold vHot vPipe vDeg vThaw vTrc vTurb vLeft vLoad vWater vTrips vMi1 vMi2 vSz vBs vCell vDirt f vErr vCor vBrk vTop vLm vRows vCols vDown vRight vBound vStrain vPrice vFirm vSums vTk vFl1 vFl2 vTe vAw vRo vBe) H → va_D A (hW ah z y vN vC vNow vHaze vCold vHot vPipe vDeg vThaw vTrc vTurb vLeft vLoad vWater vTrips vMi1 vMi2 vSz vBs vCell vDirt f vErr vCor vBrk vTop vLm vRows vCols vDown vRight vBound vStrain vPrice vFirm vSums vTk vFl1 vFl2 vTe vAw vRo vBe) → va_S A s.heap H locs → ∀ ls : Array Slot, lv_has ls 3 [(0, .ref (ah 1)), (1, zi k)] → W p l e (headSpec wsX2_stowWhole ({ frames := 3, cells := 0, slots := 0, locals := 64 })).room s m ([.ref (ah 1)] : List Value).toArray below meth c H locs 0 0 (MQ below (Q_X2_stowWhole G ah z y vN vC vNow vHaze vCold vHot vPipe vDeg vThaw vTrc vTurb vLeft vLoad vWater vTrips vMi1 vMi2 vSz vBs vCell vDirt vAim vErr vCor vBrk vTop vLm vRows vCols vDown vRight vBound vStrain vPrice vFirm vSums vTk vFl1 vFl2 vTe vAw vRo vBe A) ([.ref (ah 1)] : List Value).toArray s 0 0 A) (F0 m 2 ls []) := by
    intro n
    induction n with
    | zero => exact fun k f H locs h_k2 h_f2 hm => absurd hm (Nat.not_lt_zero _)
    | succ n ih2 =>
      intro k f H locs h_k2 h_f2 hm2 hP hD hS ls hl
      refine lv_iload_n hx hb dX2_stowWhole_2 rfl (lv_at hl 1 rfl) ?_
      refine lv_aload_n hx hb dX2_stowWhole_3 rfl (lv_at hl 0 rfl) ?_
      refine va_get (D := G) (ci := 3) (v := .ref (ah 19)) (C := RX2) (T := TX2) (N := 5) hx hb hts hinwsX20 hown hK hP 1 rfl rfl 0 (by decide) (hts (.fieldLink RX2 12 "Heliokeep$Field" "mirrors" "Ljava/util/ArrayList;") (List.mem_of_getElem? (i := 1) rfl)) (fun _ h9 => h9) rfl dX2_stowWhole_4 ?_
      refine hz_callRi (As := []) (rest := [zi k]) ⟨hx, hb, hml, hown, hts⟩ (c_Jx4a65c_size_8abf5 l G (ah 19) (.int z.1) (.ref z.2.2.1) y vN) (cwV 0 hts gX2_stowWhole_Jx4a65c_size_8abf5 rfl rfl rfl (by decide +kernel) ⟨Nat.le_of_ble_eq_true rfl, Nat.le_of_ble_eq_true rfl⟩) (hz_cons hP (i := 19) rfl hz_nil) hK 0 0 rfl rfl rfl rfl hl.1 rfl (Nat.le_of_ble_eq_true rfl) dX2_stowWhole_7 ⟨Nat.zero_le _, Nat.zero_le _⟩ ?_
      refine hz_icmp_ge (tgt := 43) hx hb dX2_stowWhole_10 (by decide) (by omega) (fun c1 => ?_) (fun c1 => ?_)
      · exact W.vret hx hb hr (fun t ht hW => ⟨⟨(f), rfl, ⟨(show f = stZ vAim vBrk vN from by rw [h_f2]; exact congrArg (stZ vAim vBrk) (by omega)), (show ∀ k : Int, -1 ≤ f k ∧ f k ≤ 5 from by rw [h_f2]; exact stZ_rng hAim)⟩, hz_at hP ht⟩, hS.F ht⟩) hS.2.2 dX2_stowWhole_43
      · refine lv_aload_n hx hb dX2_stowWhole_13 rfl (lv_at hl 0 rfl) ?_
        refine va_get (D := G) (ci := 3) (v := .ref (ah 19)) (C := RX2) (T := TX2) (N := 5) hx hb hts hinwsX20 hown hK hP 1 rfl rfl 0 (by decide) (hts (.fieldLink RX2 12 "Heliokeep$Field" "mirrors" "Ljava/util/ArrayList;") (List.mem_of_getElem? (i := 1) rfl)) (fun _ h9 => h9) rfl dX2_stowWhole_14 ?_
        refine lv_iload_n hx hb dX2_stowWhole_17 rfl (lv_at hl 1 rfl) ?_
        obtain ⟨i2, hi2⟩ := hW_l1 (ah := ah) (z := z) (y := y) (vN := vN) (vC := vC) (vNow := vNow) (vHaze := vHaze) (vCold := vCold) (vHot := vHot) (vPipe := vPipe) (vDeg := vDeg) (vThaw := vThaw) (vTrc := vTrc) (vTurb := vTurb) (vLeft := vLeft) (vLoad := vLoad) (vWater := vWater) (vTrips := vTrips) (vMi1 := vMi1) (vMi2 := vMi2) (vSz := vSz) (vBs := vBs) (vCell := vCell) (vDirt := vDirt) (vAim := f) (vErr := vErr) (vCor := vCor) (vBrk := vBrk) (vTop := vTop) (vLm := vLm) (vRows := vRows) (vCols := vCols) (vDown := vDown) (vRight := vRight) (vBound := vBound) (vStrain := vStrain) (vPrice := vPrice) (vFirm := vFirm) (vSums := vSums) (vTk := vTk) (vFl1 := vFl1) (vFl2 := vFl2) (vTe := vTe) (vAw := vAw) (vRo := vRo) (vBe := vBe) hZ (by omega)
        refine hz_callRq (As := [zi k]) (rest := []) ⟨hx, hb, hml, hown, hts⟩ (c_Jx4a65c_get_915e3 l G (ah 19) z.2.2.1 (.int z.1) z.2.2.2.1 z.2.2.2.2.1 y vN k (zam z k) (by omega) hZ.1.2.1 (hZ.1.2.2 k (by omega) (by omega))) (cwV 1 hts gX2_stowWhole_Jx4a65c_get_915e3 rfl rfl rfl (by decide +kernel) ⟨Nat.le_of_ble_eq_true rfl, Nat.le_of_ble_eq_true rfl⟩) (hz_cons hP (i := 19) rfl (hz_cons hP (i := i2) hi2 hz_nil)) hK 0 0 rfl rfl rfl rfl hl.1 rfl (Nat.le_of_ble_eq_true rfl) dX2_stowWhole_18 ⟨Nat.zero_le _, Nat.zero_le _⟩ ?_
        obtain ⟨i3, hi3, i3hd, i3ha, i3he, i3hc, i3hk⟩ := hW_m (ah := ah) (z := z) (y := y) (vN := vN) (vC := vC) (vNow := vNow) (vHaze := vHaze) (vCold := vCold) (vHot := vHot) (vPipe := vPipe) (vDeg := vDeg) (vThaw := vThaw) (vTrc := vTrc) (vTurb := vTurb) (vLeft := vLeft) (vLoad := vLoad) (vWater := vWater) (vTrips := vTrips) (vMi1 := vMi1) (vMi2 := vMi2) (vSz := vSz) (vBs := vBs) (vCell := vCell) (vDirt := vDirt) (vAim := f) (vErr := vErr) (vCor := vCor) (vBrk := vBrk) (vTop := vTop) (vLm := vLm) (vRows := vRows) (vCols := vCols) (vDown := vDown) (vRight := vRight) (vBound := vBound) (vStrain := vStrain) (vPrice := vPrice) (vFirm := vFirm) (vSums := vSums) (vTk := vTk) (vFl1 := vFl1) (vFl2 := vFl2) (vTe := vTe) (vAw := vAw) (vRo := vRo) (vBe := vBe) (k := k) (by omega) (by omega)
        refine va_castS (cC := G.1 5) hx hb hown (hts (.classLink RX2 25 "Heliokeep$Mirror") (List.mem_of_getElem? (i := 2) rfl)) (hK.1 5 (RX4, TX4, 8) rfl).2 (va_recv hK hP (ci := 5) (q0 := i3) rfl hi3) dX2_stowWhole_21 ?_
        refine lv_astore_n (lv' := [(2, .ref (zam z k)), (0, .ref (ah 1)), (1, zi k)]) hx hb dX2_stowWhole_24 rfl hl (by decide) rfl (fun ls hl => ?_)
        refine lv_aload_n hx hb dX2_stowWhole_25 rfl (lv_at hl 0 rfl) ?_
        obtain ⟨i4, hi4, i4hd, i4ha, i4he, i4hc, i4hk⟩ := hW_m (ah := ah) (z := z) (y := y) (vN := vN) (vC := vC) (vNow := vNow) (vHaze := vHaze) (vCold := vCold) (vHot := vHot) (vPipe := vPipe) (vDeg := vDeg) (vThaw := vThaw) (vTrc := vTrc) (vTurb := vTurb) (vLeft := vLeft) (vLoad := vLoad) (vWater := vWater) (vTrips := vTrips) (vMi1 := vMi1) (vMi2 := vMi2) (vSz := vSz) (vBs := vBs) (vCell := vCell) (vDirt := vDirt) (vAim := f) (vErr := vErr) (vCor := vCor) (vBrk := vBrk) (vTop := vTop) (vLm := vLm) (vRows := vRows) (vCols := vCols) (vDown := vDown) (vRight := vRight) (vBound := vBound) (vStrain := vStrain) (vPrice := vPrice) (vFirm := vFirm) (vSums := vSums) (vTk := vTk) (vFl1 := vFl1) (vFl2 := vFl2) (vTe := vTe) (vAw := vAw) (vRo := vRo) (vBe := vBe) (k := k) (by omega) (by omega)
        refine va_get (D := G) (ci := 5) (v := zi (vBrk k)) (C := RX4) (T := TX4) (N := 8) hx hb hts hinwsX40 hown hK hP i4 hi4 rfl 7 (by decide) (hts (.fieldLink RX2 124 "Heliokeep$Mirror" "broken" "Z") (List.mem_of_getElem? (i := 3) rfl)) (fun _ h9 => h9) rfl dX2_stowWhole_26 ?_
        have qb := hBrk k
        refine hz_if_ne (tgt := 37) hx hb dX2_stowWhole_29 (by decide) (by omega) (fun c5 => ?_) (fun c5 => ?_)
        · refine hz_iinc (v := (k + 1)) (lv' := [(1, zi (k + 1)), (2, .ref (zam z k)), (0, .ref (ah 1))]) hx hb dX2_stowWhole_37 hl (k := 2) rfl (by omega) (by decide) rfl (fun ls hl => ?_)
          refine lv_goto (tgt := 2) hx hb dX2_stowWhole_40 (by decide) ?_
          exact ih2 (k + 1) f _ _ (by omega) (by
          rw [h_f2]
          first
            | exact stZ_n (by omega) (by omega)
            | (have q := stZ_y (aim := vAim) h_k2.1 (show vBrk k = 1 from by omega); rw [upZ_id] at q; exact q)) (by omega) hP hD hS ls (lv_sub hl [2, 0] rfl)
        · refine lv_aload_n hx hb dX2_stowWhole_32 rfl (lv_at hl 0 rfl) ?_
          refine hz_iconst hx hb dX2_stowWhole_33 ?_
          obtain ⟨i6, hi6, i6hd, i6ha, i6he, i6hc, i6hk⟩ := hW_m (ah := ah) (z := z) (y := y) (vN := vN) (vC := vC) (vNow := vNow) (vHaze := vHaze) (vCold := vCold) (vHot := vHot) (vPipe := vPipe) (vDeg := vDeg) (vThaw := vThaw) (vTrc := vTrc) (vTurb := vTurb) (vLeft := vLeft) (vLoad := vLoad) (vWater := vWater) (vTrips := vTrips) (vMi1 := vMi1) (vMi2 := vMi2) (vSz := vSz) (vBs := vBs) (vCell := vCell) (vDirt := vDirt) (vAim := f) (vErr := vErr) (vCor := vCor) (vBrk := vBrk) (vTop := vTop) (vLm := vLm) (vRows := vRows) (vCols := vCols) (vDown := vDown) (vRight := vRight) (vBound := vBound) (vStrain := vStrain) (vPrice := vPrice) (vFirm := vFirm) (vSums := vSums) (vTk := vTk) (vFl1 := vFl1) (vFl2 := vFl2) (vTe := vTe) (vAw := vAw) (vRo := vRo) (vBe := vBe) (k := k) (by omega) (by omega)
          refine va_put (D := G) (ci := 5) (v := zi (-1)) (ty := .int) (C := RX4) (T := TX4) (N := 8) hx hb hts hinwsX40 tyX4 tyX4_ok nmX4 hown hK hP hD hS i6 hi6 rfl 4 (by decide) (hts (.fieldLink RX2 106 "Heliokeep$Mirror" "aim" "I") (List.mem_of_getElem? (i := 4) rfl)) (fun _ h9 => h9) rfl (by decide +kernel) rfl rfl (Nat.le_of_ble_eq_true rfl) dX2_stowWhole_34 (fun H locs hP hD hS => ?_)
          have hP : va_P G vwCl ((hW ah z y vN vC vNow vHaze vCold vHot vPipe vDeg vThaw vTrc vTurb vLeft vLoad vWater vTrips vMi1 vMi2 vSz vBs vCell vDirt f vErr vCor vBrk vTop vLm vRows vCols vDown vRight vBound vStrain vPrice vFirm vSums vTk vFl1 vFl2 vTe vAw vRo vBe).set i6 (zam z k, miE (vCell k) (vDirt k) (-1) (vErr k) (vCor k) (vBrk k))) H := hP
          have hD : va_D A ((hW ah z y vN vC vNow vHaze vCold vHot vPipe vDeg vThaw vTrc vTurb vLeft vLoad vWater vTrips vMi1 vMi2 vSz vBs vCell vDirt f vErr vCor vBrk vTop vLm vRows vCols vDown vRight vBound vStrain vPrice vFirm vSums vTk vFl1 vFl2 vTe vAw vRo vBe).set i6 (zam z k, miE (vCell k) (vDirt k) (-1) (vErr k) (vCor k) (vBrk k))) := hD
          rw [show _ = _ from i6ha ((-1))] at hP hD
          have hP : va_P G vwCl (hW ah z y vN vC vNow vHaze vCold vHot vPipe vDeg vThaw vTrc vTurb vLeft vLoad vWater vTrips vMi1 vMi2 vSz vBs vCell vDirt (upZ f k (-1)) vErr vCor vBrk vTop vLm vRows vCols vDown vRight vBound vStrain vPrice vFirm vSums vTk vFl1 vFl2 vTe vAw vRo vBe) H := hP
          have hD : va_D A (hW ah z y vN vC vNow vHaze vCold vHot vPipe vDeg vThaw vTrc vTurb vLeft vLoad vWater vTrips vMi1 vMi2 vSz vBs vCell vDirt (upZ f k (-1)) vErr vCor vBrk vTop vLm vRows vCols vDown vRight vBound vStrain vPrice vFirm vSums vTk vFl1 vFl2 vTe vAw vRo vBe) := hD
          refine hz_iinc (v := (k + 1)) (lv' := [(1, zi (k + 1)), (2, .ref (zam z k)), (0, .ref (ah 1))]) hx hb dX2_stowWhole_37 hl (k := 2) rfl (by omega) (by decide) rfl (fun ls hl => ?_)
          refine lv_goto (tgt := 2) hx hb dX2_stowWhole_40 (by decide) ?_
          exact ih2 (k + 1) (upZ f k (-1)) _ _ (by omega) (by
          rw [h_f2]
          first
            | exact stZ_n (by omega) (by omega)
            | (have q := stZ_y (aim := vAim) h_k2.1 (show vBrk k = 1 from by omega); rw [upZ_id] at q; exact q)) (by omega) hP hD hS ls (lv_sub hl [2, 0] rfl)
  exact L2 _ 0 vAim _ _ (by omega) (stZ_0.symm) (Nat.lt_succ_self _) hP hD hS ls (lv_sub hl [1, 0] rfl)
abbrev Q_X2_endTick (G : va_G) (ah : Nat → Nat) (z : LZ) (y : Nat → ClassId) (vN vC vNow vHaze vCold vHot vPipe vDeg vThaw vTrc vTurb vLeft vLoad vWater vTrips vMi1 vMi2 vSz vBs : Int) (vCell vDirt vAim vErr vCor vBrk vTop vLm vRows vCols vDown vRight vBound vStrain vPrice vFirm vSums vTk vFl1 vFl2 vTe vAw vRo vBe : Int → Int)  (A : Nat → Prop) : Array Value → State → Outcome → State → Prop := va_Qv (fun (u : (Int → Int) × (Int → Int) × (Int → Int)) => (u.1 = drZ vTop vDown vC) ∧ (u.2.1 = drZ vLm vRight vC) ∧ (u.2.2 = ddZ vNow vDirt vN)) (fun (u : (Int → Int) × (Int → Int) × (Int → Int)) t => va_P G vwCl (hW ah z y vN vC (vNow + 1) vHaze vCold vHot vPipe vDeg vThaw vTrc vTurb vLeft vLoad vWater vTrips vMi1 vMi2 vSz vBs vCell u.2.2 vAim vErr vCor vBrk u.1 u.2.1 vRows vCols vDown vRight vBound vStrain vPrice vFirm vSums vTk vFl1 vFl2 vTe vAw vRo vBe) t.heap) A
set_option maxHeartbeats 4000000 in
set_option maxRecDepth 100000 in
theorem c_X2_endTick (l : Launch) (G : va_G) (ah : Nat → Nat) (z : LZ) (zE : Nat) (y : Nat → ClassId) (sz : Nat) (vN vC vNow vHaze vCold vHot vPipe vDeg vThaw vTrc vTurb vLeft vLoad vWater vTrips vMi1 vMi2 vSz vBs : Int) (vCell vDirt vAim vErr vCor vBrk vTop vLm vRows vCols vDown vRight vBound vStrain vPrice vFirm vSums vTk vFl1 vFl2 vTe vAw vRo vBe : Int → Int)  (hZ : LZok z vN vC) (hN : 0 ≤ vN ∧ vN ≤ 12) (hC : 0 ≤ vC ∧ vC ≤ 4) (hNow : 0 ≤ vNow ∧ vNow ≤ 9999) (hDirt : ∀ j9 : Int, 0 ≤ vDirt j9 ∧ vDirt j9 ≤ 9) : Met l yX2_endTick wsX2_endTick ({ frames := 3, cells := 0, slots := 0, locals := 64 }) (va_Pc [.ref (ah 1)] (HPreG zE G (tyL y) (hW ah z y vN vC vNow vHaze vCold vHot vPipe vDeg vThaw vTrc vTurb vLeft vLoad vWater vTrips vMi1 vMi2 vSz vBs vCell vDirt vAim vErr vCor vBrk vTop vLm vRows vCols vDown vRight vBound vStrain vPrice vFirm vSums vTk vFl1 vFl2 vTe vAw vRo vBe) sz)) (Q_X2_endTick G ah z y vN vC vNow vHaze vCold vHot vPipe vDeg vThaw vTrc vTurb vLeft vLoad vWater vTrips vMi1 vMi2 vSz vBs vCell vDirt vAim vErr vCor vBrk vTop vLm vRows vCols vDown vRight vBound vStrain vPrice vFirm vSums vTk vFl1 vFl2 vTe vAw vRo vBe (va_A (hW ah z y vN vC vNow vHaze vCold vHot vPipe vDeg vThaw vTrc vTurb vLeft vLoad vWater vTrips vMi1 vMi2 vSz vBs vCell vDirt vAim vErr vCor vBrk vTop vLm vRows vCols vDown vRight vBound vStrain vPrice vFirm vSums vTk vFl1 vFl2 vTe vAw vRo vBe) sz)) 0 0 (va_A (hW ah z y vN vC vNow vHaze vCold vHot vPipe vDeg vThaw vTrc vTurb vLeft vLoad vWater vTrips vMi1 vMi2 vSz vBs vCell vDirt vAim vErr vCor vBrk vTop vLm vRows vCols vDown vRight vBound vStrain vPrice vFirm vSums vTk vFl1 vFl2 vTe vAw vRo vBe) sz) := by
  refine hz_ofWG (Qf := Q_X2_endTick G ah z y vN vC vNow vHaze vCold vHot vPipe vDeg vThaw vTrc vTurb vLeft vLoad vWater vTrips vMi1 vMi2 vSz vBs vCell vDirt vAim vErr vCor vBrk vTop vLm vRows vCols vDown vRight vBound vStrain vPrice vFirm vSums vTk vFl1 vFl2 vTe vAw vRo vBe) (cc := cX2_endTick) (maxL := 3) (ret := none) (by decide) rfl (Nat.le_of_ble_eq_true rfl) ?_
  intro p e s m below meth c A ls hx hb hr hts hown hin hlocks hml hP hK hA hD hS hGP hl
  have hown : s.vm.findClass RX2 = some m.cls := hown
  have hl : lv_has ls 3 [(0, .ref (ah 1))] := hl
  have hinwsJx4a65c0 : ∀ w ∈ wsJx4a65c0, w ∈ wsX2_endTick := fun _ h => List.mem_cons_of_mem _ (List.mem_append_left _ (List.mem_append_right _ (h)))
  have hinwsX10 : ∀ w ∈ wsX10, w ∈ wsX2_endTick := fun _ h => List.mem_cons_of_mem _ (List.mem_append_right _ (h))
  have hinwsX20 : ∀ w ∈ wsX20, w ∈ wsX2_endTick := fun _ h => List.mem_cons_of_mem _ (List.mem_append_left _ (List.mem_append_left _ (List.mem_append_left _ (List.mem_append_right _ (h)))))
  have hinwsX40 : ∀ w ∈ wsX40, w ∈ wsX2_endTick := fun _ h => List.mem_cons_of_mem _ (List.mem_append_left _ (List.mem_append_left _ (List.mem_append_right _ (h))))
  refine hz_iconst hx hb dX2_endTick_0 ?_
  refine lv_istore_n (lv' := [(1, zi 0), (0, .ref (ah 1))]) hx hb dX2_endTick_1 rfl hl (by decide) rfl (fun ls hl => ?_)
  have L2 : ∀ (n : Nat) (j : Int) (f : Int → Int) (g2 : Int → Int) (H : Heap) (locs : List Loc), (0 ≤ j ∧ j ≤ vC) → (f = drZ vTop vDown j) → (g2 = drZ vLm vRight j) → ((vC - j).toNat) < n → va_P G vwCl (hW ah z y vN vC vNow vHaze vCold vHot vPipe vDeg vThaw vTrc vTurb vLeft vLoad vWater vTrips vMi1 vMi2 vSz vBs vCell vDirt vAim vErr vCor vBrk f g2 vRows vCols vDown vRight vBound vStrain vPrice vFirm vSums vTk vFl1 vFl2 vTe vAw vRo vBe) H → va_D A (hW ah z y vN vC vNow vHaze vCold vHot vPipe vDeg vThaw vTrc vTurb vLeft vLoad vWater vTrips vMi1 vMi2 vSz vBs vCell vDirt vAim vErr vCor vBrk f g2 vRows vCols vDown vRight vBound vStrain vPrice vFirm vSums vTk vFl1 vFl2 vTe vAw vRo vBe) → va_S A s.heap H locs → ∀ ls : Array Slot, lv_has ls 3 [(0, .ref (ah 1)), (1, zi j)] → W p l e (headSpec wsX2_endTick ({ frames := 3, cells := 0, slots := 0, locals := 64 })).room s m ([.ref (ah 1)] : List Value).toArray below meth c H locs 0 0 (MQ below (Q_X2_endTick G ah z y vN vC vNow vHaze vCold vHot vPipe vDeg vThaw vTrc vTurb vLeft vLoad vWater vTrips vMi1 vMi2 vSz vBs vCell vDirt vAim vErr vCor vBrk vTop vLm vRows vCols vDown vRight vBound vStrain vPrice vFirm vSums vTk vFl1 vFl2 vTe vAw vRo vBe A) ([.ref (ah 1)] : List Value).toArray s 0 0 A) (F0 m 2 ls []) := by
    intro n
    induction n with
    | zero => exact fun j f g2 H locs h_k2 h_f2 h_g2 hm => absurd hm (Nat.not_lt_zero _)
    | succ n ih2 =>
      intro j f g2 H locs h_k2 h_f2 h_g2 hm2 hP hD hS ls hl
      refine lv_iload_n hx hb dX2_endTick_2 rfl (lv_at hl 1 rfl) ?_
      refine lv_aload_n hx hb dX2_endTick_3 rfl (lv_at hl 0 rfl) ?_
      refine va_get (D := G) (ci := 3) (v := .ref (ah 20)) (C := RX2) (T := TX2) (N := 5) hx hb hts hinwsX20 hown hK hP 1 rfl rfl 1 (by decide) (hts (.fieldLink RX2 18 "Heliokeep$Field" "clouds" "Ljava/util/ArrayList;") (List.mem_of_getElem? (i := 1) rfl)) (fun _ h9 => h9) rfl dX2_endTick_4 ?_
      refine hz_callRi (As := []) (rest := [zi j]) ⟨hx, hb, hml, hown, hts⟩ (c_Jx4a65c_size_8abf5 l G (ah 20) (.int z.2.2.2.2.2.2.1) (.ref z.2.2.2.2.2.2.2.2.1) y vC) (cwV 0 hts gX2_endTick_Jx4a65c_size_8abf5 rfl rfl rfl (by decide +kernel) ⟨Nat.le_of_ble_eq_true rfl, Nat.le_of_ble_eq_true rfl⟩) (hz_cons hP (i := 20) rfl hz_nil) hK 0 0 rfl rfl rfl rfl hl.1 rfl (Nat.le_of_ble_eq_true rfl) dX2_endTick_7 ⟨Nat.zero_le _, Nat.zero_le _⟩ ?_
      refine hz_icmp_ge (tgt := 33) hx hb dX2_endTick_10 (by decide) (by omega) (fun c1 => ?_) (fun c1 => ?_)
      · refine hz_iconst hx hb dX2_endTick_33 ?_
        refine lv_istore_n (lv' := [(1, zi 0), (0, .ref (ah 1))]) hx hb dX2_endTick_34 rfl hl (by decide) rfl (fun ls hl => ?_)
        have L35 : ∀ (n : Nat) (k : Int) (f2 : Int → Int) (H : Heap) (locs : List Loc), (0 ≤ k ∧ k ≤ vN) → (f2 = ddZ vNow vDirt k) → (∀ k : Int, 0 ≤ f2 k ∧ f2 k ≤ 9) → ((vN - k).toNat) < n → va_P G vwCl (hW ah z y vN vC vNow vHaze vCold vHot vPipe vDeg vThaw vTrc vTurb vLeft vLoad vWater vTrips vMi1 vMi2 vSz vBs vCell f2 vAim vErr vCor vBrk f g2 vRows vCols vDown vRight vBound vStrain vPrice vFirm vSums vTk vFl1 vFl2 vTe vAw vRo vBe) H → va_D A (hW ah z y vN vC vNow vHaze vCold vHot vPipe vDeg vThaw vTrc vTurb vLeft vLoad vWater vTrips vMi1 vMi2 vSz vBs vCell f2 vAim vErr vCor vBrk f g2 vRows vCols vDown vRight vBound vStrain vPrice vFirm vSums vTk vFl1 vFl2 vTe vAw vRo vBe) → va_S A s.heap H locs → ∀ ls : Array Slot, lv_has ls 3 [(0, .ref (ah 1)), (1, zi k)] → W p l e (headSpec wsX2_endTick ({ frames := 3, cells := 0, slots := 0, locals := 64 })).room s m ([.ref (ah 1)] : List Value).toArray below meth c H locs 0 0 (MQ below (Q_X2_endTick G ah z y vN vC vNow vHaze vCold vHot vPipe vDeg vThaw vTrc vTurb vLeft vLoad vWater vTrips vMi1 vMi2 vSz vBs vCell vDirt vAim vErr vCor vBrk vTop vLm vRows vCols vDown vRight vBound vStrain vPrice vFirm vSums vTk vFl1 vFl2 vTe vAw vRo vBe A) ([.ref (ah 1)] : List Value).toArray s 0 0 A) (F0 m 35 ls []) := by
          intro n
          induction n with
          | zero => exact fun k f2 H locs h_k35 h_d35 h_Dirt35 hm => absurd hm (Nat.not_lt_zero _)
          | succ n ih35 =>
            intro k f2 H locs h_k35 h_d35 h_Dirt35 hm35 hP hD hS ls hl
            refine lv_iload_n hx hb dX2_endTick_35 rfl (lv_at hl 1 rfl) ?_
            refine lv_aload_n hx hb dX2_endTick_36 rfl (lv_at hl 0 rfl) ?_
            refine va_get (D := G) (ci := 3) (v := .ref (ah 19)) (C := RX2) (T := TX2) (N := 5) hx hb hts hinwsX20 hown hK hP 1 rfl rfl 0 (by decide) (hts (.fieldLink RX2 12 "Heliokeep$Field" "mirrors" "Ljava/util/ArrayList;") (List.mem_of_getElem? (i := 3) rfl)) (fun _ h9 => h9) rfl dX2_endTick_37 ?_
            refine hz_callRi (As := []) (rest := [zi k]) ⟨hx, hb, hml, hown, hts⟩ (c_Jx4a65c_size_8abf5 l G (ah 19) (.int z.1) (.ref z.2.2.1) y vN) (cwV 0 hts gX2_endTick_Jx4a65c_size_8abf5 rfl rfl rfl (by decide +kernel) ⟨Nat.le_of_ble_eq_true rfl, Nat.le_of_ble_eq_true rfl⟩) (hz_cons hP (i := 19) rfl hz_nil) hK 0 0 rfl rfl rfl rfl hl.1 rfl (Nat.le_of_ble_eq_true rfl) dX2_endTick_40 ⟨Nat.zero_le _, Nat.zero_le _⟩ ?_
            refine hz_icmp_ge (tgt := 74) hx hb dX2_endTick_43 (by decide) (by omega) (fun c2 => ?_) (fun c2 => ?_)
            · refine lv_aload_n hx hb dX2_endTick_74 rfl (lv_at hl 0 rfl) ?_
              refine lv_dup hx hb dX2_endTick_75 rfl ?_
              refine va_get (D := G) (ci := 3) (v := zi vNow) (C := RX2) (T := TX2) (N := 5) hx hb hts hinwsX20 hown hK hP 1 rfl rfl 3 (by decide) (hts (.fieldLink RX2 38 "Heliokeep$Field" "tick" "I") (List.mem_of_getElem? (i := 6) rfl)) (fun _ h9 => h9) rfl dX2_endTick_76 ?_
              refine hz_iconst hx hb dX2_endTick_79 ?_
              refine hz_iadd hx hb dX2_endTick_80 ?_
              refine va_put (D := G) (ci := 3) (v := zi (vNow + 1)) (ty := .int) (C := RX2) (T := TX2) (N := 5) hx hb hts hinwsX20 tyX2 tyX2_ok nmX2 hown hK hP hD hS 1 rfl rfl 3 (by decide) (hts (.fieldLink RX2 38 "Heliokeep$Field" "tick" "I") (List.mem_of_getElem? (i := 6) rfl)) (fun _ h9 => h9) rfl (by decide +kernel) rfl rfl (Nat.le_of_ble_eq_true rfl) dX2_endTick_81 (fun H locs hP hD hS => ?_)
              have hP : va_P G vwCl (hW ah z y vN vC (vNow + 1) vHaze vCold vHot vPipe vDeg vThaw vTrc vTurb vLeft vLoad vWater vTrips vMi1 vMi2 vSz vBs vCell f2 vAim vErr vCor vBrk f g2 vRows vCols vDown vRight vBound vStrain vPrice vFirm vSums vTk vFl1 vFl2 vTe vAw vRo vBe) H := hP
              have hD : va_D A (hW ah z y vN vC (vNow + 1) vHaze vCold vHot vPipe vDeg vThaw vTrc vTurb vLeft vLoad vWater vTrips vMi1 vMi2 vSz vBs vCell f2 vAim vErr vCor vBrk f g2 vRows vCols vDown vRight vBound vStrain vPrice vFirm vSums vTk vFl1 vFl2 vTe vAw vRo vBe) := hD
              exact W.vret hx hb hr (fun t ht hW => ⟨⟨(f, g2, f2), rfl, ⟨(show f = drZ vTop vDown vC from by rw [h_f2]; exact congrArg (drZ vTop vDown) (by omega)), (show g2 = drZ vLm vRight vC from by rw [h_g2]; exact congrArg (drZ vLm vRight) (by omega)), (show f2 = ddZ vNow vDirt vN from by rw [h_d35]; exact congrArg (ddZ vNow vDirt) (by omega))⟩, hz_at hP ht⟩, hS.F ht⟩) hS.2.2 dX2_endTick_84
            · refine lv_aload_n hx hb dX2_endTick_46 rfl (lv_at hl 0 rfl) ?_
              refine va_get (D := G) (ci := 3) (v := .ref (ah 19)) (C := RX2) (T := TX2) (N := 5) hx hb hts hinwsX20 hown hK hP 1 rfl rfl 0 (by decide) (hts (.fieldLink RX2 12 "Heliokeep$Field" "mirrors" "Ljava/util/ArrayList;") (List.mem_of_getElem? (i := 3) rfl)) (fun _ h9 => h9) rfl dX2_endTick_47 ?_
              refine lv_iload_n hx hb dX2_endTick_50 rfl (lv_at hl 1 rfl) ?_
              obtain ⟨i3, hi3⟩ := hW_l1 (ah := ah) (z := z) (y := y) (vN := vN) (vC := vC) (vNow := vNow) (vHaze := vHaze) (vCold := vCold) (vHot := vHot) (vPipe := vPipe) (vDeg := vDeg) (vThaw := vThaw) (vTrc := vTrc) (vTurb := vTurb) (vLeft := vLeft) (vLoad := vLoad) (vWater := vWater) (vTrips := vTrips) (vMi1 := vMi1) (vMi2 := vMi2) (vSz := vSz) (vBs := vBs) (vCell := vCell) (vDirt := f2) (vAim := vAim) (vErr := vErr) (vCor := vCor) (vBrk := vBrk) (vTop := f) (vLm := g2) (vRows := vRows) (vCols := vCols) (vDown := vDown) (vRight := vRight) (vBound := vBound) (vStrain := vStrain) (vPrice := vPrice) (vFirm := vFirm) (vSums := vSums) (vTk := vTk) (vFl1 := vFl1) (vFl2 := vFl2) (vTe := vTe) (vAw := vAw) (vRo := vRo) (vBe := vBe) hZ (by omega)
              refine hz_callRq (As := [zi k]) (rest := []) ⟨hx, hb, hml, hown, hts⟩ (c_Jx4a65c_get_915e3 l G (ah 19) z.2.2.1 (.int z.1) z.2.2.2.1 z.2.2.2.2.1 y vN k (zam z k) (by omega) hZ.1.2.1 (hZ.1.2.2 k (by omega) (by omega))) (cwV 1 hts gX2_endTick_Jx4a65c_get_915e3 rfl rfl rfl (by decide +kernel) ⟨Nat.le_of_ble_eq_true rfl, Nat.le_of_ble_eq_true rfl⟩) (hz_cons hP (i := 19) rfl (hz_cons hP (i := i3) hi3 hz_nil)) hK 0 0 rfl rfl rfl rfl hl.1 rfl (Nat.le_of_ble_eq_true rfl) dX2_endTick_51 ⟨Nat.zero_le _, Nat.zero_le _⟩ ?_
              obtain ⟨i4, hi4, i4hd, i4ha, i4he, i4hc, i4hk⟩ := hW_m (ah := ah) (z := z) (y := y) (vN := vN) (vC := vC) (vNow := vNow) (vHaze := vHaze) (vCold := vCold) (vHot := vHot) (vPipe := vPipe) (vDeg := vDeg) (vThaw := vThaw) (vTrc := vTrc) (vTurb := vTurb) (vLeft := vLeft) (vLoad := vLoad) (vWater := vWater) (vTrips := vTrips) (vMi1 := vMi1) (vMi2 := vMi2) (vSz := vSz) (vBs := vBs) (vCell := vCell) (vDirt := f2) (vAim := vAim) (vErr := vErr) (vCor := vCor) (vBrk := vBrk) (vTop := f) (vLm := g2) (vRows := vRows) (vCols := vCols) (vDown := vDown) (vRight := vRight) (vBound := vBound) (vStrain := vStrain) (vPrice := vPrice) (vFirm := vFirm) (vSums := vSums) (vTk := vTk) (vFl1 := vFl1) (vFl2 := vFl2) (vTe := vTe) (vAw := vAw) (vRo := vRo) (vBe := vBe) (k := k) (by omega) (by omega)
              refine va_castS (cC := G.1 5) hx hb hown (hts (.classLink RX2 25 "Heliokeep$Mirror") (List.mem_of_getElem? (i := 4) rfl)) (hK.1 5 (RX4, TX4, 8) rfl).2 (va_recv hK hP (ci := 5) (q0 := i4) rfl hi4) dX2_endTick_54 ?_
              refine lv_astore_n (lv' := [(2, .ref (zam z k)), (0, .ref (ah 1)), (1, zi k)]) hx hb dX2_endTick_57 rfl hl (by decide) rfl (fun ls hl => ?_)
              refine lv_aload_n hx hb dX2_endTick_58 rfl (lv_at hl 0 rfl) ?_
              refine lv_aload_n hx hb dX2_endTick_59 rfl (lv_at hl 1 rfl) ?_
              refine lv_aload_n hx hb dX2_endTick_60 rfl (lv_at hl 0 rfl) ?_
              refine hz_iconst hx hb dX2_endTick_61 ?_
              refine hz_callRiG (As := [.ref (zam z k), zi 1]) (rest := [.ref (zam z k)]) ⟨hx, hb, hml, hown, hts⟩ (c_X2_dirtBehind l G ah z zE y vN vC vNow vHaze vCold vHot vPipe vDeg vThaw vTrc vTurb vLeft vLoad vWater vTrips vMi1 vMi2 vSz vBs vCell f2 vAim vErr vCor vBrk f g2 vRows vCols vDown vRight vBound vStrain vPrice vFirm vSums vTk vFl1 vFl2 vTe vAw vRo vBe 1 k hN hNow h_Dirt35 (by omega) (by omega)) (cwV 2 hts gX2_endTick_X2_dirtBehind rfl rfl rfl (by decide +kernel) ⟨Nat.le_of_ble_eq_true rfl, Nat.le_of_ble_eq_true rfl⟩) hP hK hS hGP 1 3 rfl rfl rfl rfl hl.1 rfl (Nat.le_of_ble_eq_true rfl) dX2_endTick_62 ⟨Nat.zero_le _, Nat.zero_le _⟩ ?_
              have qh := hdZ_rng (v := f2 k + ((vNow + 1) / 24 - vNow / 24)) (a := 0) (b := 9) (by omega)
              obtain ⟨i5, hi5, i5hd, i5ha, i5he, i5hc, i5hk⟩ := hW_m (ah := ah) (z := z) (y := y) (vN := vN) (vC := vC) (vNow := vNow) (vHaze := vHaze) (vCold := vCold) (vHot := vHot) (vPipe := vPipe) (vDeg := vDeg) (vThaw := vThaw) (vTrc := vTrc) (vTurb := vTurb) (vLeft := vLeft) (vLoad := vLoad) (vWater := vWater) (vTrips := vTrips) (vMi1 := vMi1) (vMi2 := vMi2) (vSz := vSz) (vBs := vBs) (vCell := vCell) (vDirt := f2) (vAim := vAim) (vErr := vErr) (vCor := vCor) (vBrk := vBrk) (vTop := f) (vLm := g2) (vRows := vRows) (vCols := vCols) (vDown := vDown) (vRight := vRight) (vBound := vBound) (vStrain := vStrain) (vPrice := vPrice) (vFirm := vFirm) (vSums := vSums) (vTk := vTk) (vFl1 := vFl1) (vFl2 := vFl2) (vTe := vTe) (vAw := vAw) (vRo := vRo) (vBe := vBe) (k := k) (by omega) (by omega)
              refine va_put (D := G) (ci := 5) (v := zi (hdZ (f2 k + ((vNow + 1) / 24 - vNow / 24)) 0 9)) (ty := .int) (C := RX4) (T := TX4) (N := 8) hx hb hts hinwsX40 tyX4 tyX4_ok nmX4 hown hK hP hD hS i5 hi5 rfl 3 (by decide) (hts (.fieldLink RX2 50 "Heliokeep$Mirror" "dirt" "I") (List.mem_of_getElem? (i := 5) rfl)) (fun _ h9 => h9) rfl (by decide +kernel) rfl rfl (Nat.le_of_ble_eq_true rfl) dX2_endTick_65 (fun H locs hP hD hS => ?_)
              have hP : va_P G vwCl ((hW ah z y vN vC vNow vHaze vCold vHot vPipe vDeg vThaw vTrc vTurb vLeft vLoad vWater vTrips vMi1 vMi2 vSz vBs vCell f2 vAim vErr vCor vBrk f g2 vRows vCols vDown vRight vBound vStrain vPrice vFirm vSums vTk vFl1 vFl2 vTe vAw vRo vBe).set i5 (zam z k, miE (vCell k) (hdZ (f2 k + ((vNow + 1) / 24 - vNow / 24)) 0 9) (vAim k) (vErr k) (vCor k) (vBrk k))) H := hP
              have hD : va_D A ((hW ah z y vN vC vNow vHaze vCold vHot vPipe vDeg vThaw vTrc vTurb vLeft vLoad vWater vTrips vMi1 vMi2 vSz vBs vCell f2 vAim vErr vCor vBrk f g2 vRows vCols vDown vRight vBound vStrain vPrice vFirm vSums vTk vFl1 vFl2 vTe vAw vRo vBe).set i5 (zam z k, miE (vCell k) (hdZ (f2 k + ((vNow + 1) / 24 - vNow / 24)) 0 9) (vAim k) (vErr k) (vCor k) (vBrk k))) := hD
              rw [show _ = _ from i5hd ((hdZ (f2 k + ((vNow + 1) / 24 - vNow / 24)) 0 9))] at hP hD
              have hP : va_P G vwCl (hW ah z y vN vC vNow vHaze vCold vHot vPipe vDeg vThaw vTrc vTurb vLeft vLoad vWater vTrips vMi1 vMi2 vSz vBs vCell (upZ f2 k (hdZ (f2 k + ((vNow + 1) / 24 - vNow / 24)) 0 9)) vAim vErr vCor vBrk f g2 vRows vCols vDown vRight vBound vStrain vPrice vFirm vSums vTk vFl1 vFl2 vTe vAw vRo vBe) H := hP
              have hD : va_D A (hW ah z y vN vC vNow vHaze vCold vHot vPipe vDeg vThaw vTrc vTurb vLeft vLoad vWater vTrips vMi1 vMi2 vSz vBs vCell (upZ f2 k (hdZ (f2 k + ((vNow + 1) / 24 - vNow / 24)) 0 9)) vAim vErr vCor vBrk f g2 vRows vCols vDown vRight vBound vStrain vPrice vFirm vSums vTk vFl1 vFl2 vTe vAw vRo vBe) := hD
              have f6 : ∀ j9 : Int, 0 ≤ (upZ f2 k (hdZ (f2 k + ((vNow + 1) / 24 - vNow / 24)) 0 9)) j9 ∧ (upZ f2 k (hdZ (f2 k + ((vNow + 1) / 24 - vNow / 24)) 0 9)) j9 ≤ 9 := upZ_rng h_Dirt35 (by omega)
              refine hz_iinc (v := (k + 1)) (lv' := [(1, zi (k + 1)), (2, .ref (zam z k)), (0, .ref (ah 1))]) hx hb dX2_endTick_68 hl (k := 2) rfl (by omega) (by decide) rfl (fun ls hl => ?_)
              refine lv_goto (tgt := 35) hx hb dX2_endTick_71 (by decide) ?_
              exact ih35 (k + 1) (upZ f2 k (hdZ (f2 k + ((vNow + 1) / 24 - vNow / 24)) 0 9)) _ _ (by omega) (by rw [h_d35]; exact ddZ_s (by omega) (by omega) hDirt) (f6) (by omega) hP hD hS ls (lv_sub hl [2, 0] rfl)
        exact L35 _ 0 vDirt _ _ (by omega) (ddZ_0.symm) (hDirt) (Nat.lt_succ_self _) hP hD hS ls (lv_sub hl [1, 0] rfl)
      · refine lv_aload_n hx hb dX2_endTick_13 rfl (lv_at hl 0 rfl) ?_
        refine va_get (D := G) (ci := 3) (v := .ref (ah 20)) (C := RX2) (T := TX2) (N := 5) hx hb hts hinwsX20 hown hK hP 1 rfl rfl 1 (by decide) (hts (.fieldLink RX2 18 "Heliokeep$Field" "clouds" "Ljava/util/ArrayList;") (List.mem_of_getElem? (i := 1) rfl)) (fun _ h9 => h9) rfl dX2_endTick_14 ?_
        refine lv_iload_n hx hb dX2_endTick_17 rfl (lv_at hl 1 rfl) ?_
        obtain ⟨i7, hi7⟩ := hW_l2 (ah := ah) (z := z) (y := y) (vN := vN) (vC := vC) (vNow := vNow) (vHaze := vHaze) (vCold := vCold) (vHot := vHot) (vPipe := vPipe) (vDeg := vDeg) (vThaw := vThaw) (vTrc := vTrc) (vTurb := vTurb) (vLeft := vLeft) (vLoad := vLoad) (vWater := vWater) (vTrips := vTrips) (vMi1 := vMi1) (vMi2 := vMi2) (vSz := vSz) (vBs := vBs) (vCell := vCell) (vDirt := vDirt) (vAim := vAim) (vErr := vErr) (vCor := vCor) (vBrk := vBrk) (vTop := f) (vLm := g2) (vRows := vRows) (vCols := vCols) (vDown := vDown) (vRight := vRight) (vBound := vBound) (vStrain := vStrain) (vPrice := vPrice) (vFirm := vFirm) (vSums := vSums) (vTk := vTk) (vFl1 := vFl1) (vFl2 := vFl2) (vTe := vTe) (vAw := vAw) (vRo := vRo) (vBe := vBe) hZ (by omega)
        refine hz_callRq (As := [zi j]) (rest := []) ⟨hx, hb, hml, hown, hts⟩ (c_Jx4a65c_get_915e3 l G (ah 20) z.2.2.2.2.2.2.2.2.1 (.int z.2.2.2.2.2.2.1) z.2.2.2.2.2.2.2.2.2.1 z.2.2.2.2.2.2.2.2.2.2.1 y vC j (zac z j) (by omega) hZ.2.2.1 (hZ.2.2.2 j (by omega) (by omega))) (cwV 1 hts gX2_endTick_Jx4a65c_get_915e3 rfl rfl rfl (by decide +kernel) ⟨Nat.le_of_ble_eq_true rfl, Nat.le_of_ble_eq_true rfl⟩) (hz_cons hP (i := 20) rfl (hz_cons hP (i := i7) hi7 hz_nil)) hK 0 0 rfl rfl rfl rfl hl.1 rfl (Nat.le_of_ble_eq_true rfl) dX2_endTick_18 ⟨Nat.zero_le _, Nat.zero_le _⟩ ?_
        obtain ⟨i8, hi8, i8hw⟩ := hW_c (ah := ah) (z := z) (y := y) (vN := vN) (vC := vC) (vNow := vNow) (vHaze := vHaze) (vCold := vCold) (vHot := vHot) (vPipe := vPipe) (vDeg := vDeg) (vThaw := vThaw) (vTrc := vTrc) (vTurb := vTurb) (vLeft := vLeft) (vLoad := vLoad) (vWater := vWater) (vTrips := vTrips) (vMi1 := vMi1) (vMi2 := vMi2) (vSz := vSz) (vBs := vBs) (vCell := vCell) (vDirt := vDirt) (vAim := vAim) (vErr := vErr) (vCor := vCor) (vBrk := vBrk) (vTop := f) (vLm := g2) (vRows := vRows) (vCols := vCols) (vDown := vDown) (vRight := vRight) (vBound := vBound) (vStrain := vStrain) (vPrice := vPrice) (vFirm := vFirm) (vSums := vSums) (vTk := vTk) (vFl1 := vFl1) (vFl2 := vFl2) (vTe := vTe) (vAw := vAw) (vRo := vRo) (vBe := vBe) (k := j) (by omega) (by omega)
        refine va_castS (cC := G.1 2) hx hb hown (hts (.classLink RX2 63 "Heliokeep$Cloud") (List.mem_of_getElem? (i := 2) rfl)) (hK.1 2 (RX1, TX1, 6) rfl).2 (va_recv hK hP (ci := 2) (q0 := i8) rfl hi8) dX2_endTick_21 ?_
        obtain ⟨i9, hi9, i9hw⟩ := hW_c (ah := ah) (z := z) (y := y) (vN := vN) (vC := vC) (vNow := vNow) (vHaze := vHaze) (vCold := vCold) (vHot := vHot) (vPipe := vPipe) (vDeg := vDeg) (vThaw := vThaw) (vTrc := vTrc) (vTurb := vTurb) (vLeft := vLeft) (vLoad := vLoad) (vWater := vWater) (vTrips := vTrips) (vMi1 := vMi1) (vMi2 := vMi2) (vSz := vSz) (vBs := vBs) (vCell := vCell) (vDirt := vDirt) (vAim := vAim) (vErr := vErr) (vCor := vCor) (vBrk := vBrk) (vTop := f) (vLm := g2) (vRows := vRows) (vCols := vCols) (vDown := vDown) (vRight := vRight) (vBound := vBound) (vStrain := vStrain) (vPrice := vPrice) (vFirm := vFirm) (vSums := vSums) (vTk := vTk) (vFl1 := vFl1) (vFl2 := vFl2) (vTe := vTe) (vAw := vAw) (vRo := vRo) (vBe := vBe) (k := j) (by omega) (by omega)
        refine hz_callVv (ws := (hW ah z y vN vC vNow vHaze vCold vHot vPipe vDeg vThaw vTrc vTurb vLeft vLoad vWater vTrips vMi1 vMi2 vSz vBs vCell vDirt vAim vErr vCor vBrk f g2 vRows vCols vDown vRight vBound vStrain vPrice vFirm vSums vTk vFl1 vFl2 vTe vAw vRo vBe)) (wc := (clW (zac z j) y (f j) (g2 j) (vRows j) (vCols j) (vDown j) (vRight j))) (As := []) (rest := []) ⟨hx, hb, hml, hown, hts⟩ (c_X1_move l G (zac z j) y _ (f j) (g2 j) (vRows j) (vCols j) (vDown j) (vRight j)  ) (cwV 0 hts gX2_endTick_X1_move rfl rfl rfl (by decide +kernel) ⟨Nat.le_of_ble_eq_true rfl, Nat.le_of_ble_eq_true rfl⟩) hP hK hD hS hA [i9] [0, 1, 2, 3] (hz_is1 hi9) rfl rfl i9 2 rfl rfl hi9 rfl hl.1 rfl (Nat.le_of_ble_eq_true rfl) dX2_endTick_24 ⟨Nat.zero_le _, Nat.zero_le _⟩ (fun _ => rfl) (fun u H locs hu hP hD hS => ?_)
        have hP : va_P G vwCl ((hW ah z y vN vC vNow vHaze vCold vHot vPipe vDeg vThaw vTrc vTurb vLeft vLoad vWater vTrips vMi1 vMi2 vSz vBs vCell vDirt vAim vErr vCor vBrk f g2 vRows vCols vDown vRight vBound vStrain vPrice vFirm vSums vTk vFl1 vFl2 vTe vAw vRo vBe).set i9 ((zac z j), clE ((f j) + (vDown j)) ((g2 j) + (vRight j)) ((vRows j)) ((vCols j)) ((vDown j)) ((vRight j)))) H := hP
        have hD : va_D A ((hW ah z y vN vC vNow vHaze vCold vHot vPipe vDeg vThaw vTrc vTurb vLeft vLoad vWater vTrips vMi1 vMi2 vSz vBs vCell vDirt vAim vErr vCor vBrk f g2 vRows vCols vDown vRight vBound vStrain vPrice vFirm vSums vTk vFl1 vFl2 vTe vAw vRo vBe).set i9 ((zac z j), clE ((f j) + (vDown j)) ((g2 j) + (vRight j)) ((vRows j)) ((vCols j)) ((vDown j)) ((vRight j)))) := hD
        rw [i9hw] at hP hD
        have hP : va_P G vwCl (hW ah z y vN vC vNow vHaze vCold vHot vPipe vDeg vThaw vTrc vTurb vLeft vLoad vWater vTrips vMi1 vMi2 vSz vBs vCell vDirt vAim vErr vCor vBrk (upZ f j ((f j) + (vDown j))) (upZ g2 j ((g2 j) + (vRight j))) vRows vCols vDown vRight vBound vStrain vPrice vFirm vSums vTk vFl1 vFl2 vTe vAw vRo vBe) H := hP
        have hD : va_D A (hW ah z y vN vC vNow vHaze vCold vHot vPipe vDeg vThaw vTrc vTurb vLeft vLoad vWater vTrips vMi1 vMi2 vSz vBs vCell vDirt vAim vErr vCor vBrk (upZ f j ((f j) + (vDown j))) (upZ g2 j ((g2 j) + (vRight j))) vRows vCols vDown vRight vBound vStrain vPrice vFirm vSums vTk vFl1 vFl2 vTe vAw vRo vBe) := hD
        refine hz_iinc (v := (j + 1)) (lv' := [(1, zi (j + 1)), (0, .ref (ah 1))]) hx hb dX2_endTick_27 hl (k := 1) rfl (by omega) (by decide) rfl (fun ls hl => ?_)
        refine lv_goto (tgt := 2) hx hb dX2_endTick_30 (by decide) ?_
        exact ih2 (j + 1) (upZ f j ((f j) + (vDown j))) (upZ g2 j ((g2 j) + (vRight j))) _ _ (by omega) (by rw [h_f2]; exact drZ_s (by omega)) (by rw [h_g2]; exact drZ_s (by omega)) (by omega) hP hD hS ls (lv_sub hl [1, 0] rfl)
  exact L2 _ 0 vTop vLm _ _ (by omega) (drZ_0.symm) (drZ_0.symm) (Nat.lt_succ_self _) hP hD hS ls (lv_sub hl [1, 0] rfl)
