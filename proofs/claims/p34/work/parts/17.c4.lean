/-! the search: its ends -/
theorem fS_0 {base te aw a : Int → Int} {q : Int} : fS base te aw a 0 q = base q := Int.add_zero _
theorem BSH_0 {base te aw bound be : Int → Int} {m R : Int} (h : R = 0) : BSH base te aw bound m R (-1) be := by
  subst h
  exact ⟨rfl, fun h => absurd rfl h⟩
theorem smZ_ch {f g : Int → Int} {i : Int} (h0 : 0 ≤ i) (h : ∀ j : Int, j ≠ i → f j = g j) : ∀ n : Nat, smZ f n = smZ g n + (if i < n then f i - g i else 0)
  | 0 => by rw [if_neg (by omega)]; rfl
  | n + 1 => by
    have ih := smZ_ch h0 h n
    show smZ f n + f n = smZ g n + g n + _
    rw [ih]
    by_cases e : (n : Int) = i
    · rw [if_neg (by omega), if_pos (by omega), e]
      omega
    · rw [h n e]
      by_cases q : i < n
      · rw [if_pos q, if_pos (by omega)]
        omega
      · rw [if_neg q, if_neg (by omega)]
        omega
theorem fS_tw {base te aw ro f g k : Int → Int} {m i v : Int} (h0 : 0 ≤ i) (h1 : i < m) (hF : ∀ q : Int, 0 ≤ q → q ≤ 5 → f q = fS base te aw ro m q) (hg : ∀ q : Int, 0 ≤ q → q ≤ 5 → g q = f q + (if ro i = -1 then 0 else raZ (ro i + aw i) (-1 * te i) q)) (hk : ∀ q : Int, 0 ≤ q → q ≤ 5 → k q = g q + (if v = -1 then 0 else raZ (v + aw i) (1 * te i) q)) : ∀ q : Int, 0 ≤ q → q ≤ 5 → k q = fS base te aw (upZ ro i v) m q := fun q a b => by
  rw [hk q a b, hg q a b, hF q a b]
  unfold fS
  have e := smZ_ch (f := gS te aw (upZ ro i v) q) (g := gS te aw ro q) (i := i) h0 (fun j hj => by unfold gS; rw [upZ_n hj]) m.toNat
  rw [if_pos (by omega)] at e
  rw [e]
  have e1 : gS te aw (upZ ro i v) q i = if v = -1 then 0 else raZ (v + aw i) (1 * te i) q := by
    unfold gS
    rw [upZ_s rfl, raZ_one]
  have e2 : gS te aw ro q i = -(if ro i = -1 then 0 else raZ (ro i + aw i) (-1 * te i) q) := by
    unfold gS
    rw [raZ_neg]
    split <;> omega
  rw [e1, e2]
  omega
theorem fS_m1 {base te aw a : Int → Int} {m : Int} (h : ∀ j : Int, 0 ≤ j → j < m → a j = -1) (q : Int) : fS base te aw a m q = base q := by
  unfold fS
  by_cases hm : 0 ≤ m
  · rw [smZ_cong (g := fun _ => 0) (k := m) (fun j a0 b0 => by unfold gS; exact if_pos (h j a0 b0)) m.toNat (by omega)]
    have : ∀ n : Nat, smZ (fun _ => 0) n = 0 := fun n => by
      induction n with
      | zero => rfl
      | succ n ih => show smZ (fun _ => 0) n + 0 = 0; omega
    rw [this]
    omega
  · rw [show m.toNat = 0 by omega]
    exact Int.add_zero _
theorem p70 : (7 : Int) ^ (0 : Int).toNat = 1 := rfl
theorem p71 : (7 : Int) ^ (1 : Int).toNat = 7 := rfl
theorem p72 : (7 : Int) ^ (2 : Int).toNat = 49 := rfl
theorem p73 : (7 : Int) ^ (3 : Int).toNat = 343 := rfl
theorem p74 : (7 : Int) ^ (4 : Int).toNat = 2401 := rfl
theorem rwZ_0 {m j : Int} : rwZ m 0 j = -1 := by
  unfold rwZ
  rw [Int.zero_ediv]
  rfl
theorem tr_e {m R i j : Int} (hR : 0 ≤ R) (hj : 0 ≤ j) (hji : j < i) (hi : i < m) (hm : m ≤ 4) (hd : (R + 1) % 7 ^ (m - 1 - i).toNat = 0) (h : ¬ rwZ m R i = 5) : rwZ m (R + 1) j = rwZ m R j := by
  unfold rwZ at h ⊢
  rcases (show m - 1 - i = 0 ∨ m - 1 - i = 1 ∨ m - 1 - i = 2 by omega) with e | e | e <;> rcases (show m - 1 - j = 1 ∨ m - 1 - j = 2 ∨ m - 1 - j = 3 by omega) with f | f | f <;> rw [e] at h hd <;> rw [f] <;> simp only [p70, p71, p72, p73] at h hd ⊢ <;> omega
theorem tr_i {m R i : Int} (hR : 0 ≤ R) (h0 : 0 ≤ i) (hi : i < m) (hm : m ≤ 4) (hd : (R + 1) % 7 ^ (m - 1 - i).toNat = 0) (h : ¬ rwZ m R i = 5) : rwZ m (R + 1) i = rwZ m R i + 1 := by
  unfold rwZ at h ⊢
  rcases (show m - 1 - i = 0 ∨ m - 1 - i = 1 ∨ m - 1 - i = 2 ∨ m - 1 - i = 3 by omega) with e | e | e | e <;> rw [e] at h hd ⊢ <;> simp only [p70, p71, p72, p73] at h hd ⊢ <;> omega
theorem tr_w {m R i : Int} (hR : 0 ≤ R) (h0 : 0 ≤ i) (hi : i < m) (hm : m ≤ 4) (hd : (R + 1) % 7 ^ (m - 1 - i).toNat = 0) (h : rwZ m R i = 5) : rwZ m (R + 1) i = -1 ∧ (R + 1) % 7 ^ (m - 1 - (i - 1)).toNat = 0 := by
  unfold rwZ at h ⊢
  rw [show m - 1 - (i - 1) = m - 1 - i + 1 from by omega]
  rcases (show m - 1 - i = 0 ∨ m - 1 - i = 1 ∨ m - 1 - i = 2 ∨ m - 1 - i = 3 by omega) with e | e | e | e <;> rw [e] at h hd ⊢ <;> simp only [p70, p71, p72, p73, p74, show (0 : Int) + 1 = 1 from rfl, show (1 : Int) + 1 = 2 from rfl, show (2 : Int) + 1 = 3 from rfl, show (3 : Int) + 1 = 4 from rfl] at h hd ⊢ <;> omega
abbrev Q_X0_foundBest (G : va_G) (s0 : Nat) (s1 : Nat) (s2 : Nat) (s3 : Nat) (s4 : Nat) (s5 : Nat) (s6 : Nat) (b0 : Nat) (y : Nat → ClassId) (xS xT xM : Int) (xF xTe xAw xRo xBe xB : Int → Int) (ba : Int → Int) (A : Nat → Prop) : Array Value → State → Outcome → State → Prop := va_Qi (fun (r : Int32) (u : Int × Int × (Int → Int) × (Int → Int) × (Int → Int)) => r = zI ((if u.1 = -1 then 0 else 1)) ∧ (BSH ba xTe xAw xB xS (7 ^ xS.toNat) u.1 u.2.2.2.2) ∧ (-1 ≤ u.1 ∧ u.1 ≤ 91200)) (fun (u : Int × Int × (Int → Int) × (Int → Int) × (Int → Int)) t => va_P G vwCl (sbW s0 s1 s2 s3 s4 s5 s6 b0 y xS u.1 u.2.1 u.2.2.1 xTe xAw u.2.2.2.1 u.2.2.2.2 xB) t.heap) A
set_option maxHeartbeats 4000000 in
set_option maxRecDepth 100000 in
theorem c_X0_foundBest (l : Launch) (G : va_G) (s0 : Nat) (s1 : Nat) (s2 : Nat) (s3 : Nat) (s4 : Nat) (s5 : Nat) (s6 : Nat) (b0 : Nat) (y : Nat → ClassId) (sz : Nat) (xS xT xM : Int) (xF xTe xAw xRo xBe xB : Int → Int) (ba : Int → Int) (hs : 0 ≤ xS ∧ xS ≤ 4) (hte : ∀ j : Int, 0 ≤ j → j < xS → 0 ≤ xTe j ∧ xTe j ≤ 95) (haw : ∀ j : Int, 0 ≤ j → j < xS → -6 ≤ xAw j ∧ xAw j ≤ 6) (hba : ∀ q : Int, 0 ≤ q → q ≤ 5 → 0 ≤ ba q ∧ ba q ≤ 11400) (hB : ∀ q : Int, 0 ≤ xB q ∧ xB q ≤ 9999) (hF : ∀ q : Int, 0 ≤ q → q ≤ 5 → xF q = ba q) : Met l yX0_foundBest wsX0_foundBest ({ frames := 11, cells := 0, slots := 0, locals := 520 }) (va_Pc [.ref s0, .ref b0] (HPre G (tyL y) (sbW s0 s1 s2 s3 s4 s5 s6 b0 y xS xT xM xF xTe xAw xRo xBe xB) sz)) (Q_X0_foundBest G s0 s1 s2 s3 s4 s5 s6 b0 y xS xT xM xF xTe xAw xRo xBe xB ba (va_A (sbW s0 s1 s2 s3 s4 s5 s6 b0 y xS xT xM xF xTe xAw xRo xBe xB) sz)) 0 0 (va_A (sbW s0 s1 s2 s3 s4 s5 s6 b0 y xS xT xM xF xTe xAw xRo xBe xB) sz) := by
  refine hz_ofW (Qf := Q_X0_foundBest G s0 s1 s2 s3 s4 s5 s6 b0 y xS xT xM xF xTe xAw xRo xBe xB ba) (cc := cX0_foundBest) (maxL := 2) (ret := (some .boolean)) (by decide) rfl (Nat.le_of_ble_eq_true rfl) ?_
  intro p e s m below meth c A ls hx hb hr hts hown hin hlocks hml hP hK hA hD hS hl
  have hown : s.vm.findClass RX0 = some m.cls := hown
  have hl : lv_has ls 2 [(0, .ref s0), (1, .ref b0)] := hl
  have hinwsX00 : ∀ w ∈ wsX00, w ∈ wsX0_foundBest := fun _ h => List.mem_cons_of_mem _ (List.mem_append_left _ (List.mem_append_right _ (h)))
  have hinwsX30 : ∀ w ∈ wsX30, w ∈ wsX0_foundBest := fun _ h => List.mem_cons_of_mem _ (List.mem_append_right _ (h))
  have eF := fun (q : Int) (a : 0 ≤ q) (b : q ≤ 5) => (hF q a b).trans (fS_0 (base := ba) (te := xTe) (aw := xAw) (a := xRo) (q := q)).symm
  have eFr : ∀ q : Int, 0 ≤ q → q ≤ 5 → -2147483648 ≤ xF q ∧ xF q < 2147483648 := fun q a b => by have q1 := hba q a b; rw [hF q a b]; omega
  have e01 : trN xF xB 6 = 0 ∨ trN xF xB 6 = 1 := isZ_01 _
  refine lv_aload_n hx hb dX0_foundBest_0 rfl (lv_at hl 0 rfl) ?_
  refine hz_iconst hx hb dX0_foundBest_1 ?_
  refine va_put (D := G) (ci := 1) (v := zi (-1)) (ty := .int) (C := RX0) (T := TX0) (N := 7) hx hb hts hinwsX00 tyX0 tyX0_ok nmX0 hown hK hP hD hS 0 rfl rfl 6 (by decide) (hts (.fieldLink RX0 35 "Heliokeep$AimSearch" "bestSum" "I") (List.mem_of_getElem? (i := 1) rfl)) (fun _ h9 => h9) rfl (by decide +kernel) rfl rfl (Nat.le_of_ble_eq_true rfl) dX0_foundBest_2 (fun H locs hP hD hS => ?_)
  have hP : va_P G vwCl (sbW s0 s1 s2 s3 s4 s5 s6 b0 y xS (-1) xM xF xTe xAw xRo xBe xB) H := hP
  have hD : va_D A (sbW s0 s1 s2 s3 s4 s5 s6 b0 y xS (-1) xM xF xTe xAw xRo xBe xB) := hD
  refine lv_aload_n hx hb dX0_foundBest_5 rfl (lv_at hl 0 rfl) ?_
  refine va_get (D := G) (ci := 1) (v := .ref s1) (C := RX0) (T := TX0) (N := 7) hx hb hts hinwsX00 hown hK hP 0 rfl rfl 0 (by decide) (hts (.fieldLink RX0 12 "Heliokeep$AimSearch" "light" "LHeliokeep$Light;") (List.mem_of_getElem? (i := 2) rfl)) (fun _ h9 => h9) rfl dX0_foundBest_6 ?_
  refine lv_aload_n hx hb dX0_foundBest_9 rfl (lv_at hl 1 rfl) ?_
  refine hz_callRi (As := [.ref b0]) (rest := []) ⟨hx, hb, hml, hown, hts⟩ (c_X3_isAbove l G s1 s2 b0 y xM xF xB  eFr hB) (cwV 1 hts gX0_foundBest_X3_isAbove rfl rfl rfl (by decide +kernel) ⟨Nat.le_of_ble_eq_true rfl, Nat.le_of_ble_eq_true rfl⟩) (hz_cons hP (i := 1) rfl (hz_cons hP (i := 2) rfl (hz_cons hP (i := 7) rfl hz_nil))) hK 0 4 rfl rfl rfl rfl hl.1 rfl (Nat.le_of_ble_eq_true rfl) dX0_foundBest_10 ⟨Nat.zero_le _, Nat.zero_le _⟩ ?_
  refine hz_if_ne (tgt := 22) hx hb dX0_foundBest_13 (by decide) (by omega) (fun c1 => ?_) (fun c1 => ?_)
  · refine lv_aload_n hx hb dX0_foundBest_22 rfl (lv_at hl 0 rfl) ?_
    refine va_get (D := G) (ci := 1) (v := zi (-1)) (C := RX0) (T := TX0) (N := 7) hx hb hts hinwsX00 hown hK hP 0 rfl rfl 6 (by decide) (hts (.fieldLink RX0 35 "Heliokeep$AimSearch" "bestSum" "I") (List.mem_of_getElem? (i := 1) rfl)) (fun _ h9 => h9) rfl dX0_foundBest_23 ?_
    refine hz_iconst hx hb dX0_foundBest_26 ?_
    refine hz_icmp_eq (tgt := 34) hx hb dX0_foundBest_27 (by decide) (by omega) (fun _ => ?_) (fun q => absurd q (by omega))
    refine hz_iconst hx hb dX0_foundBest_34 ?_
    exact W.zret (ty := .boolean) (v := zI 0) hx hb hr (zI_nb (by omega)) (fun t ht hW => ⟨⟨zI 0, ((-1), xM, xF, xRo, xBe), rfl, ⟨congrArg zI (by omega), ⟨(show BSH ba xTe xAw xB xS (7 ^ xS.toNat) ((-1) : Int) xBe from by have q := sk_above (m := xS) (d := 0) (P := 0) (be := xBe) (T := -1) (by omega) (Int.le_refl 0) hte eF (fun j a b => absurd b (by omega)) (show trN xF xB 6 = 1 from by omega) (BSH_0 (Int.zero_mul _)); rw [show xS - 0 = xS from by omega, show (0 : Int) + 1 = 1 from rfl, Int.one_mul] at q; exact q), (show -1 ≤ ((-1) : Int) ∧ ((-1) : Int) ≤ 91200 from by omega)⟩⟩, hz_at hP ht⟩, hS.F ht⟩) hS.2.2 dX0_foundBest_35
  · refine lv_aload_n hx hb dX0_foundBest_16 rfl (lv_at hl 0 rfl) ?_
    refine hz_iconst hx hb dX0_foundBest_17 ?_
    refine lv_aload_n hx hb dX0_foundBest_18 rfl (lv_at hl 1 rfl) ?_
    refine hz_callWv (As := [zi 0, .ref b0]) (rest := []) ⟨hx, hb, hml, hown, hts⟩ ((c_seek l G y xS.toNat) s0 s1 s2 s3 s4 s5 s6 b0 _ xS (-1) xM xF xTe xAw xRo xBe xB 0 ba 0 (by omega) hte haw hba eF hB (fun j a b => absurd b (by omega)) (Int.le_refl 0) (by omega) (by omega) (BSH_0 (Int.zero_mul _))) (cwV 2 hts gX0_foundBest_X0_seekFrom rfl rfl rfl (by decide +kernel) ⟨by show 2 + 2 * xS.toNat + 1 ≤ 11; omega, by show 8 + (5 + 11) + (200 + 60 * xS.toNat) ≤ 520; omega⟩) hP hK hD hS hA 0 1 rfl rfl rfl rfl hl.1 rfl (Nat.le_of_ble_eq_true rfl) dX0_foundBest_19 ⟨Nat.zero_le _, Nat.zero_le _⟩ (fun _ => rfl) (fun u H locs hu hP hD hS => ?_)
    obtain ⟨n_2, n_3, n_4, n_5, n_6⟩ := u
    have p7 : ∀ q : Int, 0 ≤ q → q ≤ 5 → n_4 q = xF q := hu.1
    have p8 : ∀ j : Int, 0 ≤ j → j < 0 → n_5 j = xRo j := hu.2.1
    have p9 : BSH ba xTe xAw xB xS ((0 + 1) * 7 ^ (xS - 0).toNat) n_2 n_6 := hu.2.2.1
    have p10 : -1 ≤ n_2 ∧ n_2 ≤ 91200 := hu.2.2.2
    have hP : va_P G vwCl (sbW s0 s1 s2 s3 s4 s5 s6 b0 y xS n_2 n_3 n_4 xTe xAw n_5 n_6 xB) H := hP
    have hD : va_D A (sbW s0 s1 s2 s3 s4 s5 s6 b0 y xS n_2 n_3 n_4 xTe xAw n_5 n_6 xB) := hD
    refine lv_aload_n hx hb dX0_foundBest_22 rfl (lv_at hl 0 rfl) ?_
    refine va_get (D := G) (ci := 1) (v := zi n_2) (C := RX0) (T := TX0) (N := 7) hx hb hts hinwsX00 hown hK hP 0 rfl rfl 6 (by decide) (hts (.fieldLink RX0 35 "Heliokeep$AimSearch" "bestSum" "I") (List.mem_of_getElem? (i := 1) rfl)) (fun _ h9 => h9) rfl dX0_foundBest_23 ?_
    refine hz_iconst hx hb dX0_foundBest_26 ?_
    refine hz_icmp_eq (tgt := 34) hx hb dX0_foundBest_27 (by decide) (by omega) (fun c11 => ?_) (fun c11 => ?_)
    · refine hz_iconst hx hb dX0_foundBest_34 ?_
      exact W.zret (ty := .boolean) (v := zI 0) hx hb hr (zI_nb (by omega)) (fun t ht hW => ⟨⟨zI 0, (n_2, n_3, n_4, n_5, n_6), rfl, ⟨congrArg zI (by omega), ⟨(show BSH ba xTe xAw xB xS (7 ^ xS.toNat) n_2 n_6 from by have q := p9; rw [show xS - 0 = xS from by omega, show (0 : Int) + 1 = 1 from rfl, Int.one_mul] at q; exact q), (show -1 ≤ n_2 ∧ n_2 ≤ 91200 from by omega)⟩⟩, hz_at hP ht⟩, hS.F ht⟩) hS.2.2 dX0_foundBest_35
    · refine hz_iconst hx hb dX0_foundBest_30 ?_
      refine lv_goto (tgt := 35) hx hb dX0_foundBest_31 (by decide) ?_
      exact W.zret (ty := .boolean) (v := zI 1) hx hb hr (zI_nb (by omega)) (fun t ht hW => ⟨⟨zI 1, (n_2, n_3, n_4, n_5, n_6), rfl, ⟨congrArg zI (by omega), ⟨(show BSH ba xTe xAw xB xS (7 ^ xS.toNat) n_2 n_6 from by have q := p9; rw [show xS - 0 = xS from by omega, show (0 : Int) + 1 = 1 from rfl, Int.one_mul] at q; exact q), (show -1 ≤ n_2 ∧ n_2 ≤ 91200 from by omega)⟩⟩, hz_at hP ht⟩, hS.F ht⟩) hS.2.2 dX0_foundBest_35
abbrev Q_X0_turnRow (G : va_G) (s0 : Nat) (s1 : Nat) (s2 : Nat) (s3 : Nat) (s4 : Nat) (s5 : Nat) (s6 : Nat) (y : Nat → ClassId) (xS xT xM : Int) (xF xTe xAw xRo xBe : Int → Int) (ba : Int → Int) (P : Int) (A : Nat → Prop) : Array Value → State → Outcome → State → Prop := va_Qv (fun (u : (Int → Int) × Int × (Int → Int)) => (∀ q : Int, 0 ≤ q → q ≤ 5 → u.1 q = fS ba xTe xAw u.2.2 xS q) ∧ (∀ j : Int, 0 ≤ j → j < xS → u.2.2 j = rwZ xS (P + 1) j)) (fun (u : (Int → Int) × Int × (Int → Int)) t => va_P G vwCl (seW s0 s1 s2 s3 s4 s5 s6 y xS xT u.2.1 u.1 xTe xAw u.2.2 xBe) t.heap) A
set_option maxHeartbeats 4000000 in
set_option maxRecDepth 100000 in
theorem c_X0_turnRow (l : Launch) (G : va_G) (s0 : Nat) (s1 : Nat) (s2 : Nat) (s3 : Nat) (s4 : Nat) (s5 : Nat) (s6 : Nat) (y : Nat → ClassId) (sz : Nat) (xS xT xM : Int) (xF xTe xAw xRo xBe : Int → Int) (ba : Int → Int) (P : Int) (hs : 0 ≤ xS ∧ xS ≤ 4) (hP0 : 0 ≤ P) (haw : ∀ j : Int, 0 ≤ j → j < xS → -6 ≤ xAw j ∧ xAw j ≤ 6) (hR : ∀ j : Int, 0 ≤ j → j < xS → xRo j = rwZ xS P j) (hF : ∀ q : Int, 0 ≤ q → q ≤ 5 → xF q = fS ba xTe xAw xRo xS q) : Met l yX0_turnRow wsX0_turnRow ({ frames := 3, cells := 0, slots := 0, locals := 67 }) (va_Pc [.ref s0] (HPre G (tyL y) (seW s0 s1 s2 s3 s4 s5 s6 y xS xT xM xF xTe xAw xRo xBe) sz)) (Q_X0_turnRow G s0 s1 s2 s3 s4 s5 s6 y xS xT xM xF xTe xAw xRo xBe ba P (va_A (seW s0 s1 s2 s3 s4 s5 s6 y xS xT xM xF xTe xAw xRo xBe) sz)) 0 0 (va_A (seW s0 s1 s2 s3 s4 s5 s6 y xS xT xM xF xTe xAw xRo xBe) sz) := by
  refine hz_ofW (Qf := Q_X0_turnRow G s0 s1 s2 s3 s4 s5 s6 y xS xT xM xF xTe xAw xRo xBe ba P) (cc := cX0_turnRow) (maxL := 2) (ret := none) (by decide) rfl (Nat.le_of_ble_eq_true rfl) ?_
  intro p e s m below meth c A ls hx hb hr hts hown hin hlocks hml hP hK hA hD hS hl
  have hown : s.vm.findClass RX0 = some m.cls := hown
  have hl : lv_has ls 2 [(0, .ref s0)] := hl
  have hinwsX00 : ∀ w ∈ wsX00, w ∈ wsX0_turnRow := fun _ h => List.mem_cons_of_mem _ (List.mem_append_left _ (List.mem_append_right _ (h)))
  have hinwsX30 : ∀ w ∈ wsX30, w ∈ wsX0_turnRow := fun _ h => List.mem_cons_of_mem _ (List.mem_append_right _ (h))
  refine lv_aload_n hx hb dX0_turnRow_0 rfl (lv_at hl 0 rfl) ?_
  refine va_get (D := G) (ci := 1) (v := zi xS) (C := RX0) (T := TX0) (N := 7) hx hb hts hinwsX00 hown hK hP 0 rfl rfl 5 (by decide) (hts (.fieldLink RX0 31 "Heliokeep$AimSearch" "size" "I") (List.mem_of_getElem? (i := 1) rfl)) (fun _ h9 => h9) rfl dX0_turnRow_1 ?_
  refine hz_iconst hx hb dX0_turnRow_4 ?_
  refine hz_isub hx hb dX0_turnRow_5 ?_
  refine lv_istore_n (lv' := [(1, zi (xS - 1)), (0, .ref s0)]) hx hb dX0_turnRow_6 rfl hl (by decide) rfl (fun ls hl => ?_)
  have L7 : ∀ (n : Nat) (i : Int) (f : Int → Int) (mi : Int) (ro : Int → Int) (H : Heap) (locs : List Loc), (-1 ≤ i ∧ i < xS) → (∀ j : Int, 0 ≤ j → j ≤ i → ro j = rwZ xS P j) → (∀ j : Int, 0 ≤ j → i < j → j < xS → ro j = rwZ xS (P + 1) j) → (-1 < i → (P + 1) % 7 ^ (xS - 1 - i).toNat = 0) → (∀ q : Int, 0 ≤ q → q ≤ 5 → f q = fS ba xTe xAw ro xS q) → ((i + 1).toNat) < n → va_P G vwCl (seW s0 s1 s2 s3 s4 s5 s6 y xS xT mi f xTe xAw ro xBe) H → va_D A (seW s0 s1 s2 s3 s4 s5 s6 y xS xT mi f xTe xAw ro xBe) → va_S A s.heap H locs → ∀ ls : Array Slot, lv_has ls 2 [(0, .ref s0), (1, zi i)] → W p l e (headSpec wsX0_turnRow ({ frames := 3, cells := 0, slots := 0, locals := 67 })).room s m ([.ref s0] : List Value).toArray below meth c H locs 0 0 (MQ below (Q_X0_turnRow G s0 s1 s2 s3 s4 s5 s6 y xS xT xM xF xTe xAw xRo xBe ba P A) ([.ref s0] : List Value).toArray s 0 0 A) (F0 m 7 ls []) := by
    intro n
    induction n with
    | zero => exact fun i f mi ro H locs h_k7 h_lo7 h_hi7 h_dv7 h_F7 hm => absurd hm (Nat.not_lt_zero _)
    | succ n ih7 =>
      intro i f mi ro H locs h_k7 h_lo7 h_hi7 h_dv7 h_F7 hm7 hP hD hS ls hl
      refine lv_iload_n hx hb dX0_turnRow_7 rfl (lv_at hl 1 rfl) ?_
      refine hz_if_lt (tgt := 80) hx hb dX0_turnRow_8 (by decide) (by omega) (fun c1 => ?_) (fun c1 => ?_)
      · exact W.vret hx hb hr (fun t ht hW => ⟨⟨(f, mi, ro), rfl, ⟨(show ∀ q : Int, 0 ≤ q → q ≤ 5 → f q = fS ba xTe xAw ro xS q from h_F7), (show ∀ j : Int, 0 ≤ j → j < xS → ro j = rwZ xS (P + 1) j from by
          first
            | (exfalso; omega)
            | exact fun j a b => h_hi7 j a (by omega) b
            | (intro j a b
               rcases Int.lt_trichotomy j i with e | e | e
               · rw [upZ_n (by omega), h_lo7 j a (by omega)]; exact (tr_e hP0 a e (by omega) (by omega) (h_dv7 (by omega)) (by omega)).symm
               · rw [upZ_s e, e, tr_i hP0 (by omega) (by omega) (by omega) (h_dv7 (by omega)) (by omega)]; omega
               · rw [upZ_n (by omega)]; exact h_hi7 j a e b))⟩, hz_at hP ht⟩, hS.F ht⟩) hS.2.2 dX0_turnRow_80
      · have qa := haw i (by omega) (by omega)
        have qr := rwZ_rng xS P i
        have ql := h_lo7 i (by omega) (Int.le_refl i)
        refine lv_aload_n hx hb dX0_turnRow_11 rfl (lv_at hl 0 rfl) ?_
        refine lv_iload_n hx hb dX0_turnRow_12 rfl (lv_at hl 1 rfl) ?_
        refine lv_aload_n hx hb dX0_turnRow_13 rfl (lv_at hl 0 rfl) ?_
        refine va_get (D := G) (ci := 1) (v := .ref s5) (C := RX0) (T := TX0) (N := 7) hx hb hts hinwsX00 hown hK hP 0 rfl rfl 3 (by decide) (hts (.fieldLink RX0 25 "Heliokeep$AimSearch" "row" "[I") (List.mem_of_getElem? (i := 2) rfl)) (fun _ h9 => h9) rfl dX0_turnRow_14 ?_
        refine lv_iload_n hx hb dX0_turnRow_17 rfl (lv_at hl 1 rfl) ?_
        refine hz_iald (f := ro) hx hb hK hP 5 0 rfl rfl (Nat.le_of_ble_eq_true rfl) (by omega) dX0_turnRow_18 ?_
        refine hz_iconst hx hb dX0_turnRow_19 ?_
        refine hz_callWv (As := [zi i, zi (ro i), zi (-1)]) (rest := []) ⟨hx, hb, hml, hown, hts⟩ (c_X0_shine l G s0 s1 s2 s3 s4 s5 s6 y _ xS xT mi f xTe xAw ro xBe i (ro i) (-1) (by omega) (by omega) (by omega)) (cwV 3 hts gX0_turnRow_X0_shine rfl rfl rfl (by decide +kernel) ⟨Nat.le_of_ble_eq_true rfl, Nat.le_of_ble_eq_true rfl⟩) hP hK hD hS hA 0 1 rfl rfl rfl rfl hl.1 rfl (Nat.le_of_ble_eq_true rfl) dX0_turnRow_20 ⟨Nat.zero_le _, Nat.zero_le _⟩ (fun _ => rfl) (fun u H locs hu hP hD hS => ?_)
        obtain ⟨f_2, m_3⟩ := u
        have p4 : ∀ q : Int, 0 ≤ q → q ≤ 5 → f_2 q = f q + (if (ro i) = -1 then 0 else raZ ((ro i) + xAw i) ((-1) * xTe i) q) := hu
        have hP : va_P G vwCl (seW s0 s1 s2 s3 s4 s5 s6 y xS xT m_3 f_2 xTe xAw ro xBe) H := hP
        have hD : va_D A (seW s0 s1 s2 s3 s4 s5 s6 y xS xT m_3 f_2 xTe xAw ro xBe) := hD
        refine lv_aload_n hx hb dX0_turnRow_23 rfl (lv_at hl 0 rfl) ?_
        refine va_get (D := G) (ci := 1) (v := .ref s5) (C := RX0) (T := TX0) (N := 7) hx hb hts hinwsX00 hown hK hP 0 rfl rfl 3 (by decide) (hts (.fieldLink RX0 25 "Heliokeep$AimSearch" "row" "[I") (List.mem_of_getElem? (i := 2) rfl)) (fun _ h9 => h9) rfl dX0_turnRow_24 ?_
        refine lv_iload_n hx hb dX0_turnRow_27 rfl (lv_at hl 1 rfl) ?_
        refine lv_aload_n hx hb dX0_turnRow_28 rfl (lv_at hl 0 rfl) ?_
        refine va_get (D := G) (ci := 1) (v := .ref s5) (C := RX0) (T := TX0) (N := 7) hx hb hts hinwsX00 hown hK hP 0 rfl rfl 3 (by decide) (hts (.fieldLink RX0 25 "Heliokeep$AimSearch" "row" "[I") (List.mem_of_getElem? (i := 2) rfl)) (fun _ h9 => h9) rfl dX0_turnRow_29 ?_
        refine lv_iload_n hx hb dX0_turnRow_32 rfl (lv_at hl 1 rfl) ?_
        refine hz_iald (f := ro) hx hb hK hP 5 0 rfl rfl (Nat.le_of_ble_eq_true rfl) (by omega) dX0_turnRow_33 ?_
        refine hz_iconst hx hb dX0_turnRow_34 ?_
        refine hz_icmp_ge (tgt := 49) hx hb dX0_turnRow_35 (by decide) (by omega) (fun c5 => ?_) (fun c5 => ?_)
        · refine hz_iconst hx hb dX0_turnRow_49 ?_
          refine hz_iast (f := ro) hx hb hK hP hD hS 5 0 rfl rfl (Nat.le_of_ble_eq_true rfl) (by omega) dX0_turnRow_50 (fun H locs hP hD hS => ?_)
          have hP : va_P G vwCl (seW s0 s1 s2 s3 s4 s5 s6 y xS xT m_3 f_2 xTe xAw (upZ ro i (-1)) xBe) H := hP
          have hD : va_D A (seW s0 s1 s2 s3 s4 s5 s6 y xS xT m_3 f_2 xTe xAw (upZ ro i (-1)) xBe) := hD
          refine lv_aload_n hx hb dX0_turnRow_51 rfl (lv_at hl 0 rfl) ?_
          refine lv_iload_n hx hb dX0_turnRow_52 rfl (lv_at hl 1 rfl) ?_
          refine lv_aload_n hx hb dX0_turnRow_53 rfl (lv_at hl 0 rfl) ?_
          refine va_get (D := G) (ci := 1) (v := .ref s5) (C := RX0) (T := TX0) (N := 7) hx hb hts hinwsX00 hown hK hP 0 rfl rfl 3 (by decide) (hts (.fieldLink RX0 25 "Heliokeep$AimSearch" "row" "[I") (List.mem_of_getElem? (i := 2) rfl)) (fun _ h9 => h9) rfl dX0_turnRow_54 ?_
          refine lv_iload_n hx hb dX0_turnRow_57 rfl (lv_at hl 1 rfl) ?_
          refine hz_iald (f := (upZ ro i (-1))) hx hb hK hP 5 0 rfl rfl (Nat.le_of_ble_eq_true rfl) (by omega) dX0_turnRow_58 ?_
          refine hz_tope (z2 := (-1)) (by exact upZ_s rfl) ?_
          refine hz_iconst hx hb dX0_turnRow_59 ?_
          refine hz_callWv (As := [zi i, zi (-1), zi 1]) (rest := []) ⟨hx, hb, hml, hown, hts⟩ (c_X0_shine l G s0 s1 s2 s3 s4 s5 s6 y _ xS xT m_3 f_2 xTe xAw (upZ ro i (-1)) xBe i (-1) 1 (by omega) (by omega) (by omega)) (cwV 3 hts gX0_turnRow_X0_shine rfl rfl rfl (by decide +kernel) ⟨Nat.le_of_ble_eq_true rfl, Nat.le_of_ble_eq_true rfl⟩) hP hK hD hS hA 0 1 rfl rfl rfl rfl hl.1 rfl (Nat.le_of_ble_eq_true rfl) dX0_turnRow_60 ⟨Nat.zero_le _, Nat.zero_le _⟩ (fun _ => rfl) (fun u H locs hu hP hD hS => ?_)
          obtain ⟨f_6, m_7⟩ := u
          have p8 : ∀ q : Int, 0 ≤ q → q ≤ 5 → f_6 q = f_2 q + (if (-1) = -1 then 0 else raZ ((-1) + xAw i) (1 * xTe i) q) := hu
          have hP : va_P G vwCl (seW s0 s1 s2 s3 s4 s5 s6 y xS xT m_7 f_6 xTe xAw (upZ ro i (-1)) xBe) H := hP
          have hD : va_D A (seW s0 s1 s2 s3 s4 s5 s6 y xS xT m_7 f_6 xTe xAw (upZ ro i (-1)) xBe) := hD
          refine lv_aload_n hx hb dX0_turnRow_63 rfl (lv_at hl 0 rfl) ?_
          refine va_get (D := G) (ci := 1) (v := .ref s5) (C := RX0) (T := TX0) (N := 7) hx hb hts hinwsX00 hown hK hP 0 rfl rfl 3 (by decide) (hts (.fieldLink RX0 25 "Heliokeep$AimSearch" "row" "[I") (List.mem_of_getElem? (i := 2) rfl)) (fun _ h9 => h9) rfl dX0_turnRow_64 ?_
          refine lv_iload_n hx hb dX0_turnRow_67 rfl (lv_at hl 1 rfl) ?_
          refine hz_iald (f := (upZ ro i (-1))) hx hb hK hP 5 0 rfl rfl (Nat.le_of_ble_eq_true rfl) (by omega) dX0_turnRow_68 ?_
          refine hz_tope (z2 := (-1)) (by exact upZ_s rfl) ?_
          refine hz_iconst hx hb dX0_turnRow_69 ?_
          refine hz_icmp_eq (tgt := 74) hx hb dX0_turnRow_70 (by decide) (by omega) (fun _ => ?_) (fun q => absurd q (by omega))
          refine hz_iinc (v := (i + (-1))) (lv' := [(1, zi (i + (-1))), (0, .ref s0)]) hx hb dX0_turnRow_74 hl (k := 1) rfl (by omega) (by decide) rfl (fun ls hl => ?_)
          refine lv_goto (tgt := 7) hx hb dX0_turnRow_77 (by decide) ?_
          exact ih7 (i + (-1)) f_6 m_7 (upZ ro i (-1)) _ _ (by omega) (by first | (exfalso; omega) | exact fun j a b => by rw [upZ_n (by omega)]; exact h_lo7 j a (by omega)) (by
          first
            | (exfalso; omega)
            | (intro j a b c2
               by_cases e : j = i
               · rw [upZ_s e, e]; exact (tr_w hP0 (by omega) (by omega) (by omega) (h_dv7 (by omega)) (by omega)).1.symm
               · rw [upZ_n e]; exact h_hi7 j a (by omega) c2)) (by
          first
            | (exfalso; omega)
            | exact fun _ => (tr_w hP0 (by omega) (by omega) (by omega) (h_dv7 (by omega)) (by omega)).2) (by first | (exfalso; omega) | exact fS_tw (by omega) (by omega) h_F7 p4 p8) (by omega) hP hD hS ls (lv_sub hl [1, 0] rfl)
        · refine lv_aload_n hx hb dX0_turnRow_38 rfl (lv_at hl 0 rfl) ?_
          refine va_get (D := G) (ci := 1) (v := .ref s5) (C := RX0) (T := TX0) (N := 7) hx hb hts hinwsX00 hown hK hP 0 rfl rfl 3 (by decide) (hts (.fieldLink RX0 25 "Heliokeep$AimSearch" "row" "[I") (List.mem_of_getElem? (i := 2) rfl)) (fun _ h9 => h9) rfl dX0_turnRow_39 ?_
          refine lv_iload_n hx hb dX0_turnRow_42 rfl (lv_at hl 1 rfl) ?_
          refine hz_iald (f := ro) hx hb hK hP 5 0 rfl rfl (Nat.le_of_ble_eq_true rfl) (by omega) dX0_turnRow_43 ?_
          refine hz_iconst hx hb dX0_turnRow_44 ?_
          refine hz_iadd hx hb dX0_turnRow_45 ?_
          refine lv_goto (tgt := 50) hx hb dX0_turnRow_46 (by decide) ?_
          refine hz_iast (f := ro) hx hb hK hP hD hS 5 0 rfl rfl (Nat.le_of_ble_eq_true rfl) (by omega) dX0_turnRow_50 (fun H locs hP hD hS => ?_)
          have hP : va_P G vwCl (seW s0 s1 s2 s3 s4 s5 s6 y xS xT m_3 f_2 xTe xAw (upZ ro i ((ro i) + 1)) xBe) H := hP
          have hD : va_D A (seW s0 s1 s2 s3 s4 s5 s6 y xS xT m_3 f_2 xTe xAw (upZ ro i ((ro i) + 1)) xBe) := hD
          refine lv_aload_n hx hb dX0_turnRow_51 rfl (lv_at hl 0 rfl) ?_
          refine lv_iload_n hx hb dX0_turnRow_52 rfl (lv_at hl 1 rfl) ?_
          refine lv_aload_n hx hb dX0_turnRow_53 rfl (lv_at hl 0 rfl) ?_
          refine va_get (D := G) (ci := 1) (v := .ref s5) (C := RX0) (T := TX0) (N := 7) hx hb hts hinwsX00 hown hK hP 0 rfl rfl 3 (by decide) (hts (.fieldLink RX0 25 "Heliokeep$AimSearch" "row" "[I") (List.mem_of_getElem? (i := 2) rfl)) (fun _ h9 => h9) rfl dX0_turnRow_54 ?_
          refine lv_iload_n hx hb dX0_turnRow_57 rfl (lv_at hl 1 rfl) ?_
          refine hz_iald (f := (upZ ro i ((ro i) + 1))) hx hb hK hP 5 0 rfl rfl (Nat.le_of_ble_eq_true rfl) (by omega) dX0_turnRow_58 ?_
          refine hz_tope (z2 := ((ro i) + 1)) (by exact upZ_s rfl) ?_
          refine hz_iconst hx hb dX0_turnRow_59 ?_
          refine hz_callWv (As := [zi i, zi ((ro i) + 1), zi 1]) (rest := []) ⟨hx, hb, hml, hown, hts⟩ (c_X0_shine l G s0 s1 s2 s3 s4 s5 s6 y _ xS xT m_3 f_2 xTe xAw (upZ ro i ((ro i) + 1)) xBe i ((ro i) + 1) 1 (by omega) (by omega) (by omega)) (cwV 3 hts gX0_turnRow_X0_shine rfl rfl rfl (by decide +kernel) ⟨Nat.le_of_ble_eq_true rfl, Nat.le_of_ble_eq_true rfl⟩) hP hK hD hS hA 0 1 rfl rfl rfl rfl hl.1 rfl (Nat.le_of_ble_eq_true rfl) dX0_turnRow_60 ⟨Nat.zero_le _, Nat.zero_le _⟩ (fun _ => rfl) (fun u H locs hu hP hD hS => ?_)
          obtain ⟨f_9, m_10⟩ := u
          have p11 : ∀ q : Int, 0 ≤ q → q ≤ 5 → f_9 q = f_2 q + (if ((ro i) + 1) = -1 then 0 else raZ (((ro i) + 1) + xAw i) (1 * xTe i) q) := hu
          have hP : va_P G vwCl (seW s0 s1 s2 s3 s4 s5 s6 y xS xT m_10 f_9 xTe xAw (upZ ro i ((ro i) + 1)) xBe) H := hP
          have hD : va_D A (seW s0 s1 s2 s3 s4 s5 s6 y xS xT m_10 f_9 xTe xAw (upZ ro i ((ro i) + 1)) xBe) := hD
          refine lv_aload_n hx hb dX0_turnRow_63 rfl (lv_at hl 0 rfl) ?_
          refine va_get (D := G) (ci := 1) (v := .ref s5) (C := RX0) (T := TX0) (N := 7) hx hb hts hinwsX00 hown hK hP 0 rfl rfl 3 (by decide) (hts (.fieldLink RX0 25 "Heliokeep$AimSearch" "row" "[I") (List.mem_of_getElem? (i := 2) rfl)) (fun _ h9 => h9) rfl dX0_turnRow_64 ?_
          refine lv_iload_n hx hb dX0_turnRow_67 rfl (lv_at hl 1 rfl) ?_
          refine hz_iald (f := (upZ ro i ((ro i) + 1))) hx hb hK hP 5 0 rfl rfl (Nat.le_of_ble_eq_true rfl) (by omega) dX0_turnRow_68 ?_
          refine hz_tope (z2 := ((ro i) + 1)) (by exact upZ_s rfl) ?_
          refine hz_iconst hx hb dX0_turnRow_69 ?_
          refine hz_icmp_eq (tgt := 74) hx hb dX0_turnRow_70 (by decide) (by omega) (fun c12 => ?_) (fun c12 => ?_)
          · refine hz_iinc (v := (i + (-1))) (lv' := [(1, zi (i + (-1))), (0, .ref s0)]) hx hb dX0_turnRow_74 hl (k := 1) rfl (by omega) (by decide) rfl (fun ls hl => ?_)
            refine lv_goto (tgt := 7) hx hb dX0_turnRow_77 (by decide) ?_
            exact ih7 (i + (-1)) f_9 m_10 (upZ ro i ((ro i) + 1)) _ _ (by omega) (by first | (exfalso; omega) | exact fun j a b => by rw [upZ_n (by omega)]; exact h_lo7 j a (by omega)) (by
          first
            | (exfalso; omega)
            | (intro j a b c2
               by_cases e : j = i
               · rw [upZ_s e, e]; exact (tr_w hP0 (by omega) (by omega) (by omega) (h_dv7 (by omega)) (by omega)).1.symm
               · rw [upZ_n e]; exact h_hi7 j a (by omega) c2)) (by
          first
            | (exfalso; omega)
            | exact fun _ => (tr_w hP0 (by omega) (by omega) (by omega) (h_dv7 (by omega)) (by omega)).2) (by first | (exfalso; omega) | exact fS_tw (by omega) (by omega) h_F7 p4 p11) (by omega) hP hD hS ls (lv_sub hl [1, 0] rfl)
          · exact W.vret hx hb hr (fun t ht hW => ⟨⟨(f_9, m_10, (upZ ro i ((ro i) + 1))), rfl, ⟨(show ∀ q : Int, 0 ≤ q → q ≤ 5 → f_9 q = fS ba xTe xAw (upZ ro i ((ro i) + 1)) xS q from by first | exact h_F7 | exact fS_tw (by omega) (by omega) h_F7 p4 p11), (show ∀ j : Int, 0 ≤ j → j < xS → (upZ ro i ((ro i) + 1)) j = rwZ xS (P + 1) j from by
          first
            | (exfalso; omega)
            | exact fun j a b => h_hi7 j a (by omega) b
            | (intro j a b
               rcases Int.lt_trichotomy j i with e | e | e
               · rw [upZ_n (by omega), h_lo7 j a (by omega)]; exact (tr_e hP0 a e (by omega) (by omega) (h_dv7 (by omega)) (by omega)).symm
               · rw [upZ_s e, e, tr_i hP0 (by omega) (by omega) (by omega) (h_dv7 (by omega)) (by omega)]; omega
               · rw [upZ_n (by omega)]; exact h_hi7 j a e b))⟩, hz_at hP ht⟩, hS.F ht⟩) hS.2.2 dX0_turnRow_73
  exact L7 _ (xS - 1) xF xM xRo _ _ (by omega) (fun j a b => hR j a (by omega)) (fun j a b c => absurd b (by omega)) (fun _ => by rw [show xS - 1 - (xS - 1) = 0 from by omega]; exact Int.emod_one _) (hF) (Nat.lt_succ_self _) hP hD hS ls (lv_sub hl [1, 0] rfl)
abbrev Q_X0_mostOfAllRows (G : va_G) (s0 : Nat) (s1 : Nat) (s2 : Nat) (s3 : Nat) (s4 : Nat) (s5 : Nat) (s6 : Nat) (b0 : Nat) (y : Nat → ClassId) (xS xT xM : Int) (xF xTe xAw xRo xBe xB : Int → Int) (ba : Int → Int) (A : Nat → Prop) : Array Value → State → Outcome → State → Prop := va_Qi (fun (r : Int32) (u : Int × (Int → Int) × Int × (Int → Int)) => r = zI (u.1) ∧ (u.1 = (bsF ba xTe xAw xB xS (7 ^ xS.toNat : Int).toNat).2) ∧ (-1 ≤ u.1 ∧ u.1 ≤ 91200)) (fun (u : Int × (Int → Int) × Int × (Int → Int)) t => va_P G vwCl (sbW s0 s1 s2 s3 s4 s5 s6 b0 y xS xT u.2.2.1 u.2.1 xTe xAw u.2.2.2 xBe xB) t.heap) A
set_option maxHeartbeats 4000000 in
set_option maxRecDepth 100000 in
theorem c_X0_mostOfAllRows (l : Launch) (G : va_G) (s0 : Nat) (s1 : Nat) (s2 : Nat) (s3 : Nat) (s4 : Nat) (s5 : Nat) (s6 : Nat) (b0 : Nat) (y : Nat → ClassId) (sz : Nat) (xS xT xM : Int) (xF xTe xAw xRo xBe xB : Int → Int) (ba : Int → Int) (hs : 0 ≤ xS ∧ xS ≤ 4) (hte : ∀ j : Int, 0 ≤ j → j < xS → 0 ≤ xTe j ∧ xTe j ≤ 95) (haw : ∀ j : Int, 0 ≤ j → j < xS → -6 ≤ xAw j ∧ xAw j ≤ 6) (hba : ∀ q : Int, 0 ≤ q → q ≤ 5 → 0 ≤ ba q ∧ ba q ≤ 11400) (hB : ∀ q : Int, 0 ≤ xB q ∧ xB q ≤ 9999) (hF : ∀ q : Int, 0 ≤ q → q ≤ 5 → xF q = ba q) : Met l yX0_mostOfAllRows wsX0_mostOfAllRows ({ frames := 4, cells := 0, slots := 0, locals := 88 }) (va_Pc [.ref s0, .ref b0] (HPre G (tyL y) (sbW s0 s1 s2 s3 s4 s5 s6 b0 y xS xT xM xF xTe xAw xRo xBe xB) sz)) (Q_X0_mostOfAllRows G s0 s1 s2 s3 s4 s5 s6 b0 y xS xT xM xF xTe xAw xRo xBe xB ba (va_A (sbW s0 s1 s2 s3 s4 s5 s6 b0 y xS xT xM xF xTe xAw xRo xBe xB) sz)) 0 0 (va_A (sbW s0 s1 s2 s3 s4 s5 s6 b0 y xS xT xM xF xTe xAw xRo xBe xB) sz) := by
  refine hz_ofW (Qf := Q_X0_mostOfAllRows G s0 s1 s2 s3 s4 s5 s6 b0 y xS xT xM xF xTe xAw xRo xBe xB ba) (cc := cX0_mostOfAllRows) (maxL := 5) (ret := (some .int)) (by decide) rfl (Nat.le_of_ble_eq_true rfl) ?_
  intro p e s m below meth c A ls hx hb hr hts hown hin hlocks hml hP hK hA hD hS hl
  have hown : s.vm.findClass RX0 = some m.cls := hown
  have hl : lv_has ls 5 [(0, .ref s0), (1, .ref b0)] := hl
  have hinwsX00 : ∀ w ∈ wsX00, w ∈ wsX0_mostOfAllRows := fun _ h => List.mem_cons_of_mem _ (List.mem_append_left _ (List.mem_append_right _ (h)))
  have hinwsX30 : ∀ w ∈ wsX30, w ∈ wsX0_mostOfAllRows := fun _ h => List.mem_cons_of_mem _ (List.mem_append_right _ (h))
  refine hz_iconst hx hb dX0_mostOfAllRows_0 ?_
  refine lv_istore_n (lv' := [(2, zi 1), (0, .ref s0), (1, .ref b0)]) hx hb dX0_mostOfAllRows_1 rfl hl (by decide) rfl (fun ls hl => ?_)
  refine hz_iconst hx hb dX0_mostOfAllRows_2 ?_
  refine lv_istore_n (lv' := [(3, zi 0), (2, zi 1), (0, .ref s0), (1, .ref b0)]) hx hb dX0_mostOfAllRows_3 rfl hl (by decide) rfl (fun ls hl => ?_)
  have L4 : ∀ (n : Nat) (all : Int) (k : Int) (ro : Int → Int) (H : Heap) (locs : List Loc), (0 ≤ k ∧ k ≤ xS) → (all = 7 ^ k.toNat) → (1 ≤ all ∧ all ≤ 2401) → (∀ j : Int, 0 ≤ j → j < k → ro j = -1) → ((xS - k).toNat) < n → va_P G vwCl (sbW s0 s1 s2 s3 s4 s5 s6 b0 y xS xT xM xF xTe xAw ro xBe xB) H → va_D A (sbW s0 s1 s2 s3 s4 s5 s6 b0 y xS xT xM xF xTe xAw ro xBe xB) → va_S A s.heap H locs → ∀ ls : Array Slot, lv_has ls 5 [(0, .ref s0), (1, .ref b0), (2, zi all), (3, zi k)] → W p l e (headSpec wsX0_mostOfAllRows ({ frames := 4, cells := 0, slots := 0, locals := 88 })).room s m ([.ref s0, .ref b0] : List Value).toArray below meth c H locs 0 0 (MQ below (Q_X0_mostOfAllRows G s0 s1 s2 s3 s4 s5 s6 b0 y xS xT xM xF xTe xAw xRo xBe xB ba A) ([.ref s0, .ref b0] : List Value).toArray s 0 0 A) (F0 m 4 ls []) := by
    intro n
    induction n with
    | zero => exact fun all k ro H locs h_k4 h_a4 h_ar4 h_h4 hm => absurd hm (Nat.not_lt_zero _)
    | succ n ih4 =>
      intro all k ro H locs h_k4 h_a4 h_ar4 h_h4 hm4 hP hD hS ls hl
      refine lv_iload_n hx hb dX0_mostOfAllRows_4 rfl (lv_at hl 3 rfl) ?_
      refine lv_aload_n hx hb dX0_mostOfAllRows_5 rfl (lv_at hl 0 rfl) ?_
      refine va_get (D := G) (ci := 1) (v := zi xS) (C := RX0) (T := TX0) (N := 7) hx hb hts hinwsX00 hown hK hP 0 rfl rfl 5 (by decide) (hts (.fieldLink RX0 31 "Heliokeep$AimSearch" "size" "I") (List.mem_of_getElem? (i := 1) rfl)) (fun _ h9 => h9) rfl dX0_mostOfAllRows_6 ?_
      refine hz_icmp_ge (tgt := 30) hx hb dX0_mostOfAllRows_9 (by decide) (by omega) (fun c1 => ?_) (fun c1 => ?_)
      · refine hz_iconst hx hb dX0_mostOfAllRows_30 ?_
        refine lv_istore_n (lv' := [(3, zi (-1)), (0, .ref s0), (1, .ref b0), (2, zi all)]) hx hb dX0_mostOfAllRows_31 rfl hl (by decide) rfl (fun ls hl => ?_)
        refine hz_iconst hx hb dX0_mostOfAllRows_32 ?_
        refine lv_istore (lv' := [(4, zi 0), (3, zi (-1)), (0, .ref s0), (1, .ref b0), (2, zi all)]) hx hb dX0_mostOfAllRows_33 hl (by decide) rfl (fun ls hl => ?_)
        have L35 : ∀ (n : Nat) (mo : Int) (n2 : Int) (f : Int → Int) (mi : Int) (ro2 : Int → Int) (H : Heap) (locs : List Loc), (0 ≤ n2 ∧ n2 ≤ all) → (mo = (bsF ba xTe xAw xB xS n2.toNat).2) → (-1 ≤ mo ∧ mo ≤ 91200) → (∀ j : Int, 0 ≤ j → j < xS → ro2 j = rwZ xS n2 j) → (∀ q : Int, 0 ≤ q → q ≤ 5 → f q = fS ba xTe xAw ro2 xS q) → ((all - n2).toNat) < n → va_P G vwCl (sbW s0 s1 s2 s3 s4 s5 s6 b0 y xS xT mi f xTe xAw ro2 xBe xB) H → va_D A (sbW s0 s1 s2 s3 s4 s5 s6 b0 y xS xT mi f xTe xAw ro2 xBe xB) → va_S A s.heap H locs → ∀ ls : Array Slot, lv_has ls 5 [(0, .ref s0), (1, .ref b0), (2, zi all), (3, zi mo), (4, zi n2)] → W p l e (headSpec wsX0_mostOfAllRows ({ frames := 4, cells := 0, slots := 0, locals := 88 })).room s m ([.ref s0, .ref b0] : List Value).toArray below meth c H locs 0 0 (MQ below (Q_X0_mostOfAllRows G s0 s1 s2 s3 s4 s5 s6 b0 y xS xT xM xF xTe xAw xRo xBe xB ba A) ([.ref s0, .ref b0] : List Value).toArray s 0 0 A) (F0 m 35 ls []) := by
          intro n
          induction n with
          | zero => exact fun mo n2 f mi ro2 H locs h_k35 h_m35 h_mr35 h_R35 h_F35 hm => absurd hm (Nat.not_lt_zero _)
          | succ n ih35 =>
            intro mo n2 f mi ro2 H locs h_k35 h_m35 h_mr35 h_R35 h_F35 hm35 hP hD hS ls hl
            refine lv_iload hx hb dX0_mostOfAllRows_35 (lv_at hl 4 rfl) ?_
            refine lv_iload_n hx hb dX0_mostOfAllRows_37 rfl (lv_at hl 2 rfl) ?_
            refine hz_icmp_ge (tgt := 74) hx hb dX0_mostOfAllRows_38 (by decide) (by omega) (fun c2 => ?_) (fun c2 => ?_)
            · refine lv_iload_n hx hb dX0_mostOfAllRows_74 rfl (lv_at hl 3 rfl) ?_
              exact W.iret (v := zI mo) hx hb hr (fun t ht hW => ⟨⟨zI mo, (mo, f, mi, ro2), rfl, ⟨rfl, ⟨(show mo = (bsF ba xTe xAw xB xS (7 ^ xS.toNat : Int).toNat).2 from by rw [h_m35, show n2 = all from by omega, h_a4, show k = xS from by omega]), (show -1 ≤ mo ∧ mo ≤ 91200 from by omega)⟩⟩, hz_at hP ht⟩, hS.F ht⟩) hS.2.2 dX0_mostOfAllRows_75
            · have e1 : ∀ q : Int, 0 ≤ q → q ≤ 5 → f q = fS ba xTe xAw (rwZ xS n2) xS q := fun q a b => (h_F35 q a b).trans (fS_row hs.1 h_R35 q)
              have etr : trN f xB 6 = trN (fS ba xTe xAw (rwZ xS n2) xS) xB 6 := trN_cong e1
              have eal : alZ f = alZ (fS ba xTe xAw (rwZ xS n2) xS) := alZ_cong e1
              have e01 : trN f xB 6 = 0 ∨ trN f xB 6 = 1 := isZ_01 _
              have hal := al_rng (base := ba) (te := xTe) (aw := xAw) (a := rwZ xS n2) (m := xS) hba hte hs
              rw [← eal] at hal
              have eFr : ∀ q : Int, 0 ≤ q → q ≤ 5 → -2147483648 ≤ f q ∧ f q < 2147483648 := fun q a b => by have q1 := fS_rng (aw := xAw) (a := rwZ xS n2) (q := q) (hba q a b) hte hs; rw [← e1 q a b] at q1; omega
              refine lv_aload_n hx hb dX0_mostOfAllRows_41 rfl (lv_at hl 0 rfl) ?_
              refine va_get (D := G) (ci := 1) (v := .ref s1) (C := RX0) (T := TX0) (N := 7) hx hb hts hinwsX00 hown hK hP 0 rfl rfl 0 (by decide) (hts (.fieldLink RX0 12 "Heliokeep$AimSearch" "light" "LHeliokeep$Light;") (List.mem_of_getElem? (i := 3) rfl)) (fun _ h9 => h9) rfl dX0_mostOfAllRows_42 ?_
              refine lv_aload_n hx hb dX0_mostOfAllRows_45 rfl (lv_at hl 1 rfl) ?_
              refine hz_callRi (As := [.ref b0]) (rest := []) ⟨hx, hb, hml, hown, hts⟩ (c_X3_isAbove l G s1 s2 b0 y mi f xB  eFr hB) (cwV 1 hts gX0_mostOfAllRows_X3_isAbove rfl rfl rfl (by decide +kernel) ⟨Nat.le_of_ble_eq_true rfl, Nat.le_of_ble_eq_true rfl⟩) (hz_cons hP (i := 1) rfl (hz_cons hP (i := 2) rfl (hz_cons hP (i := 7) rfl hz_nil))) hK 0 4 rfl rfl rfl rfl hl.1 rfl (Nat.le_of_ble_eq_true rfl) dX0_mostOfAllRows_46 ⟨Nat.zero_le _, Nat.zero_le _⟩ ?_
              refine hz_if_ne (tgt := 64) hx hb dX0_mostOfAllRows_49 (by decide) (by omega) (fun c3 => ?_) (fun c3 => ?_)
              · refine lv_aload_n hx hb dX0_mostOfAllRows_64 rfl (lv_at hl 0 rfl) ?_
                refine hz_callVv (ws := (sbW s0 s1 s2 s3 s4 s5 s6 b0 y xS xT mi f xTe xAw ro2 xBe xB)) (wc := (seW s0 s1 s2 s3 s4 s5 s6 y xS xT mi f xTe xAw ro2 xBe)) (As := []) (rest := []) ⟨hx, hb, hml, hown, hts⟩ (c_X0_turnRow l G s0 s1 s2 s3 s4 s5 s6 y _ xS xT mi f xTe xAw ro2 xBe ba n2 (by omega) (by omega) haw h_R35 h_F35) (cwV 0 hts gX0_mostOfAllRows_X0_turnRow rfl rfl rfl (by decide +kernel) ⟨Nat.le_of_ble_eq_true rfl, Nat.le_of_ble_eq_true rfl⟩) hP hK hD hS hA [0, 1, 2, 3, 4, 5, 6] [0, 1, 2, 3] rfl rfl rfl 0 1 rfl rfl rfl rfl hl.1 rfl (Nat.le_of_ble_eq_true rfl) dX0_mostOfAllRows_65 ⟨Nat.zero_le _, Nat.zero_le _⟩ (fun _ => rfl) (fun u H locs hu hP hD hS => ?_)
                obtain ⟨n_4, n_5, n_6⟩ := u
                have p7 : ∀ q : Int, 0 ≤ q → q ≤ 5 → n_4 q = fS ba xTe xAw n_6 xS q := hu.1
                have p8 : ∀ j : Int, 0 ≤ j → j < xS → n_6 j = rwZ xS (n2 + 1) j := hu.2
                have hP : va_P G vwCl (sbW s0 s1 s2 s3 s4 s5 s6 b0 y xS xT n_5 n_4 xTe xAw n_6 xBe xB) H := hP
                have hD : va_D A (sbW s0 s1 s2 s3 s4 s5 s6 b0 y xS xT n_5 n_4 xTe xAw n_6 xBe xB) := hD
                refine hz_iinc (v := (n2 + 1)) (lv' := [(4, zi (n2 + 1)), (0, .ref s0), (1, .ref b0), (2, zi all), (3, zi mo)]) hx hb dX0_mostOfAllRows_68 hl (k := 4) rfl (by omega) (by decide) rfl (fun ls hl => ?_)
                refine lv_goto (tgt := 35) hx hb dX0_mostOfAllRows_71 (by decide) ?_
                exact ih35 mo (n2 + 1) n_4 n_5 n_6 _ _ (by omega) (by
          first
            | (rw [bsF_n h_k35.1 (fun z => by rw [← etr, ← eal, ← h_m35] at z; omega), ← h_m35]; first | done | omega)
            | (by_cases q9 : mo < alZ f
               · rw [bsF_y h_k35.1 ⟨by rw [← etr]; omega, by rw [← eal, ← h_m35]; exact q9⟩, ← eal]; first | done | omega
               · rw [bsF_n h_k35.1 (fun z => by rw [← etr, ← eal, ← h_m35] at z; omega), ← h_m35]; first | done | omega)) (by omega) (p8) (p7) (by omega) hP hD hS ls (lv_sub hl [1, 2, 3, 4, 0] rfl)
              · refine lv_iload_n hx hb dX0_mostOfAllRows_52 rfl (lv_at hl 3 rfl) ?_
                refine lv_aload_n hx hb dX0_mostOfAllRows_53 rfl (lv_at hl 0 rfl) ?_
                refine va_get (D := G) (ci := 1) (v := .ref s1) (C := RX0) (T := TX0) (N := 7) hx hb hts hinwsX00 hown hK hP 0 rfl rfl 0 (by decide) (hts (.fieldLink RX0 12 "Heliokeep$AimSearch" "light" "LHeliokeep$Light;") (List.mem_of_getElem? (i := 3) rfl)) (fun _ h9 => h9) rfl dX0_mostOfAllRows_54 ?_
                refine hz_callRi (As := []) (rest := [zi mo]) ⟨hx, hb, hml, hown, hts⟩ (c_X3_onPanels l G s1 s2 y mi f  ) (cwV 0 hts gX0_mostOfAllRows_X3_onPanels rfl rfl rfl (by decide +kernel) ⟨Nat.le_of_ble_eq_true rfl, Nat.le_of_ble_eq_true rfl⟩) (hz_cons hP (i := 1) rfl (hz_cons hP (i := 2) rfl hz_nil)) hK 0 4 rfl rfl rfl rfl hl.1 rfl (Nat.le_of_ble_eq_true rfl) dX0_mostOfAllRows_57 ⟨Nat.zero_le _, Nat.zero_le _⟩ ?_
                refine hz_mmax hx hb (hml.trans hl.1.symm) hown (hts (.methodLink RX0 62 Lib.Math.max.name) (List.mem_of_getElem? (i := 4) rfl)) (hts (.static Lib.Math.max.name) (List.mem_of_getElem? (i := 5) rfl)) (hts (.initialized "java/lang/Math") (List.mem_of_getElem? (i := 6) rfl)) (hts (.code Lib.Math.max.name Lib.Math.max.code 2 (some .int)) (List.mem_of_getElem? (i := 7) rfl)) (Nat.le_of_ble_eq_true rfl) (Nat.le_of_ble_eq_true rfl) (Nat.le_of_ble_eq_true rfl) (Nat.le_of_ble_eq_true rfl) (by omega) dX0_mostOfAllRows_60 ?_
                refine hz_topi (fun z9 e10 => ?_)
                refine lv_istore_n (lv' := [(3, zi z9), (0, .ref s0), (1, .ref b0), (2, zi all), (4, zi n2)]) hx hb dX0_mostOfAllRows_63 rfl hl (by decide) rfl (fun ls hl => ?_)
                refine lv_aload_n hx hb dX0_mostOfAllRows_64 rfl (lv_at hl 1 rfl) ?_
                refine hz_callVv (ws := (sbW s0 s1 s2 s3 s4 s5 s6 b0 y xS xT mi f xTe xAw ro2 xBe xB)) (wc := (seW s0 s1 s2 s3 s4 s5 s6 y xS xT mi f xTe xAw ro2 xBe)) (As := []) (rest := []) ⟨hx, hb, hml, hown, hts⟩ (c_X0_turnRow l G s0 s1 s2 s3 s4 s5 s6 y _ xS xT mi f xTe xAw ro2 xBe ba n2 (by omega) (by omega) haw h_R35 h_F35) (cwV 0 hts gX0_mostOfAllRows_X0_turnRow rfl rfl rfl (by decide +kernel) ⟨Nat.le_of_ble_eq_true rfl, Nat.le_of_ble_eq_true rfl⟩) hP hK hD hS hA [0, 1, 2, 3, 4, 5, 6] [0, 1, 2, 3] rfl rfl rfl 0 1 rfl rfl rfl rfl hl.1 rfl (Nat.le_of_ble_eq_true rfl) dX0_mostOfAllRows_65 ⟨Nat.zero_le _, Nat.zero_le _⟩ (fun _ => rfl) (fun u H locs hu hP hD hS => ?_)
                obtain ⟨n_11, n_12, n_13⟩ := u
                have p14 : ∀ q : Int, 0 ≤ q → q ≤ 5 → n_11 q = fS ba xTe xAw n_13 xS q := hu.1
                have p15 : ∀ j : Int, 0 ≤ j → j < xS → n_13 j = rwZ xS (n2 + 1) j := hu.2
                have hP : va_P G vwCl (sbW s0 s1 s2 s3 s4 s5 s6 b0 y xS xT n_12 n_11 xTe xAw n_13 xBe xB) H := hP
                have hD : va_D A (sbW s0 s1 s2 s3 s4 s5 s6 b0 y xS xT n_12 n_11 xTe xAw n_13 xBe xB) := hD
                refine hz_iinc (v := (n2 + 1)) (lv' := [(4, zi (n2 + 1)), (3, zi z9), (0, .ref s0), (1, .ref b0), (2, zi all)]) hx hb dX0_mostOfAllRows_68 hl (k := 4) rfl (by omega) (by decide) rfl (fun ls hl => ?_)
                refine lv_goto (tgt := 35) hx hb dX0_mostOfAllRows_71 (by decide) ?_
                exact ih35 z9 (n2 + 1) n_11 n_12 n_13 _ _ (by omega) (by
          first
            | (rw [bsF_n h_k35.1 (fun z => by rw [← etr, ← eal, ← h_m35] at z; omega), ← h_m35]; first | done | omega)
            | (by_cases q9 : mo < alZ f
               · rw [bsF_y h_k35.1 ⟨by rw [← etr]; omega, by rw [← eal, ← h_m35]; exact q9⟩, ← eal]; first | done | omega
               · rw [bsF_n h_k35.1 (fun z => by rw [← etr, ← eal, ← h_m35] at z; omega), ← h_m35]; first | done | omega)) (by omega) (p15) (p14) (by omega) hP hD hS ls (lv_sub hl [2, 3, 4, 1, 0] rfl)
        exact L35 _ (-1) 0 xF xM ro _ _ (by omega) (rfl) (by omega) (fun j a b => by rw [h_h4 j a (by omega), rwZ_0]) (fun q a b => by rw [hF q a b, fS_m1 (fun j a b => h_h4 j a (by omega))]) (Nat.lt_succ_self _) hP hD hS ls (lv_sub hl [2, 3, 4, 1, 0] rfl)
      · refine lv_iload_n hx hb dX0_mostOfAllRows_12 rfl (lv_at hl 2 rfl) ?_
        refine hz_bipush hx hb dX0_mostOfAllRows_13 (by decide) ?_
        refine hz_imul hx hb dX0_mostOfAllRows_15 ?_
        refine lv_istore_n (lv' := [(2, zi (all * 7)), (0, .ref s0), (1, .ref b0), (3, zi k)]) hx hb dX0_mostOfAllRows_16 rfl hl (by decide) rfl (fun ls hl => ?_)
        refine lv_aload_n hx hb dX0_mostOfAllRows_17 rfl (lv_at hl 1 rfl) ?_
        refine va_get (D := G) (ci := 1) (v := .ref s5) (C := RX0) (T := TX0) (N := 7) hx hb hts hinwsX00 hown hK hP 0 rfl rfl 3 (by decide) (hts (.fieldLink RX0 25 "Heliokeep$AimSearch" "row" "[I") (List.mem_of_getElem? (i := 2) rfl)) (fun _ h9 => h9) rfl dX0_mostOfAllRows_18 ?_
        refine lv_iload_n hx hb dX0_mostOfAllRows_21 rfl (lv_at hl 3 rfl) ?_
        refine hz_iconst hx hb dX0_mostOfAllRows_22 ?_
        refine hz_iast (f := ro) hx hb hK hP hD hS 5 0 rfl rfl (Nat.le_of_ble_eq_true rfl) (by omega) dX0_mostOfAllRows_23 (fun H locs hP hD hS => ?_)
        have hP : va_P G vwCl (sbW s0 s1 s2 s3 s4 s5 s6 b0 y xS xT xM xF xTe xAw (upZ ro k (-1)) xBe xB) H := hP
        have hD : va_D A (sbW s0 s1 s2 s3 s4 s5 s6 b0 y xS xT xM xF xTe xAw (upZ ro k (-1)) xBe xB) := hD
        refine hz_iinc (v := (k + 1)) (lv' := [(3, zi (k + 1)), (2, zi (all * 7)), (0, .ref s0), (1, .ref b0)]) hx hb dX0_mostOfAllRows_24 hl (k := 3) rfl (by omega) (by decide) rfl (fun ls hl => ?_)
        refine lv_goto (tgt := 4) hx hb dX0_mostOfAllRows_27 (by decide) ?_
        exact ih4 (all * 7) (k + 1) (upZ ro k (-1)) _ _ (by omega) (by rw [pow7_s (by omega), ← h_a4]) (by rw [h_a4, ← pow7_s (by omega)]; exact pow7 (by omega)) (by
          intro j a b
          by_cases e : j = k
          · rw [upZ_s e]
          · rw [upZ_n e]; exact h_h4 j a (by omega)) (by omega) hP hD hS ls (lv_sub hl [2, 3, 1, 0] rfl)
  exact L4 _ 1 0 xRo _ _ (by omega) (rfl) (by omega) (fun j a b => absurd b (by omega)) (Nat.lt_succ_self _) hP hD hS ls (lv_sub hl [2, 3, 1, 0] rfl)
