/-! the search: parts of rows -/
theorem fS_s {base te aw a : Int → Int} {d q : Int} (h : 0 ≤ d) : fS base te aw a (d + 1) q = fS base te aw a d q + gS te aw a q d := by
  unfold fS
  rw [smZ_s h]
  omega
theorem fS_row {base te aw a b : Int → Int} {d : Int} (hd : 0 ≤ d) (h : ∀ j : Int, 0 ≤ j → j < d → a j = b j) (q : Int) : fS base te aw a d q = fS base te aw b d q := by
  unfold fS
  rw [smZ_cong (g := gS te aw b q) (k := d) (fun j a0 b0 => by unfold gS; rw [h j a0 b0]) d.toNat (by omega)]
theorem raZ_nn {pl r q : Int} (h : 0 ≤ r) : 0 ≤ raZ pl r q ∧ raZ pl r q ≤ 10 * r := by unfold raZ; omega
theorem raZ_neg (pl r q : Int) : raZ pl (-1 * r) q = -raZ pl r q := by unfold raZ; omega
theorem raZ_one (pl r q : Int) : raZ pl (1 * r) q = raZ pl r q := by rw [Int.one_mul]
theorem gS_nn {te aw a : Int → Int} {q j : Int} (h : 0 ≤ te j) : 0 ≤ gS te aw a q j ∧ gS te aw a q j ≤ 10 * te j := by
  have := raZ_nn (pl := a j + aw j) (r := te j) (q := q) h
  unfold gS
  split <;> omega
theorem fS_mono {base te aw a : Int → Int} {m : Int} (ht : ∀ j : Int, 0 ≤ j → j < m → 0 ≤ te j) (q : Int) : ∀ (n : Nat) (d : Int), 0 ≤ d → d + n ≤ m → fS base te aw a d q ≤ fS base te aw a (d + n) q
  | 0, d, _, _ => by rw [show d + ((0 : Nat) : Int) = d from by omega]; exact Int.le_refl _
  | n + 1, d, h0, h1 => by
    have h2 := fS_mono (base := base) (aw := aw) (a := a) ht q n d h0 (by omega)
    have h3 := fS_s (base := base) (te := te) (aw := aw) (a := a) (d := d + n) (q := q) (by omega)
    have h4 := gS_nn (te := te) (aw := aw) (a := a) (q := q) (ht (d + n) (by omega) (by omega))
    rw [show d + ((n + 1 : Nat) : Int) = d + n + 1 from by omega, h3]
    omega
theorem fS_le {base te aw a : Int → Int} {d m : Int} (ht : ∀ j : Int, 0 ≤ j → j < m → 0 ≤ te j) (h0 : 0 ≤ d) (h : d ≤ m) (q : Int) : fS base te aw a d q ≤ fS base te aw a m q := by
  have := fS_mono (base := base) (aw := aw) (a := a) ht q (m - d).toNat d h0 (by omega)
  rwa [show d + ((m - d).toNat : Int) = m from by omega] at this
theorem al6 (f : Int → Int) : alZ f = f 0 + f 1 + f 2 + f 3 + f 4 + f 5 := by
  show (0 : Int) + f ((0 : Nat) : Int) + f ((1 : Nat) : Int) + f ((2 : Nat) : Int) + f ((3 : Nat) : Int) + f ((4 : Nat) : Int) + f ((5 : Nat) : Int) = _
  rw [Int.zero_add]
  rfl
theorem raZ_sum (pl r : Int) : raZ pl r 0 + raZ pl r 1 + raZ pl r 2 + raZ pl r 3 + raZ pl r 4 + raZ pl r 5 = 10 * r - rmZ pl r := by
  rcases (show pl < -1 ∨ 6 < pl ∨ pl = -1 ∨ pl = 0 ∨ pl = 1 ∨ pl = 2 ∨ pl = 3 ∨ pl = 4 ∨ pl = 5 ∨ pl = 6 by omega) with h | h | rfl | rfl | rfl | rfl | rfl | rfl | rfl | rfl
  · have e : ∀ q : Int, 0 ≤ q → raZ pl r q = 0 := fun q hq => by unfold raZ; omega
    rw [e 0 (by omega), e 1 (by omega), e 2 (by omega), e 3 (by omega), e 4 (by omega), e 5 (by omega)]
    unfold rmZ
    omega
  · have e : ∀ q : Int, q ≤ 5 → raZ pl r q = 0 := fun q hq => by unfold raZ; omega
    rw [e 0 (by omega), e 1 (by omega), e 2 (by omega), e 3 (by omega), e 4 (by omega), e 5 (by omega)]
    unfold rmZ
    omega
  all_goals (simp [raZ, rmZ]; try omega)
theorem rmZ_nn {pl r : Int} (h : 0 ≤ r) : 0 ≤ rmZ pl r := by unfold rmZ; omega
theorem al_s {base te aw a : Int → Int} {d : Int} (h : 0 ≤ d) (ht : 0 ≤ te d) : alZ (fS base te aw a (d + 1)) ≤ alZ (fS base te aw a d) + 10 * te d := by
  rw [al6, al6, fS_s h, fS_s h, fS_s h, fS_s h, fS_s h, fS_s h]
  have h1 := raZ_sum (a d + aw d) (te d)
  have h2 := rmZ_nn (pl := a d + aw d) ht
  by_cases e : a d = -1
  · have e2 : ∀ q : Int, gS te aw a q d = 0 := fun q => by unfold gS; exact if_pos e
    rw [e2, e2, e2, e2, e2, e2]
    omega
  · have e2 : ∀ q : Int, gS te aw a q d = raZ (a d + aw d) (te d) q := fun q => by unfold gS; exact if_neg e
    rw [e2, e2, e2, e2, e2, e2]
    omega
theorem al_b {base te aw a : Int → Int} {m : Int} (ht : ∀ j : Int, 0 ≤ j → j < m → 0 ≤ te j) : ∀ (n : Nat) (d : Int), 0 ≤ d → d + n ≤ m → alZ (fS base te aw a (d + n)) ≤ alZ (fS base te aw a d) + 10 * (smZ te (d + n).toNat - smZ te d.toNat)
  | 0, d, _, _ => by rw [show d + ((0 : Nat) : Int) = d from by omega]; omega
  | n + 1, d, h0, h1 => by
    have h2 := al_b (base := base) (aw := aw) (a := a) ht n d h0 (by omega)
    have h3 := al_s (base := base) (te := te) (aw := aw) (a := a) (d := d + n) (by omega) (ht (d + n) (by omega) (by omega))
    have h4 := smZ_s (f := te) (k := d + n) (by omega)
    rw [show d + ((n + 1 : Nat) : Int) = d + n + 1 from by omega, h4]
    omega
theorem al_le {base te aw a : Int → Int} {d m : Int} (ht : ∀ j : Int, 0 ≤ j → j < m → 0 ≤ te j) (h0 : 0 ≤ d) (h : d ≤ m) : alZ (fS base te aw a m) ≤ alZ (fS base te aw a d) + 10 * (smZ te m.toNat - smZ te d.toNat) := by
  have := al_b (base := base) (aw := aw) (a := a) ht (m - d).toNat d h0 (by omega)
  rwa [show d + ((m - d).toNat : Int) = m from by omega] at this
theorem fS_rng {base te aw a : Int → Int} {m q : Int} (hb : 0 ≤ base q ∧ base q ≤ 11400) (ht : ∀ j : Int, 0 ≤ j → j < m → 0 ≤ te j ∧ te j ≤ 95) (hm : 0 ≤ m ∧ m ≤ 4) : 0 ≤ fS base te aw a m q ∧ fS base te aw a m q ≤ 15200 := by
  have h := smZ_rng (f := gS te aw a q) (b := 950) (k := m) (fun j h0 h1 => by
    have := ht j h0 h1
    have := gS_nn (te := te) (aw := aw) (a := a) (q := q) this.1
    omega) (by omega) m.toNat (by omega)
  unfold fS
  omega
theorem al_rng {base te aw a : Int → Int} {m : Int} (hb : ∀ q : Int, 0 ≤ q → q ≤ 5 → 0 ≤ base q ∧ base q ≤ 11400) (ht : ∀ j : Int, 0 ≤ j → j < m → 0 ≤ te j ∧ te j ≤ 95) (hm : 0 ≤ m ∧ m ≤ 4) : 0 ≤ alZ (fS base te aw a m) ∧ alZ (fS base te aw a m) ≤ 91200 := by
  have h := fun q a0 b0 => fS_rng (aw := aw) (a := a) (q := q) (hb q a0 b0) ht hm
  have h0 := h 0 (by omega) (by omega)
  have h1 := h 1 (by omega) (by omega)
  have h2 := h 2 (by omega) (by omega)
  have h3 := h 3 (by omega) (by omega)
  have h4 := h 4 (by omega) (by omega)
  have h5 := h 5 (by omega) (by omega)
  rw [al6]
  omega
theorem bsF_skip {base te aw bound : Int → Int} {m R0 : Int} (h0 : 0 ≤ R0) : ∀ (n : Nat), (∀ r : Int, R0 ≤ r → r < R0 + n → ¬ (trN (fS base te aw (rwZ m r) m) bound 6 = 0 ∧ (bsF base te aw bound m R0.toNat).2 < alZ (fS base te aw (rwZ m r) m))) → bsF base te aw bound m (R0 + n).toNat = bsF base te aw bound m R0.toNat
  | 0, _ => by rw [show R0 + ((0 : Nat) : Int) = R0 from by omega]
  | n + 1, h => by
    have ih := bsF_skip h0 n (fun r a b => h r a (by omega))
    rw [show R0 + ((n + 1 : Nat) : Int) = R0 + n + 1 from by omega, bsF_n (by omega) (by rw [ih]; exact h (R0 + n) (by omega) (by omega)), ih]
theorem pow7p (n : Nat) : (0 : Int) < 7 ^ n := Int.pow_pos (by omega)
theorem rw_pre {m d P r j : Int} (hj : 0 ≤ j) (hjd : j < d) (hd : d ≤ m) (h1 : P * 7 ^ (m - d).toNat ≤ r) (h2 : r < (P + 1) * 7 ^ (m - d).toNat) : rwZ m r j = rwZ d P j := by
  have hp := pow7p (m - d).toNat
  have e1 : r / 7 ^ (m - d).toNat = P := by
    have a1 : P ≤ r / 7 ^ (m - d).toNat := Int.le_ediv_of_mul_le hp h1
    have a2 : r / 7 ^ (m - d).toNat < P + 1 := Int.ediv_lt_of_lt_mul hp h2
    omega
  unfold rwZ
  rw [show (m - 1 - j).toNat = (m - d).toNat + (d - 1 - j).toNat from by omega, Int.pow_add, ← Int.ediv_ediv_of_nonneg (Int.le_of_lt hp), e1]
/-- what is known of the best row behind the rows below R -/
def BSH (base te aw bound : Int → Int) (m R T : Int) (be : Int → Int) : Prop := T = (bsF base te aw bound m R.toNat).2 ∧ (¬ T = -1 → ∀ j : Int, 0 ≤ j → j < m → be j = rwZ m (bsF base te aw bound m R.toNat).1 j)
theorem BSH_skip {base te aw bound be : Int → Int} {m R R2 T : Int} (hR : 0 ≤ R) (hR2 : R ≤ R2) (h : BSH base te aw bound m R T be) (hn : ∀ r : Int, R ≤ r → r < R2 → ¬ (trN (fS base te aw (rwZ m r) m) bound 6 = 0 ∧ T < alZ (fS base te aw (rwZ m r) m))) : BSH base te aw bound m R2 T be := by
  have e := bsF_skip (base := base) (te := te) (aw := aw) (bound := bound) (m := m) hR (R2 - R).toNat (fun r a b => by rw [← h.1]; exact hn r a (by omega))
  rw [show R + ((R2 - R).toNat : Int) = R2 from by omega] at e
  unfold BSH
  rw [e]
  exact h
theorem BSH_y {base te aw bound be2 row : Int → Int} {m R : Int} (hR : 0 ≤ R) (hr : ∀ j : Int, 0 ≤ j → j < m → row j = rwZ m R j) (h : trN (fS base te aw (rwZ m R) m) bound 6 = 0 ∧ (bsF base te aw bound m R.toNat).2 < alZ (fS base te aw (rwZ m R) m)) (hb : ∀ j : Int, 0 ≤ j → j < m → be2 j = row j) : BSH base te aw bound m (R + 1) (alZ (fS base te aw (rwZ m R) m)) be2 := by
  unfold BSH
  rw [bsF_y hR h]
  exact ⟨rfl, fun _ j a b => (hb j a b).trans (hr j a b)⟩
theorem trN_mono {f g b : Int → Int} {k : Int} (h : ∀ q : Int, 0 ≤ q → q < k → f q ≤ g q) (ht : trN f b k = 1) : trN g b k = 1 := by
  obtain ⟨j, a, c, d⟩ := isZ_y ht
  exact isZ_1 ⟨j, a, c, by have := h j a c; omega⟩
theorem pow7_e {d m : Int} (h0 : d < m) : (7 : Int) ^ (m - d).toNat = 7 * 7 ^ (m - (d + 1)).toNat := by
  rw [show (m - d).toNat = (m - (d + 1)).toNat + 1 from by omega, Int.pow_succ, Int.mul_comm]
theorem rw_ext {d P a : Int} {row : Int → Int} (hd : 0 ≤ d) (ha : -1 ≤ a ∧ a ≤ 5) (h : ∀ j : Int, 0 ≤ j → j < d → row j = rwZ d P j) : ∀ j : Int, 0 ≤ j → j < d + 1 → upZ row d a j = rwZ (d + 1) (P * 7 + (a + 1)) j := fun j a0 b0 => by
  have e1 : (d + 1 - d).toNat = 1 := by omega
  by_cases e : j = d
  · rw [upZ_s e, e]
    unfold rwZ
    rw [show (d + 1 - 1 - d).toNat = 0 from by omega]
    show a = (P * 7 + (a + 1)) / 1 % 7 - 1
    rw [Int.ediv_one]
    omega
  · rw [upZ_n e, h j a0 (by omega)]
    exact (rw_pre (m := d + 1) (d := d) a0 (by omega) (by omega) (by rw [e1]; omega) (by rw [e1]; omega)).symm
theorem fS_ext {base te aw row f g : Int → Int} {d a : Int} (hd : 0 ≤ d) (hF : ∀ q : Int, 0 ≤ q → q ≤ 5 → f q = fS base te aw row d q) (hg : ∀ q : Int, 0 ≤ q → q ≤ 5 → g q = f q + (if a = -1 then 0 else raZ (a + aw d) (1 * te d) q)) : ∀ q : Int, 0 ≤ q → q ≤ 5 → g q = fS base te aw (upZ row d a) (d + 1) q := fun q a0 b0 => by
  rw [hg q a0 b0, hF q a0 b0, fS_s hd, fS_row (b := row) hd (fun j h0 h1 => upZ_n (by omega)) q]
  unfold gS
  rw [upZ_s rfl, raZ_one]
theorem sk_above {base te aw bo row f be : Int → Int} {m d P T : Int} (hd : 0 ≤ d ∧ d ≤ m) (hP : 0 ≤ P) (ht : ∀ j : Int, 0 ≤ j → j < m → 0 ≤ te j ∧ te j ≤ 95) (hF : ∀ q : Int, 0 ≤ q → q ≤ 5 → f q = fS base te aw row d q) (hR : ∀ j : Int, 0 ≤ j → j < d → row j = rwZ d P j) (h : trN f bo 6 = 1) (hT : BSH base te aw bo m (P * 7 ^ (m - d).toNat) T be) : BSH base te aw bo m ((P + 1) * 7 ^ (m - d).toNat) T be := by
  have hp := pow7p (m - d).toNat
  have h0 : 0 ≤ P * 7 ^ (m - d).toNat := Int.mul_nonneg hP (Int.le_of_lt hp)
  refine BSH_skip h0 (by rw [Int.add_mul]; omega) hT (fun r a b q => ?_)
  have h1 : trN (fS base te aw (rwZ m r) m) bo 6 = 1 := by
    refine trN_mono (fun q2 a2 b2 => ?_) h
    rw [hF q2 a2 (by omega), fS_row (b := rwZ m r) hd.1 (fun j c e => by rw [hR j c e]; exact (rw_pre c e hd.2 a b).symm) q2]
    exact fS_le (fun j c e => (ht j c e).1) hd.1 hd.2 q2
  omega
theorem sk_bound {base te aw bo row f be : Int → Int} {m d P T : Int} (hd : 0 ≤ d ∧ d ≤ m) (hP : 0 ≤ P) (ht : ∀ j : Int, 0 ≤ j → j < m → 0 ≤ te j ∧ te j ≤ 95) (hF : ∀ q : Int, 0 ≤ q → q ≤ 5 → f q = fS base te aw row d q) (hR : ∀ j : Int, 0 ≤ j → j < d → row j = rwZ d P j) (h : alZ f + 10 * (smZ te m.toNat - smZ te d.toNat) ≤ T) (hT : BSH base te aw bo m (P * 7 ^ (m - d).toNat) T be) : BSH base te aw bo m ((P + 1) * 7 ^ (m - d).toNat) T be := by
  have hp := pow7p (m - d).toNat
  have h0 : 0 ≤ P * 7 ^ (m - d).toNat := Int.mul_nonneg hP (Int.le_of_lt hp)
  refine BSH_skip h0 (by rw [Int.add_mul]; omega) hT (fun r a b q => ?_)
  have h1 := al_le (base := base) (te := te) (aw := aw) (a := rwZ m r) (fun j c e => (ht j c e).1) hd.1 hd.2
  have h2 : alZ f = alZ (fS base te aw (rwZ m r) d) := alZ_cong (fun q2 a2 b2 => by
    rw [hF q2 a2 b2, fS_row (b := rwZ m r) hd.1 (fun j c e => by rw [hR j c e]; exact (rw_pre c e hd.2 a b).symm) q2])
  omega
theorem sk_leaf {base te aw bo row f be be2 : Int → Int} {m d P T : Int} (hm : d = m) (h0 : 0 ≤ d) (hP : 0 ≤ P) (hF : ∀ q : Int, 0 ≤ q → q ≤ 5 → f q = fS base te aw row d q) (hR : ∀ j : Int, 0 ≤ j → j < d → row j = rwZ d P j) (hl : trN f bo 6 = 0) (h : ¬ alZ f + 10 * (smZ te m.toNat - smZ te d.toNat) ≤ T) (hT : BSH base te aw bo m (P * 7 ^ (m - d).toNat) T be) (hb : ∀ j : Int, 0 ≤ j → j < m → be2 j = row j) : BSH base te aw bo m ((P + 1) * 7 ^ (m - d).toNat) (alZ f) be2 := by
  subst hm
  have e1 : (7 : Int) ^ (d - d).toNat = 1 := by rw [show (d - d).toNat = 0 from by omega]; rfl
  rw [e1, Int.mul_one] at hT ⊢
  have e2 : ∀ q : Int, 0 ≤ q → q ≤ 5 → f q = fS base te aw (rwZ d P) d q := fun q a b => by rw [hF q a b]; exact fS_row h0 hR q
  rw [alZ_cong e2]
  refine BSH_y hP hR ⟨by rw [← trN_cong e2]; exact hl, ?_⟩ hb
  rw [← hT.1, ← alZ_cong e2]
  omega
