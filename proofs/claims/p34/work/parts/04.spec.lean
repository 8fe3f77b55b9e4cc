theorem hz_at {D : va_G} {w : va_W} {H : Heap} {t : State} (hP : va_P D vwCl w H) (ht : t.heap = H) : va_P D vwCl w t.heap := by rw [ht]; exact hP
/-! the plant's numbers as functions of whole numbers: what class and reference both compute -/
theorem tN_s {k : Int} (h : 0 ≤ k) : (k + 1).toNat = k.toNat + 1 := by omega
theorem tN_c {k : Int} (h : 0 ≤ k) : ((k.toNat : Nat) : Int) = k := Int.toNat_of_nonneg h
def hdZ (v a b : Int) : Int := if v < a then a else if b < v then b else v
theorem hdZ_rng {v a b : Int} (h : a ≤ b) : a ≤ hdZ v a b ∧ hdZ v a b ≤ b := by unfold hdZ; omega
def strZ (t : Int) : Int := if t % 24 = 6 ∨ t % 24 = 17 then 1 else if t % 24 = 7 ∨ t % 24 = 16 then 3 else if t % 24 = 8 ∨ t % 24 = 15 then 5 else if t % 24 = 9 ∨ t % 24 = 14 then 7 else if t % 24 = 10 ∨ t % 24 = 13 then 9 else if t % 24 = 11 ∨ t % 24 = 12 then 10 else 0
theorem strZ_rng (t : Int) : 0 ≤ strZ t ∧ strZ t ≤ 10 := by unfold strZ; omega
def dstZ (c : Int) : Int := c / 8 + 1 + (if c % 8 - 3 < 0 then -(c % 8 - 3) else c % 8 - 3)
theorem dstZ_rng {c : Int} (h : 0 ≤ c ∧ c ≤ 63) : 1 ≤ dstZ c ∧ dstZ c ≤ 12 := by unfold dstZ; omega
/-- 1 or 0: whether a thing is so -/
noncomputable def isZ (P : Prop) : Int := @ite Int P (Classical.propDecidable P) 1 0
theorem isZ_1 {P : Prop} (h : P) : isZ P = 1 := by unfold isZ; exact if_pos h
theorem isZ_0 {P : Prop} (h : ¬ P) : isZ P = 0 := by unfold isZ; exact if_neg h
theorem isZ_01 (P : Prop) : isZ P = 0 ∨ isZ P = 1 := by
  by_cases h : P
  · exact Or.inr (isZ_1 h)
  · exact Or.inl (isZ_0 h)
theorem isZ_y {P : Prop} (h : isZ P = 1) : P := Classical.byContradiction fun q => by rw [isZ_0 q] at h; omega
theorem isZ_n {P : Prop} (h : isZ P = 0) : ¬ P := fun q => by rw [isZ_1 q] at h; omega
theorem isZ_c {P P' : Prop} (h : P ↔ P') : isZ P = isZ P' := by rw [propext h]
/-- a mirror stands in a cell -/
noncomputable def ocZ (n : Int) (cell : Int → Int) (c : Int) : Int := isZ (∃ k : Int, 0 ≤ k ∧ k < n ∧ cell k = c)
def MRK (cell : Int → Int) (c k r : Int) : Prop := (r = -1 ∧ ∀ j : Int, 0 ≤ j → j < k → ¬ cell j = c) ∨ (0 ≤ r ∧ r < k ∧ cell r = c)
theorem mrk_0 {cell : Int → Int} {c : Int} : MRK cell c 0 (-1) := Or.inl ⟨rfl, fun j h1 h2 => by omega⟩
theorem mrk_1 {cell : Int → Int} {c k : Int} (hk : 0 ≤ k) (h : cell k = c) : MRK cell c (k + 1) k := Or.inr ⟨hk, by omega, h⟩
theorem mrk_2 {cell : Int → Int} {c k r : Int} (h0 : MRK cell c k r) (h : ¬ cell k = c) : MRK cell c (k + 1) r := by
  rcases h0 with ⟨h1, h2⟩ | ⟨h1, h2, h3⟩
  · refine Or.inl ⟨h1, fun j a b => ?_⟩
    by_cases e : j = k
    · rw [e]; exact h
    · exact h2 j a (by omega)
  · exact Or.inr ⟨h1, by omega, h3⟩
theorem mrk_e {cell : Int → Int} {c k r n : Int} (h0 : MRK cell c k r) (e : k = n) : (r = -1 ∧ ocZ n cell c = 0) ∨ (0 ≤ r ∧ r < n ∧ ocZ n cell c = 1) := by
  subst e
  rcases h0 with ⟨h1, h2⟩ | ⟨h1, h2, h3⟩
  · exact Or.inl ⟨h1, isZ_0 (fun ⟨j, a, b, d⟩ => h2 j a b d)⟩
  · exact Or.inr ⟨h1, h2, isZ_1 ⟨r, h1, h2, h3⟩⟩
theorem mul_1 {d t b : Int} (hd : -1 ≤ d ∧ d ≤ 1) (ht : 0 ≤ t ∧ t ≤ b) : -b ≤ d * t ∧ d * t ≤ b := by
  rcases (show d = -1 ∨ d = 0 ∨ d = 1 by omega) with rfl | rfl | rfl <;> omega
/-- the clouds below the number k: one covers the cell c behind t ticks -/
def cvP (top lm rows cols down right : Int → Int) (c t j : Int) : Prop := (top j + down j * t ≤ c / 8 ∧ c / 8 ≤ top j + down j * t + rows j - 1) ∧ lm j + right j * t ≤ c % 8 ∧ c % 8 ≤ lm j + right j * t + cols j - 1
noncomputable def cvZ (k : Int) (top lm rows cols down right : Int → Int) (c t : Int) : Int := isZ (∃ j : Int, 0 ≤ j ∧ j < k ∧ cvP top lm rows cols down right c t j)
theorem cvZ_0 {top lm rows cols down right : Int → Int} {c t : Int} : cvZ 0 top lm rows cols down right c t = 0 := isZ_0 (fun ⟨j, a, b, _⟩ => by omega)
theorem cvZ_y {k : Int} {top lm rows cols down right : Int → Int} {c t : Int} (h : cvZ k top lm rows cols down right c t = 1 ∨ cvP top lm rows cols down right c t k) (hk : 0 ≤ k) : cvZ (k + 1) top lm rows cols down right c t = 1 := by
  rcases h with h | h
  · obtain ⟨j, a, b, d⟩ := isZ_y h
    exact isZ_1 ⟨j, a, by omega, d⟩
  · exact isZ_1 ⟨k, hk, by omega, h⟩
theorem cvZ_n {k : Int} {top lm rows cols down right : Int → Int} {c t : Int} (h : cvZ k top lm rows cols down right c t = 0) (h2 : ¬ cvP top lm rows cols down right c t k) : cvZ (k + 1) top lm rows cols down right c t = 0 := by
  refine isZ_0 (fun ⟨j, a, b, d⟩ => ?_)
  by_cases e : j = k
  · exact h2 (e ▸ d)
  · exact isZ_n h ⟨j, a, by omega, d⟩
noncomputable def shZ (n : Int) (cell : Int → Int) (c t : Int) : Int := if strZ t ≤ 3 ∧ ((t % 24 < 12 ∧ c % 8 < 7 ∧ ocZ n cell (c + 1) = 1) ∨ (¬ t % 24 < 12 ∧ 0 < c % 8 ∧ ocZ n cell (c - 1) = 1)) then 1 else 0
noncomputable def pwZ (n cl now haze : Int) (cell dirt top lm rows cols down right : Int → Int) (k t : Int) : Int := if cvZ cl top lm rows cols down right (cell k) t = 1 ∨ shZ n cell (cell k) (now + t) = 1 then 0 else strZ (now + t) * (10 - haze) * (10 - hdZ (dirt k + ((now + t) / 24 - now / 24)) 0 9) * (20 - dstZ (cell k)) / 20
theorem pw_rng {a b c d : Int} (ha : 0 ≤ a ∧ a ≤ 10) (hb : 0 ≤ b ∧ b ≤ 10) (hc : 0 ≤ c ∧ c ≤ 10) (hd : 0 ≤ d ∧ d ≤ 19) : 0 ≤ a * b * c * d ∧ a * b * c * d ≤ 19000 := by
  have h1 : 0 ≤ a * b := Int.mul_nonneg ha.1 hb.1
  have h2 : a * b ≤ 10 * 10 := Int.mul_le_mul ha.2 hb.2 hb.1 (by omega)
  have h3 : 0 ≤ a * b * c := Int.mul_nonneg h1 hc.1
  have h4 : a * b * c ≤ 100 * 10 := Int.mul_le_mul (by omega) hc.2 hc.1 (by omega)
  have h5 : 0 ≤ a * b * c * d := Int.mul_nonneg h3 hd.1
  have h6 : a * b * c * d ≤ 1000 * 19 := Int.mul_le_mul (by omega) hd.2 hd.1 (by omega)
  omega
theorem pwZ_rng {n cl now haze : Int} {cell dirt top lm rows cols down right : Int → Int} {k t : Int} (hh : 0 ≤ haze ∧ haze ≤ 9) (hc : 0 ≤ cell k ∧ cell k ≤ 63) : 0 ≤ pwZ n cl now haze cell dirt top lm rows cols down right k t ∧ pwZ n cl now haze cell dirt top lm rows cols down right k t ≤ 950 := by
  unfold pwZ
  have h1 := pw_rng (strZ_rng (now + t)) (b := 10 - haze) (by omega) (c := 10 - hdZ (dirt k + ((now + t) / 24 - now / 24)) 0 9) (by have := hdZ_rng (v := dirt k + ((now + t) / 24 - now / 24)) (a := 0) (b := 9) (by omega); omega) (d := 20 - dstZ (cell k)) (by have := dstZ_rng hc; omega)
  split <;> omega
/-- sums over the numbers below n -/
def smZ (f : Int → Int) : Nat → Int
  | 0 => 0
  | n + 1 => smZ f n + f n
theorem smZ_s {f : Int → Int} {k : Int} (h : 0 ≤ k) : smZ f (k + 1).toNat = smZ f k.toNat + f k := by
  rw [tN_s h]
  show smZ f k.toNat + f ((k.toNat : Nat) : Int) = _
  rw [tN_c h]
theorem smZ_0 {f : Int → Int} : smZ f (0 : Int).toNat = 0 := rfl
theorem smZ_rng {f : Int → Int} {b : Int} {k : Int} (h : ∀ j : Int, 0 ≤ j → j < k → 0 ≤ f j ∧ f j ≤ b) (hb : 0 ≤ b) : ∀ n : Nat, (n : Int) ≤ k → 0 ≤ smZ f n ∧ smZ f n ≤ n * b
  | 0, _ => ⟨Int.le_refl _, by show (0 : Int) ≤ ((0 : Nat) : Int) * b; omega⟩
  | n + 1, hn => by
    have h1 := smZ_rng h hb n (by omega)
    have h2 := h n (by omega) (by omega)
    show 0 ≤ smZ f n + f n ∧ smZ f n + f n ≤ _
    have h3 : (((n + 1 : Nat) : Int)) * b = (n : Int) * b + b := by
      rw [Int.natCast_add, Int.add_mul]
      omega
    omega
theorem smZ_cong {f g : Int → Int} {k : Int} (h : ∀ j : Int, 0 ≤ j → j < k → f j = g j) : ∀ n : Nat, (n : Int) ≤ k → smZ f n = smZ g n
  | 0, _ => rfl
  | n + 1, hn => by
    show smZ f n + f n = smZ g n + g n
    rw [smZ_cong h n (by omega), h n (by omega) (by omega)]
/-- what the mirror k gives to the panel p; 'other' hits a place that is bb more -/
def plZ (aim err cor : Int → Int) (other bb k : Int) : Int := aim k + err k - cor k + (if k = other then bb else 0)
def raZ (pl r p : Int) : Int := (if p = pl then 6 * r else 0) + (if p = pl - 1 then 2 * r else 0) + (if p = pl + 1 then 2 * r else 0)
def rmZ (pl r : Int) : Int := (if 0 ≤ pl ∧ pl ≤ 5 then 0 else 6 * r) + (if 0 ≤ pl - 1 ∧ pl - 1 ≤ 5 then 0 else 2 * r) + (if 0 ≤ pl + 1 ∧ pl + 1 ≤ 5 then 0 else 2 * r)
def ctZ (aim err cor rays : Int → Int) (other bb p k : Int) : Int := if aim k = -1 then 0 else raZ (plZ aim err cor other bb k) (rays k) p
def mtZ (aim err cor rays : Int → Int) (other bb k : Int) : Int := if aim k = -1 then 0 else rmZ (plZ aim err cor other bb k) (rays k)
def flZ (n : Int) (aim err cor rays : Int → Int) (other bb p : Int) : Int := smZ (ctZ aim err cor rays other bb p) n.toNat
def msZ (n : Int) (aim err cor rays : Int → Int) (other bb : Int) : Int := smZ (mtZ aim err cor rays other bb) n.toNat
theorem flZ_rng {n : Int} {aim err cor rays : Int → Int} {other bb p : Int} (hn : 0 ≤ n ∧ n ≤ 12) (hr : ∀ k : Int, 0 ≤ k → k < n → 0 ≤ rays k ∧ rays k ≤ 95) : 0 ≤ flZ n aim err cor rays other bb p ∧ flZ n aim err cor rays other bb p ≤ 11400 := by
  have h := smZ_rng (f := ctZ aim err cor rays other bb p) (b := 950) (k := n) (fun j h0 h1 => by have := hr j h0 h1; unfold ctZ raZ; omega) (by omega) n.toNat (by omega)
  unfold flZ
  omega
theorem msZ_rng {n : Int} {aim err cor rays : Int → Int} {other bb : Int} (hn : 0 ≤ n ∧ n ≤ 12) (hr : ∀ k : Int, 0 ≤ k → k < n → 0 ≤ rays k ∧ rays k ≤ 95) : 0 ≤ msZ n aim err cor rays other bb ∧ msZ n aim err cor rays other bb ≤ 11400 := by
  have h := smZ_rng (f := mtZ aim err cor rays other bb) (b := 950) (k := n) (fun j h0 h1 => by have := hr j h0 h1; unfold mtZ rmZ; omega) (by omega) n.toNat (by omega)
  unfold msZ
  omega
/-- a panel below k is tripped -/
noncomputable def trN (f b : Int → Int) (k : Int) : Int := isZ (∃ j : Int, 0 ≤ j ∧ j < k ∧ b j < f j)
theorem trN_0 {f b : Int → Int} : trN f b 0 = 0 := isZ_0 (fun ⟨j, a, b, _⟩ => by omega)
theorem trN_y {f b : Int → Int} {k : Int} (h : trN f b k = 1 ∨ b k < f k) (hk : 0 ≤ k) : trN f b (k + 1) = 1 := by
  rcases h with h | h
  · obtain ⟨j, a, b, d⟩ := isZ_y h
    exact isZ_1 ⟨j, a, by omega, d⟩
  · exact isZ_1 ⟨k, hk, by omega, h⟩
theorem trN_n {f b : Int → Int} {k : Int} (h : trN f b k = 0) (h2 : ¬ b k < f k) : trN f b (k + 1) = 0 := by
  refine isZ_0 (fun ⟨j, a, b, d⟩ => ?_)
  by_cases e : j = k
  · exact h2 (e ▸ d)
  · exact isZ_n h ⟨j, a, by omega, d⟩
def alZ (f : Int → Int) : Int := smZ f 6
