/-! sets of one or two mirrors, and what is best of their aims -/
def svZ (k o : Nat) : Int := if k = o then 2 ^ k else 2 ^ k + 2 ^ o
theorem sv_or : ∀ k, k < 12 → ∀ o, o < 12 → (zI (2 ^ k) ||| zI (2 ^ o)) = zI (svZ k o) := by decide +kernel
theorem sv_mem : ∀ k, k < 12 → ∀ o, o < 12 → ∀ i, i < 12 → (memZ (svZ k o) (i : Nat) = 1 ↔ (i = k ∨ i = o)) := by decide +kernel
theorem sv_cnt : ∀ k, k < 12 → ∀ o, o < 12 → ∀ n, n < 13 → k < n → o < n → cntZ (svZ k o) (n : Nat) = (if k = o then 1 else 2) := by decide +kernel
theorem sv_low : ∀ k, k < 12 → ∀ o, o < 12 → cntZ (svZ k o) (Nat.min k o : Nat) = 0 ∧ (k ≠ o → cntZ (svZ k o) (Nat.max k o : Nat) = 1) := by decide +kernel
theorem sv_r1 : ∀ k, k < 12 → ∀ o, o < 12 → 1 ≤ svZ k o ∧ svZ k o < 4096 := by decide +kernel
theorem sv_r2 : ∀ k, k < 12 → ∀ o, o < 12 → ∀ n, n < 13 → (k < n → (o < n → svZ k o / ((2 : Int) ^ n) = 0)) := by decide +kernel
theorem sv_rng (k : Nat) (hk : k < 12) (o : Nat) (ho : o < 12) (n : Nat) (hn : n < 13) (h1 : k < n) (h2 : o < n) : 1 ≤ svZ k o ∧ svZ k o < 4096 ∧ svZ k o / 2 ^ n = 0 := ⟨(sv_r1 k hk o ho).1, (sv_r1 k hk o ho).2, sv_r2 k hk o ho n hn h1 h2⟩
theorem sv_ok {k o n : Nat} {brk : Int → Int} (hk : k < n) (ho : o < n) (hn : n ≤ 12) : okZ (svZ k o) (n : Nat) brk = 1 ↔ ¬ brk (k : Int) = 1 ∧ ¬ brk (o : Int) = 1 := by
  have h1 := sv_rng k (by omega) o (by omega) n (by omega) hk ho
  have h2 := sv_cnt k (by omega) o (by omega) n (by omega) hk ho
  constructor
  · intro q
    have q2 := (isZ_y q).2.2
    exact ⟨q2 k (by omega) (by omega) ((sv_mem k (by omega) o (by omega) k (by omega)).mpr (Or.inl rfl)), q2 o (by omega) (by omega) ((sv_mem k (by omega) o (by omega) o (by omega)).mpr (Or.inr rfl))⟩
  · intro q
    refine isZ_1 ⟨⟨h1.1, h1.2.2⟩, ?_, fun i h0 h3 hm => ?_⟩
    · rw [h2]; split <;> omega
    · obtain ⟨j, rfl⟩ := Int.eq_ofNat_of_zero_le h0
      rcases (sv_mem k (by omega) o (by omega) j (by omega)).mp hm with rfl | rfl
      · exact q.1
      · exact q.2
theorem sv_mb0 {k o n : Nat} (hk : k < n) (ho : o < n) (hn : n ≤ 12) : mbZ (svZ k o) (n : Nat) 0 = ((Nat.min k o : Nat) : Int) := by
  have h2 := sv_cnt k (by omega) o (by omega) n (by omega) hk ho
  have q := mbN_at (set := svZ k o) n 0 (Int.le_refl _) (by rw [h2]; split <;> omega)
  have e : mbZ (svZ k o) (n : Nat) 0 = mbN (svZ k o) n 0 := rfl
  rw [e]
  obtain ⟨j, hj⟩ := Int.eq_ofNat_of_zero_le q.1.1
  rw [hj] at q ⊢
  have hl := sv_low k (by omega) o (by omega)
  rcases (sv_mem k (by omega) o (by omega) j (by omega)).mp q.2.1 with rfl | rfl
  · by_cases c : j ≤ o
    · rw [show Nat.min j o = j from Nat.min_eq_left c]
    · have e2 : Nat.max j o = j := Nat.max_eq_left (by omega)
      have q3 := hl.2 (by omega)
      rw [e2] at q3
      omega
  · by_cases c : j ≤ k
    · rw [show Nat.min k j = j from Nat.min_eq_right c]
    · have e2 : Nat.max k j = j := Nat.max_eq_right (by omega)
      have q3 := hl.2 (by omega)
      rw [e2] at q3
      omega
theorem sv_mb1 {k o n : Nat} (hk : k < n) (ho : o < n) (hn : n ≤ 12) (hko : k ≠ o) : mbZ (svZ k o) (n : Nat) 1 = ((Nat.max k o : Nat) : Int) := by
  have h2 := sv_cnt k (by omega) o (by omega) n (by omega) hk ho
  rw [if_neg hko] at h2
  have q := mbN_at (set := svZ k o) n 1 (by omega) (by rw [h2]; omega)
  have e : mbZ (svZ k o) (n : Nat) 1 = mbN (svZ k o) n 1 := rfl
  rw [e]
  obtain ⟨j, hj⟩ := Int.eq_ofNat_of_zero_le q.1.1
  rw [hj] at q ⊢
  have hl := sv_low k (by omega) o (by omega)
  rcases (sv_mem k (by omega) o (by omega) j (by omega)).mp q.2.1 with rfl | rfl
  · by_cases c : j ≤ o
    · have e2 : Nat.min j o = j := Nat.min_eq_left c
      have q3 := hl.1
      rw [e2] at q3
      omega
    · rw [show Nat.max j o = j from Nat.max_eq_left (by omega)]
  · by_cases c : j ≤ k
    · have e2 : Nat.min k j = j := Nat.min_eq_right c
      have q3 := hl.1
      rw [e2] at q3
      omega
    · rw [show Nat.max k j = j from Nat.max_eq_right (by omega)]
/-- what a search finds: a lawful row, and the greatest of all -/
theorem bs_at {base te aw bound : Int → Int} {m : Int} : ∀ R : Nat, (bsF base te aw bound m R).1 = -1 ∨ ((0 ≤ (bsF base te aw bound m R).1 ∧ (bsF base te aw bound m R).1 < R) ∧ trN (fS base te aw (rwZ m (bsF base te aw bound m R).1) m) bound 6 = 0 ∧ (bsF base te aw bound m R).2 = alZ (fS base te aw (rwZ m (bsF base te aw bound m R).1) m))
  | 0 => Or.inl rfl
  | R + 1 => by
    by_cases q : trN (fS base te aw (rwZ m R) m) bound 6 = 0 ∧ (bsF base te aw bound m R).2 < alZ (fS base te aw (rwZ m R) m)
    · have e : bsF base te aw bound m (R + 1) = ((R : Int), alZ (fS base te aw (rwZ m R) m)) := if_pos q
      rw [e]
      exact Or.inr ⟨⟨by show (0 : Int) ≤ (R : Int); omega, by show (R : Int) < ((R + 1 : Nat) : Int); omega⟩, q.1, rfl⟩
    · have e : bsF base te aw bound m (R + 1) = bsF base te aw bound m R := if_neg q
      rw [e]
      rcases bs_at (base := base) (te := te) (aw := aw) (bound := bound) (m := m) R with h | h
      · exact Or.inl h
      · exact Or.inr ⟨⟨h.1.1, by have := h.1.2; omega⟩, h.2⟩
theorem bs_ge {base te aw bound : Int → Int} {m : Int} : ∀ (R r : Nat), r < R → trN (fS base te aw (rwZ m r) m) bound 6 = 0 → alZ (fS base te aw (rwZ m r) m) ≤ (bsF base te aw bound m R).2
  | 0, _, h, _ => absurd h (Nat.not_lt_zero _)
  | R + 1, r, h, hl => by
    by_cases q : trN (fS base te aw (rwZ m R) m) bound 6 = 0 ∧ (bsF base te aw bound m R).2 < alZ (fS base te aw (rwZ m R) m)
    · have e : bsF base te aw bound m (R + 1) = ((R : Int), alZ (fS base te aw (rwZ m R) m)) := if_pos q
      rw [e]
      show alZ (fS base te aw (rwZ m r) m) ≤ alZ (fS base te aw (rwZ m R) m)
      by_cases e2 : r = R
      · rw [e2]; exact Int.le_refl _
      · have := bs_ge (base := base) (te := te) (aw := aw) (bound := bound) (m := m) R r (by omega) hl
        omega
    · have e : bsF base te aw bound m (R + 1) = bsF base te aw bound m R := if_neg q
      rw [e]
      by_cases e2 : r = R
      · subst e2
        have := fun z => q ⟨hl, z⟩
        omega
      · exact bs_ge R r (by omega) hl
theorem fS_val {base te aw a a2 : Int → Int} {m : Int} (h : ∀ j : Int, 0 ≤ j → j < m → a j = a2 j) (q : Int) : fS base te aw a m q = fS base te aw a2 m q := by
  unfold fS
  by_cases hm : 0 ≤ m
  · rw [smZ_cong (g := gS te aw a2 q) (k := m) (fun j a0 b => by unfold gS; rw [h j a0 b]) m.toNat (by omega)]
  · rw [show m.toNat = 0 by omega]
    rfl
theorem baZ_mem {set n : Int} {aim aim2 err cor rays : Int → Int} (hn : 0 ≤ n) (h : ∀ j : Int, 0 ≤ j → j < n → ¬ memZ set j = 1 → aim2 j = aim j) (q : Int) : baZ set n aim2 err cor rays q = baZ set n aim err cor rays q :=
  smZ_cong (k := n) (fun j a b => by
    unfold bzZ
    by_cases c : memZ set j = 1
    · rw [if_pos c, if_pos c]
    · rw [if_neg c, if_neg c]
      unfold ctZ plZ
      rw [h j a b c]) n.toNat (by omega)
theorem bst_mem {set n : Int} {aim aim2 err cor rays bound : Int → Int} (hn : 0 ≤ n) (h : ∀ j : Int, 0 ≤ j → j < n → ¬ memZ set j = 1 → aim2 j = aim j) : bstZ set n aim2 err cor rays bound = bstZ set n aim err cor rays bound := by
  unfold bstZ
  exact bsF_cong (fun q => baZ_mem hn h q) (fun _ _ _ => rfl) _
/-- aims are told to the mirrors of a set, as row a has them -/
theorem fl_row {set n : Int} {aim f err cor rays a : Int → Int} (hn : 0 ≤ n) (hf : ∀ j : Int, 0 ≤ j → j < cntZ set n → f (mbZ set n j) = a j) (ho : ∀ i : Int, (∀ j : Int, 0 ≤ j → j < cntZ set n → ¬ mbZ set n j = i) → f i = aim i) (q : Int) : flZ n f err cor rays (-1) 0 q = fS (baZ set n aim err cor rays) (teZ set n rays) (awZ set n err cor) a (cntZ set n) q :=
  flA hn rfl (fun _ _ _ => rfl) ⟨hf, ho⟩ q
theorem rw_1 {v : Int} (h : -1 ≤ v ∧ v ≤ 5) : ∃ r : Nat, r < 7 ∧ rwZ 1 r 0 = v := ⟨(v + 1).toNat, by omega, by unfold rwZ; show (((v + 1).toNat : Nat) : Int) / 7 ^ (0 : Nat) % 7 - 1 = v; rw [Int.pow_zero, Int.ediv_one]; omega⟩
theorem rw_2 {v w : Int} (h : -1 ≤ v ∧ v ≤ 5) (h2 : -1 ≤ w ∧ w ≤ 5) : ∃ r : Nat, r < 49 ∧ rwZ 2 r 0 = v ∧ rwZ 2 r 1 = w := ⟨(7 * (v + 1) + (w + 1)).toNat, by omega, by
  unfold rwZ
  show (((7 * (v + 1) + (w + 1)).toNat : Nat) : Int) / 7 ^ (1 : Nat) % 7 - 1 = v
  rw [Int.pow_succ, Int.pow_zero]
  omega, by
  unfold rwZ
  show (((7 * (v + 1) + (w + 1)).toNat : Nat) : Int) / 7 ^ (0 : Nat) % 7 - 1 = w
  rw [Int.pow_zero, Int.ediv_one]
  omega⟩
/-- the aims as they are, if lawful, are no better than the best -/
theorem bs_now {k o n : Nat} {aim err cor rays bound : Int → Int} (hk : k < n) (ho : o < n) (hn : n ≤ 12) (ha : ∀ j : Int, -1 ≤ aim j ∧ aim j ≤ 5) (hl : trN (flZ (n : Nat) aim err cor rays (-1) 0) bound 6 = 0) : alZ (flZ (n : Nat) aim err cor rays (-1) 0) ≤ (bstZ (svZ k o) (n : Nat) aim err cor rays bound).2 := by
  have hc := sv_cnt k (by omega) o (by omega) n (by omega) hk ho
  have key : ∀ r : Nat, r < ((7 : Int) ^ (cntZ (svZ k o) (n : Nat)).toNat).toNat → (∀ j : Int, 0 ≤ j → j < cntZ (svZ k o) (n : Nat) → rwZ (cntZ (svZ k o) (n : Nat)) r j = aim (mbZ (svZ k o) (n : Nat) j)) → alZ (flZ (n : Nat) aim err cor rays (-1) 0) ≤ (bstZ (svZ k o) (n : Nat) aim err cor rays bound).2 := by
    intro r hr hv
    have e : flZ (n : Nat) aim err cor rays (-1) 0 = fS (baZ (svZ k o) (n : Nat) aim err cor rays) (teZ (svZ k o) (n : Nat) rays) (awZ (svZ k o) (n : Nat) err cor) (rwZ (cntZ (svZ k o) (n : Nat)) r) (cntZ (svZ k o) (n : Nat)) := funext fun q => fl_row (by omega) (fun j a b => (hv j a b).symm) (fun _ _ => rfl) q
    rw [e] at hl ⊢
    unfold bstZ
    exact bs_ge _ r hr hl
  by_cases c : k = o
  · rw [if_pos c] at hc
    obtain ⟨r, h1, h2⟩ := rw_1 (ha (mbZ (svZ k o) (n : Nat) 0))
    refine key r (by rw [hc]; exact h1) (fun j a b => ?_)
    rw [hc] at b ⊢
    rw [show j = 0 by omega]
    exact h2
  · rw [if_neg c] at hc
    obtain ⟨r, h1, h2, h3⟩ := rw_2 (ha (mbZ (svZ k o) (n : Nat) 0)) (ha (mbZ (svZ k o) (n : Nat) 1))
    refine key r (by rw [hc]; exact h1) (fun j a b => ?_)
    rw [hc] at b ⊢
    rcases (show j = 0 ∨ j = 1 by omega) with rfl | rfl
    · exact h2
    · exact h3
