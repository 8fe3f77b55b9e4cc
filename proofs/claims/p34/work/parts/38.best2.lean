/-! the best aims of one or two mirrors, over S -/
section BB
variable {zE : Nat} {S : ST} {k o : Nat}
theorem bb_n (hI : FC zE S) : ∃ n : Nat, S.2.1 0 = (n : Int) ∧ n ≤ 12 := by
  obtain ⟨n, hn⟩ := Int.eq_ofNat_of_zero_le hI.N.1
  have q := hI.N
  exact ⟨n, hn, by omega⟩
theorem bb_ok (hI : FC zE S) (hk : (k : Int) < S.2.1 0) (ho : (o : Int) < S.2.1 0) : okZ (svZ k o) (S.2.1 0) (S.2.2 5) = 1 ↔ ¬ S.2.2 5 (k : Int) = 1 ∧ ¬ S.2.2 5 (o : Int) = 1 := by
  obtain ⟨n, hn, h12⟩ := bb_n hI
  rw [hn] at hk ho ⊢
  exact sv_ok (by omega) (by omega) h12
theorem bb_cnt (hI : FC zE S) (hk : (k : Int) < S.2.1 0) (ho : (o : Int) < S.2.1 0) : cntZ (svZ k o) (S.2.1 0) = (if k = o then 1 else 2) := by
  obtain ⟨n, hn, h12⟩ := bb_n hI
  rw [hn] at hk ho ⊢
  exact sv_cnt k (by omega) o (by omega) n (by omega) (by omega) (by omega)
theorem bb_rng (hI : FC zE S) (hk : (k : Int) < S.2.1 0) (ho : (o : Int) < S.2.1 0) : 0 ≤ svZ k o ∧ svZ k o < 4096 := by
  obtain ⟨n, hn, h12⟩ := bb_n hI
  rw [hn] at hk ho
  have := sv_rng k (by omega) o (by omega) n (by omega) (by omega) (by omega)
  omega
theorem bb_same (hI : FC zE S) (hk : (k : Int) < S.2.1 0) (ho : (o : Int) < S.2.1 0) {f : Int → Int} (hf : ∀ j : Int, ¬ j = (k : Int) → ¬ j = (o : Int) → f j = S.2.2 2 j) : bsS (sA S 2 f) (svZ k o) = bsS S (svZ k o) := by
  have qN := hI.N
  refine bst_mem qN.1 (fun j a b hm => hf j (fun e => hm ?_) (fun e => hm ?_))
  · rw [e]
    exact (sv_mem k (by omega) o (by omega) k (by omega)).mpr (Or.inl rfl)
  · rw [e]
    exact (sv_mem k (by omega) o (by omega) o (by omega)).mpr (Or.inr rfl)
theorem bb_val (S : ST) (sid : Int) (h : ¬ (bsS S sid).1 = -1) : (bsS S sid).2 = alZ (fS (baZ sid (S.2.1 0) (S.2.2 2) (S.2.2 3) (S.2.2 4) (ryS S)) (teZ sid (S.2.1 0) (ryS S)) (awZ sid (S.2.1 0) (S.2.2 3) (S.2.2 4)) (rwZ (cntZ sid (S.2.1 0)) (bsS S sid).1) (cntZ sid (S.2.1 0))) := by
  rcases bs_at (base := baZ sid (S.2.1 0) (S.2.2 2) (S.2.2 3) (S.2.2 4) (ryS S)) (te := teZ sid (S.2.1 0) (ryS S)) (aw := awZ sid (S.2.1 0) (S.2.2 3) (S.2.2 4)) (bound := S.2.2 12) (m := cntZ sid (S.2.1 0)) ((7 : Int) ^ (cntZ sid (S.2.1 0)).toNat).toNat with q | q
  · exact absurd q h
  · exact q.2.2
/-- the aims of the best row, told -/
theorem bb_then (hI : FC zE S) (hk : (k : Int) < S.2.1 0) (ho : (o : Int) < S.2.1 0) (hb : ¬ (bsS S (svZ k o)).1 = -1) {f : Int → Int} (h0 : f ((Nat.min k o : Nat) : Int) = rwZ (cntZ (svZ k o) (S.2.1 0)) (bsS S (svZ k o)).1 0) (h1 : k ≠ o → f ((Nat.max k o : Nat) : Int) = rwZ (cntZ (svZ k o) (S.2.1 0)) (bsS S (svZ k o)).1 1) (hf : ∀ j : Int, ¬ j = (k : Int) → ¬ j = (o : Int) → f j = S.2.2 2 j) : alZ (flS (sA S 2 f)) = (bsS S (svZ k o)).2 := by
  rw [bb_val S _ hb]
  have hc := bb_cnt (k := k) (o := o) hI hk ho
  obtain ⟨n, hn, h12⟩ := bb_n hI
  have m0 : mbZ (svZ k o) (S.2.1 0) 0 = ((Nat.min k o : Nat) : Int) := by rw [hn] at hk ho ⊢; exact sv_mb0 (by omega) (by omega) h12
  have m1 : k ≠ o → mbZ (svZ k o) (S.2.1 0) 1 = ((Nat.max k o : Nat) : Int) := fun z => by rw [hn] at hk ho ⊢; exact sv_mb1 (by omega) (by omega) h12 z
  have e : flS (sA S 2 f) = fS (baZ (svZ k o) (S.2.1 0) (S.2.2 2) (S.2.2 3) (S.2.2 4) (ryS S)) (teZ (svZ k o) (S.2.1 0) (ryS S)) (awZ (svZ k o) (S.2.1 0) (S.2.2 3) (S.2.2 4)) (rwZ (cntZ (svZ k o) (S.2.1 0)) (bsS S (svZ k o)).1) (cntZ (svZ k o) (S.2.1 0)) := by
    funext q
    refine fl_row (f := f) hI.N.1 (fun j a b => ?_) (fun i hi => hf i (fun e => ?_) (fun e => ?_)) q
    · by_cases z : k = o
      · rw [if_pos z] at hc
        rw [show j = 0 by omega, m0]
        exact h0
      · rw [if_neg z] at hc
        rcases (show j = 0 ∨ j = 1 by omega) with rfl | rfl
        · rw [m0]; exact h0
        · rw [m1 z]; exact h1 z
    · by_cases z : k ≤ o
      · refine hi 0 (Int.le_refl _) (by rw [hc]; split <;> omega) ?_
        rw [m0, e, show Nat.min k o = k from Nat.min_eq_left z]
      · have z2 : k ≠ o := by omega
        refine hi 1 (by omega) (by rw [hc, if_neg z2]; omega) ?_
        rw [m1 z2, e, show Nat.max k o = k from Nat.max_eq_left (by omega)]
    · by_cases z : o ≤ k
      · refine hi 0 (Int.le_refl _) (by rw [hc]; split <;> omega) ?_
        rw [m0, e, show Nat.min k o = o from Nat.min_eq_right z]
      · have z2 : k ≠ o := by omega
        refine hi 1 (by omega) (by rw [hc, if_neg z2]; omega) ?_
        rw [m1 z2, e, show Nat.max k o = o from Nat.max_eq_right (by omega)]
  rw [e]
theorem mm_1 (k o : Nat) : Nat.min k o = k ∨ Nat.min k o = o := by
  by_cases z : k ≤ o
  · exact Or.inl (Nat.min_eq_left z)
  · exact Or.inr (Nat.min_eq_right (by omega))
theorem mm_2 (k o : Nat) : Nat.max k o = k ∨ Nat.max k o = o := by
  by_cases z : k ≤ o
  · exact Or.inr (Nat.max_eq_right z)
  · exact Or.inl (Nat.max_eq_left (by omega))
theorem mm_3 {k o : Nat} (z : k ≠ o) : Nat.min k o ≠ Nat.max k o := by
  have h1 : Nat.min k o ≤ k := Nat.min_le_left _ _
  have h2 : Nat.min k o ≤ o := Nat.min_le_right _ _
  have h3 : k ≤ Nat.max k o := Nat.le_max_left _ _
  have h4 : o ≤ Nat.max k o := Nat.le_max_right _ _
  omega
theorem bb_ge (hI : FC zE S) (hk : (k : Int) < S.2.1 0) (ho : (o : Int) < S.2.1 0) (hb : ¬ (bsS S (svZ k o)).1 = -1) : 0 ≤ (bsS S (svZ k o)).2 ∧ (bsS S (svZ k o)).2 ≤ 68400 := by
  have main : ∀ f : Int → Int, alZ (flS (sA S 2 f)) = (bsS S (svZ k o)).2 → 0 ≤ (bsS S (svZ k o)).2 ∧ (bsS S (svZ k o)).2 ≤ 68400 := by
    intro f e
    rw [← e, alS6]
    have hl : ∀ p : Int, 0 ≤ flS (sA S 2 f) p ∧ flS (sA S 2 f) p ≤ 11400 := fun p => flZ_rng hI.N (fun j _ _ => ryS_rng hI j)
    have l0 := hl 0
    have l1 := hl 1
    have l2 := hl 2
    have l3 := hl 3
    have l4 := hl 4
    have l5 := hl 5
    omega
  have n1 := mm_1 k o
  have n2 := mm_2 k o
  by_cases z : k = o
  · exact main (upZ (S.2.2 2) ((Nat.min k o : Nat) : Int) (rwZ (cntZ (svZ k o) (S.2.1 0)) (bsS S (svZ k o)).1 0)) (bb_then hI hk ho hb (upZ_s rfl) (fun q => absurd z q) (fun j a b => upZ_n (by omega)))
  · have n3 := mm_3 z
    exact main (upZ (upZ (S.2.2 2) ((Nat.min k o : Nat) : Int) (rwZ (cntZ (svZ k o) (S.2.1 0)) (bsS S (svZ k o)).1 0)) ((Nat.max k o : Nat) : Int) (rwZ (cntZ (svZ k o) (S.2.1 0)) (bsS S (svZ k o)).1 1)) (bb_then hI hk ho hb ((upZ_n (by omega)).trans (upZ_s rfl)) (fun _ => upZ_s rfl) (fun j a b => (upZ_n (by omega)).trans (upZ_n (by omega))))
theorem bb_now (hI : FC zE S) (hk : (k : Int) < S.2.1 0) (ho : (o : Int) < S.2.1 0) (hs : sfS S = 1) : alZ (flS S) ≤ (bsS S (svZ k o)).2 := by
  obtain ⟨n, hn, h12⟩ := bb_n hI
  have h1 := (isZ_y hs).1
  have h2 := bs_now (k := k) (o := o) (n := n) (aim := S.2.2 2) (err := S.2.2 3) (cor := S.2.2 4) (rays := ryS S) (bound := S.2.2 12) (by omega) (by omega) h12 hI.Aim (by rw [← hn]; exact h1)
  rw [← hn] at h2
  exact h2
end BB
