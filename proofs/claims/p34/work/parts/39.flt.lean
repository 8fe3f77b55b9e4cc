/-! kept lies from 0 to 1 -/
theorem ft_enc {c : Nat} {q : Int} (hc : 8388608 ≤ c ∧ c < 16777216) (hq : -149 ≤ q ∧ q ≤ 104) : FP.Core.decode FP.Core.b32 (UInt32.ofNat (FP.Core.encode FP.Core.b32 (.fin false c q))).toNat = .fin false c q := by
  have et : FP.Core.b32.tails = 8388608 := by decide
  have ee : FP.Core.b32.exps = 256 := by decide
  have em : FP.Core.b32.qmin = -149 := by decide
  have e1 : FP.Core.encode FP.Core.b32 (.fin false c q) = ((q + 149).toNat + 1) * 8388608 + (c - 8388608) := by
    show (if c < FP.Core.b32.tails then FP.Core.assemble FP.Core.b32 false 0 c else FP.Core.assemble FP.Core.b32 false ((q - FP.Core.b32.qmin).toNat + 1) (c - FP.Core.b32.tails)) = _
    rw [et, em, if_neg (by omega), show q - -149 = q + 149 by omega]
    unfold FP.Core.assemble
    rw [ee, et]
    show (0 * 256 + ((q + 149).toNat + 1)) * 8388608 + (c - 8388608) = _
    rw [Nat.zero_mul, Nat.zero_add]
  rw [e1, UInt32.toNat_ofNat']
  generalize hE : (q + 149).toNat + 1 = E
  have hE2 : 1 ≤ E ∧ E ≤ 254 := by omega
  rw [Nat.mod_eq_of_lt (by omega)]
  unfold FP.Core.decode FP.Core.fieldE FP.Core.fieldT FP.Core.fieldS
  rw [et, ee, em]
  have a1 : (E * 8388608 + (c - 8388608)) / 8388608 = E := by omega
  have a2 : (E * 8388608 + (c - 8388608)) % 8388608 = c - 8388608 := by omega
  rw [a1, a2]
  have a3 : E % 256 = E := by omega
  rw [a3, if_neg (by omega), if_neg (by omega)]
  have a4 : (E / 256 % 2 == 1) = false := by rw [show E / 256 = 0 by omega]; rfl
  rw [a4]
  have a5 : 8388608 + (c - 8388608) = c := by omega
  have a6 : (-149 : Int) + ((E : Int) - 1) = q := by omega
  rw [a5, a6]
theorem near_rng {x d lo hi : Nat} (hd : 0 < d) (h1 : lo * d ≤ x) (h2 : x ≤ hi * d) : lo ≤ FP.Core.nearest x d ∧ FP.Core.nearest x d ≤ hi := by
  have q1 : lo ≤ x / d := (Nat.le_div_iff_mul_le hd).mpr h1
  have q2 : x / d ≤ hi := Nat.div_le_of_le_mul (by rw [Nat.mul_comm]; exact h2)
  have q3 : ¬ x % d = 0 → x / d < hi := fun q => by
    rcases Nat.lt_or_ge (x / d) hi with z | z
    · exact z
    · have e := Nat.div_add_mod x d
      have e2 := Nat.mul_le_mul_left d z
      rw [Nat.mul_comm hi d] at h2
      omega
  unfold FP.Core.nearest
  split
  · exact ⟨q1, q2⟩
  · split
    · have := q3 (by omega); omega
    · have := q3 (by omega); omega
theorem near_mono {x y d : Nat} (hd : 0 < d) (h : x ≤ y) : FP.Core.nearest x d ≤ FP.Core.nearest y d := by
  have q1 : x / d ≤ y / d := Nat.div_le_div_right h
  have e1 := Nat.div_add_mod x d
  have e2 := Nat.div_add_mod y d
  unfold FP.Core.nearest
  rcases Nat.lt_or_ge (x / d) (y / d) with c | c
  · have l1 : (if 2 * (x % d) < d then x / d else if d < 2 * (x % d) then x / d + 1 else x / d + x / d % 2) ≤ x / d + 1 := by split <;> (try split) <;> omega
    have l2 : y / d ≤ (if 2 * (y % d) < d then y / d else if d < 2 * (y % d) then y / d + 1 else y / d + y / d % 2) := by split <;> (try split) <;> omega
    omega
  · have c2 : y / d = x / d := by omega
    rw [c2] at e2 ⊢
    have r : x % d ≤ y % d := by omega
    split <;> split <;> (try split) <;> (try split) <;> omega
def nsN (k n : Nat) : Nat := FP.Core.nearest (n * 2 ^ (23 - k)) (2 ^ (k - 23))
theorem ns_rng {n : Nat} (h : n ≠ 0) : 8388608 ≤ nsN n.log2 n ∧ nsN n.log2 n ≤ 16777216 := by
  have h1 := Nat.log2_self_le h
  have h2 : n < 2 ^ (n.log2 + 1) := Nat.lt_log2_self
  generalize n.log2 = k at h1 h2 ⊢
  refine near_rng (Nat.pow_pos (by omega)) ?_ ?_
  · by_cases c : k ≤ 23
    · rw [show k - 23 = 0 by omega, Nat.pow_zero, Nat.mul_one]
      have e : 2 ^ k * 2 ^ (23 - k) = 2 ^ 23 := by rw [← Nat.pow_add]; congr 1; omega
      have := Nat.mul_le_mul_right (2 ^ (23 - k)) h1
      omega
    · rw [show 23 - k = 0 by omega, Nat.pow_zero, Nat.mul_one]
      have e : 2 ^ 23 * 2 ^ (k - 23) = 2 ^ k := by rw [← Nat.pow_add]; congr 1; omega
      have e2 : (8388608 : Nat) = 2 ^ 23 := by decide
      rw [e2, e]
      exact h1
  · by_cases c : k ≤ 23
    · rw [show k - 23 = 0 by omega, Nat.pow_zero, Nat.mul_one]
      have e : 2 ^ (k + 1) * 2 ^ (23 - k) = 2 ^ 24 := by rw [← Nat.pow_add]; congr 1; omega
      have := Nat.mul_le_mul_right (2 ^ (23 - k)) (Nat.le_of_lt h2)
      omega
    · rw [show 23 - k = 0 by omega, Nat.pow_zero, Nat.mul_one]
      have e : 2 ^ 24 * 2 ^ (k - 23) = 2 ^ (k + 1) := by rw [← Nat.pow_add]; congr 1; omega
      have e2 : (16777216 : Nat) = 2 ^ 24 := by decide
      rw [e2, e]
      exact Nat.le_of_lt h2
theorem ns_mono {a b : Nat} (ha : a ≠ 0) (h : a ≤ b) : nsN a.log2 a * 2 ^ a.log2 ≤ nsN b.log2 b * 2 ^ b.log2 := by
  have hb : b ≠ 0 := by omega
  have ra := ns_rng ha
  have rb := ns_rng hb
  have h1 := Nat.log2_self_le ha
  have h2 : b < 2 ^ (b.log2 + 1) := Nat.lt_log2_self
  rcases Nat.lt_trichotomy a.log2 b.log2 with c | c | c
  · have p1 : 2 ^ (a.log2 + 1) ≤ 2 ^ b.log2 := Nat.pow_le_pow_right (by omega) (by omega)
    rw [Nat.pow_succ] at p1
    have q1 := Nat.mul_le_mul_right (2 ^ a.log2) ra.2
    have q2 := Nat.mul_le_mul_right (2 ^ b.log2) rb.1
    omega
  · rw [c]
    exact Nat.mul_le_mul_right _ (near_mono (Nat.pow_pos (by omega)) (Nat.mul_le_mul_right _ h))
  · have p1 : 2 ^ (b.log2 + 1) ≤ 2 ^ a.log2 := Nat.pow_le_pow_right (by omega) (by omega)
    omega
theorem ft_settle {n : Nat} {q : Int} (hn : 8388608 ≤ n ∧ n ≤ 16777216) (hq : q ≤ 100) : ∃ (c : Nat) (r : Int), FP.Core.settle FP.Core.b32 false n q = .fin false c r ∧ (8388608 ≤ c ∧ c < 16777216) ∧ ((c = n ∧ r = q) ∨ (n = 16777216 ∧ c = 8388608 ∧ r = q + 1)) := by
  have ep : 2 ^ FP.Core.b32.p = 16777216 := by decide
  have et : FP.Core.b32.tails = 8388608 := by decide
  have em : FP.Core.b32.qmax = 104 := by decide
  unfold FP.Core.settle FP.Core.bound
  rw [ep, et, em]
  by_cases c : n < 16777216
  · rw [if_pos c, if_pos (by omega)]
    exact ⟨n, q, rfl, by omega, Or.inl ⟨rfl, rfl⟩⟩
  · rw [if_neg c, if_pos (by omega)]
    exact ⟨8388608, q + 1, rfl, by omega, Or.inr ⟨by omega, rfl, rfl⟩⟩
theorem ft_l2f {a : Int} (h : 0 < a ∧ a < 2147483648) : ∃ (c : Nat) (q : Int), FP.Core.decode FP.Core.b32 (FP.l2f (zL a)).toNat = .fin false c q ∧ (8388608 ≤ c ∧ c < 16777216) ∧ (-23 ≤ q ∧ q ≤ 8) ∧ c * 2 ^ (q + 23).toNat = nsN a.toNat.log2 a.toNat * 2 ^ a.toNat.log2 := by
  have hn : a.toNat ≠ 0 := by omega
  have e1 : (zL a).toInt = a := zL_toInt ⟨by omega, by omega⟩
  have e0 : FP.l2f (zL a) = UInt32.ofNat (FP.Core.encode FP.Core.b32 (FP.Core.roundRatio FP.Core.b32 (decide ((zL a).toInt < 0)) (zL a).toInt.natAbs 1 0)) := rfl
  have hk : a.toNat.log2 ≤ 30 := by
    have := (Nat.log2_lt hn (k := 31)).mpr (by omega)
    omega
  rw [e0, e1, show decide (a < 0) = false from decide_eq_false (by omega), show a.natAbs = a.toNat by omega]
  have hr := ns_rng hn
  generalize hN : nsN a.toNat.log2 a.toNat = N at hr ⊢
  unfold nsN at hN
  have e2 : FP.Core.roundRatio FP.Core.b32 false a.toNat 1 0 = FP.Core.settle FP.Core.b32 false N ((a.toNat.log2 : Int) - 23) := by
    unfold FP.Core.roundRatio FP.Core.roundAt FP.Core.quantum
    rw [if_neg hn, fg_lead hn]
    have em : FP.Core.b32.qmin = -149 := by decide
    have ep : (FP.Core.b32.p : Int) = 24 := by decide
    rw [em, ep, show max (-149 : Int) ((a.toNat.log2 : Int) + 0 - (24 - 1)) = (a.toNat.log2 : Int) - 23 by omega]
    unfold FP.Core.unitsNum FP.Core.unitsDen
    rw [show (0 - ((a.toNat.log2 : Int) - 23)).toNat = 23 - a.toNat.log2 by omega, show ((a.toNat.log2 : Int) - 23 - 0).toNat = a.toNat.log2 - 23 by omega, Nat.one_mul, hN]
  rw [e2]
  obtain ⟨c, r, e3, h3, h4⟩ := ft_settle (q := (a.toNat.log2 : Int) - 23) hr (by omega)
  rw [e3]
  refine ⟨c, r, ft_enc h3 (by omega), h3, by omega, ?_⟩
  rcases h4 with ⟨rfl, rfl⟩ | ⟨h5, rfl, rfl⟩
  · rw [show ((a.toNat.log2 : Int) - 23 + 23).toNat = a.toNat.log2 by omega]
  · rw [show ((a.toNat.log2 : Int) - 23 + 1 + 23).toNat = a.toNat.log2 + 1 by omega, h5, Nat.pow_succ]
    omega
theorem log_23 {c : Nat} (h : 8388608 ≤ c ∧ c < 16777216) : c.log2 = 23 := by
  have h0 : c ≠ 0 := by omega
  have h1 := (Nat.log2_lt h0 (k := 24)).mpr (by omega)
  have h2 := mt (Nat.log2_lt h0 (k := 23)).mp (by omega)
  omega
theorem ft_q {c d : Nat} {e : Int} (hc : 8388608 ≤ c ∧ c < 16777216) (hd : 8388608 ≤ d ∧ d < 16777216) (he : -40 ≤ e ∧ e ≤ 0) (hx : e = 0 → c ≤ d) : ∃ (c2 : Nat) (q2 : Int), FP.Core.roundRatio FP.Core.b32 false c d e = .fin false c2 q2 ∧ (8388608 ≤ c2 ∧ c2 < 16777216) ∧ -149 ≤ q2 ∧ (q2 ≤ -24 ∨ (q2 = -23 ∧ c2 = 8388608)) := by
  have em : FP.Core.b32.qmin = -149 := by decide
  have ep : (FP.Core.b32.p : Int) = 24 := by decide
  have hl : FP.Core.leading c d = (if d ≤ c then 0 else -1) := by
    unfold FP.Core.leading
    rw [log_23 hc, log_23 hd]
    show (if d * 2 ^ (0 : Nat) ≤ c * 2 ^ (0 : Nat) then (0 : Int) else 0 - 1) = _
    rw [Nat.pow_zero, Nat.mul_one, Nat.mul_one]
    rfl
  unfold FP.Core.roundRatio FP.Core.roundAt FP.Core.quantum
  rw [if_neg (by omega), hl, em, ep]
  by_cases h : d ≤ c
  · rw [if_pos h, show max (-149 : Int) (0 + e - (24 - 1)) = e - 23 by omega]
    unfold FP.Core.unitsNum FP.Core.unitsDen
    rw [show (e - (e - 23)).toNat = 23 by omega, show (e - 23 - e).toNat = 0 by omega, Nat.pow_zero, Nat.mul_one]
    have r1 := near_rng (x := c * 2 ^ 23) (d := d) (lo := 8388608) (hi := 16777216) (by omega) (by omega) (by omega)
    have r2 : e = 0 → FP.Core.nearest (c * 2 ^ 23) d ≤ 8388608 := fun q => (near_rng (x := c * 2 ^ 23) (d := d) (lo := 8388608) (hi := 8388608) (by omega) (by omega) (by have := hx q; omega)).2
    obtain ⟨c2, q2, e3, h3, h4⟩ := ft_settle (q := e - 23) r1 (by omega)
    exact ⟨c2, q2, e3, h3, by omega, by
      by_cases z : e = 0
      · have := r2 z; omega
      · omega⟩
  · rw [if_neg h, show max (-149 : Int) (-1 + e - (24 - 1)) = e - 24 by omega]
    unfold FP.Core.unitsNum FP.Core.unitsDen
    rw [show (e - (e - 24)).toNat = 24 by omega, show (e - 24 - e).toNat = 0 by omega, Nat.pow_zero, Nat.mul_one]
    have r1 := near_rng (x := c * 2 ^ 24) (d := d) (lo := 8388608) (hi := 16777216) (by omega) (by omega) (by omega)
    obtain ⟨c2, q2, e3, h3, h4⟩ := ft_settle (q := e - 24) r1 (by omega)
    exact ⟨c2, q2, e3, h3, by omega, by omega⟩
theorem cmp_le {x y : Int} (h : x ≤ y) : compare x y = Ordering.lt ∨ compare x y = Ordering.eq := by
  show compareOfLessAndEq x y = _ ∨ compareOfLessAndEq x y = _
  unfold compareOfLessAndEq
  by_cases c : x < y
  · rw [if_pos c]; exact Or.inl rfl
  · rw [if_neg c, if_pos (by omega)]; exact Or.inr rfl
theorem cmp_ge {x y : Int} (h : y ≤ x) : compare x y = Ordering.gt ∨ compare x y = Ordering.eq := by
  show compareOfLessAndEq x y = _ ∨ compareOfLessAndEq x y = _
  unfold compareOfLessAndEq
  rw [if_neg (by omega)]
  by_cases c : x = y
  · rw [if_pos c]; exact Or.inr rfl
  · rw [if_neg c]; exact Or.inl rfl
theorem kp_dec {b x : Int} (h : 0 ≤ x ∧ x < b ∧ b < 2147483648) : ∃ (c : Nat) (q : Int), FP.Core.decode FP.Core.b32 (kpL (zL b) (zL x)).toNat = .fin false c q ∧ (8388608 ≤ c ∧ c < 16777216) ∧ -149 ≤ q ∧ (q ≤ -24 ∨ (q = -23 ∧ c = 8388608)) := by
  have hb : ¬ zL b = 0 := fun z => by
    have e : (zL b).toInt = b := zL_toInt ⟨by omega, by omega⟩
    rw [z] at e
    have e2 : (0 : Int64).toInt = 0 := by decide
    omega
  unfold kpL
  rw [if_neg hb, zL_sub]
  obtain ⟨c, q, e1, h1, h2, h3⟩ := ft_l2f (a := b - x) ⟨by omega, by omega⟩
  obtain ⟨d, r, e4, h4, h5, h6⟩ := ft_l2f (a := b) ⟨by omega, by omega⟩
  have hm := ns_mono (a := (b - x).toNat) (b := b.toNat) (by omega) (by omega)
  rw [← h3, ← h6] at hm
  have hqr : q ≤ r := by
    rcases Int.lt_or_le r q with z | z
    · have p1 : 2 ^ ((r + 23).toNat + 1) ≤ 2 ^ (q + 23).toNat := Nat.pow_le_pow_right (by omega) (by omega)
      rw [Nat.pow_succ] at p1
      have q1 := Nat.mul_le_mul_right (2 ^ (q + 23).toNat) h1.1
      have q2 := Nat.mul_lt_mul_of_pos_right h4.2 (show 0 < 2 ^ (r + 23).toNat from Nat.pow_pos (by omega))
      omega
    · exact z
  have hx : q - r = 0 → c ≤ d := fun z => by
    rw [show q = r by omega] at hm
    exact Nat.le_of_mul_le_mul_right hm (Nat.pow_pos (by omega))
  obtain ⟨c2, q2, e7, h7, h8, h9⟩ := ft_q (e := q - r) h1 h4 (by omega) hx
  have e8 : FP.fdiv (FP.l2f (zL (b - x))) (FP.l2f (zL b)) = UInt32.ofNat (FP.Core.encode FP.Core.b32 (.fin false c2 q2)) := by
    show UInt32.ofNat (FP.Core.encode FP.Core.b32 (FP.Core.quotient FP.Core.b32 (FP.Core.decode FP.Core.b32 (FP.l2f (zL (b - x))).toNat) (FP.Core.decode FP.Core.b32 (FP.l2f (zL b)).toNat))) = _
    rw [e1, e4]
    show UInt32.ofNat (FP.Core.encode FP.Core.b32 (if d = 0 then (if c = 0 then .nan else .inf (false != false)) else FP.Core.roundRatio FP.Core.b32 (false != false) c d (q - r))) = _
    rw [if_neg (by omega)]
    show UInt32.ofNat (FP.Core.encode FP.Core.b32 (FP.Core.roundRatio FP.Core.b32 false c d (q - r))) = _
    rw [e7]
  rw [e8]
  exact ⟨c2, q2, ft_enc h7 (by omega), h7, h8, h9⟩
theorem kp_z {b : Int} (h : 0 ≤ b ∧ b < 2147483648) : kpL (zL b) (zL b) = FP.fconst0 := by
  unfold kpL
  by_cases hb : zL b = 0
  · rw [if_pos hb]
  · rw [if_neg hb, zL_sub]
    have hb0 : 0 < b := by
      rcases Int.lt_or_le 0 b with z | z
      · exact z
      · exact absurd (by rw [show b = 0 by omega]; decide) hb
    obtain ⟨d, r, e4, h4, h5, h6⟩ := ft_l2f (a := b) ⟨hb0, h.2⟩
    show UInt32.ofNat (FP.Core.encode FP.Core.b32 (FP.Core.quotient FP.Core.b32 (FP.Core.decode FP.Core.b32 (FP.l2f (zL (b - b))).toNat) (FP.Core.decode FP.Core.b32 (FP.l2f (zL b)).toNat))) = _
    rw [e4, Int.sub_self, show FP.Core.decode FP.Core.b32 (FP.l2f (zL 0)).toNat = .fin false 0 (-149) by decide +kernel]
    show UInt32.ofNat (FP.Core.encode FP.Core.b32 (if d = 0 then (if (0 : Nat) = 0 then .nan else .inf (false != false)) else FP.Core.roundRatio FP.Core.b32 (false != false) 0 d (-149 - r))) = _
    rw [if_neg (by omega)]
    show UInt32.ofNat (FP.Core.encode FP.Core.b32 (if (0 : Nat) = 0 then .fin false 0 FP.Core.b32.qmin else FP.Core.roundAt FP.Core.b32 false 0 d (-149 - r) (FP.Core.quantum FP.Core.b32 0 d (-149 - r)))) = _
    rw [if_pos rfl]
    decide +kernel
theorem kp_lo {b x : Int} (h : 0 ≤ x ∧ x ≤ b ∧ b < 2147483648) : ∃ v : Int, (v = 0 ∨ v = 1) ∧ Op.cmpValue (FP.fcmp (kpL (zL b) (zL x)) FP.fconst0) .l = zI v := by
  by_cases c : x = b
  · subst c
    rw [kp_z ⟨h.1, h.2.2⟩]
    exact ⟨0, Or.inl rfl, by decide +kernel⟩
  · obtain ⟨c2, q, e, h1, h2, h3⟩ := kp_dec (b := b) (x := x) ⟨h.1, by omega, h.2.2⟩
    have e2 : FP.fcmp (kpL (zL b) (zL x)) FP.fconst0 = some (compare (FP.Core.signed false (FP.Core.inUnits c2 q (min q (-149)))) (FP.Core.signed false (FP.Core.inUnits 0 (-149) (min q (-149))))) := by
      show FP.Core.order (FP.Core.decode FP.Core.b32 (kpL (zL b) (zL x)).toNat) (FP.Core.decode FP.Core.b32 FP.fconst0.toNat) = _
      rw [e, show FP.Core.decode FP.Core.b32 FP.fconst0.toNat = .fin false 0 (-149) by decide +kernel]
      rfl
    rw [e2]
    rcases cmp_ge (x := FP.Core.signed false (FP.Core.inUnits c2 q (min q (-149)))) (y := FP.Core.signed false (FP.Core.inUnits 0 (-149) (min q (-149)))) (by
      show ((0 * 2 ^ (-149 - min q (-149)).toNat : Nat) : Int) ≤ ((FP.Core.inUnits c2 q (min q (-149)) : Nat) : Int)
      rw [Nat.zero_mul]
      omega) with z | z
    · rw [z]; exact ⟨1, Or.inr rfl, by decide +kernel⟩
    · rw [z]; exact ⟨0, Or.inl rfl, by decide +kernel⟩
theorem kp_hi {b x : Int} (h : 0 ≤ x ∧ x ≤ b ∧ b < 2147483648) : ∃ v : Int, (v = 0 ∨ v = -1) ∧ Op.cmpValue (FP.fcmp (kpL (zL b) (zL x)) FP.fconst1) .g = zI v := by
  by_cases c : x = b
  · subst c
    rw [kp_z ⟨h.1, h.2.2⟩]
    exact ⟨-1, Or.inr rfl, by decide +kernel⟩
  · obtain ⟨c2, q, e, h1, h2, h3⟩ := kp_dec (b := b) (x := x) ⟨h.1, by omega, h.2.2⟩
    have e2 : FP.fcmp (kpL (zL b) (zL x)) FP.fconst1 = some (compare (FP.Core.signed false (FP.Core.inUnits c2 q (min q (-23)))) (FP.Core.signed false (FP.Core.inUnits 8388608 (-23) (min q (-23))))) := by
      show FP.Core.order (FP.Core.decode FP.Core.b32 (kpL (zL b) (zL x)).toNat) (FP.Core.decode FP.Core.b32 FP.fconst1.toNat) = _
      rw [e, show FP.Core.decode FP.Core.b32 FP.fconst1.toNat = .fin false 8388608 (-23) by decide +kernel]
      rfl
    rw [e2]
    rcases cmp_le (x := FP.Core.signed false (FP.Core.inUnits c2 q (min q (-23)))) (y := FP.Core.signed false (FP.Core.inUnits 8388608 (-23) (min q (-23)))) (by
      show ((c2 * 2 ^ (q - min q (-23)).toNat : Nat) : Int) ≤ ((8388608 * 2 ^ (-23 - min q (-23)).toNat : Nat) : Int)
      rw [show min q (-23) = q by omega, show (q - q).toNat = 0 by omega, Nat.pow_zero, Nat.mul_one]
      rcases h3 with z | z
      · have p1 : 2 ^ 1 ≤ 2 ^ (-23 - q).toNat := Nat.pow_le_pow_right (by omega) (by omega)
        have p2 := Nat.mul_le_mul_left 8388608 p1
        omega
      · rw [z.1, z.2]; decide) with z | z
    · rw [z]; exact ⟨-1, Or.inr rfl, by decide +kernel⟩
    · rw [z]; exact ⟨0, Or.inl rfl, by decide +kernel⟩
