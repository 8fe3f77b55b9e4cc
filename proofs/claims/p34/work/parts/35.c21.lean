/-! kept: what a quotient of two longs is; it is a number -/
def fgM (f : FP.Core.Fmt) (n : Nat) : Nat := n % (f.exps * f.tails)
theorem fg_asm {f : FP.Core.Fmt} {s : Bool} {e t : Nat} (he : e < f.exps) (ht : t < f.tails) : fgM f (FP.Core.assemble f s e t) = e * f.tails + t := by
  have h1 : e * f.tails + t < f.exps * f.tails := by
    have : (e + 1) * f.tails ≤ f.exps * f.tails := Nat.mul_le_mul_right _ he
    rw [Nat.add_mul] at this
    omega
  unfold fgM FP.Core.assemble
  rw [Nat.add_mul, Nat.mul_assoc, Nat.add_assoc, Nat.add_comm, Nat.add_mul_mod_self_right, Nat.mod_eq_of_lt h1]
abbrev fgH (f : FP.Core.Fmt) : Prop := 2 ^ f.p = 2 * f.tails ∧ f.qmax - f.qmin + 3 = (f.exps : Int) ∧ 3 ≤ f.exps ∧ 0 < f.tails
theorem fg_fin {f : FP.Core.Fmt} (hf : fgH f) {s : Bool} {c : Nat} {q : Int} (hc : c < 2 ^ f.p) (hq : q ≤ f.qmax) : fgM f (FP.Core.encode f (.fin s c q)) < (f.exps - 1) * f.tails ∧ (0 < c → 0 < fgM f (FP.Core.encode f (.fin s c q))) := by
  obtain ⟨h1, h2, h3, h4⟩ := hf
  show fgM f (if c < f.tails then FP.Core.assemble f s 0 c else FP.Core.assemble f s ((q - f.qmin).toNat + 1) (c - f.tails)) < _ ∧ _
  have e1 : FP.Core.encode f (.fin s c q) = (if c < f.tails then FP.Core.assemble f s 0 c else FP.Core.assemble f s ((q - f.qmin).toNat + 1) (c - f.tails)) := rfl
  rw [e1]
  by_cases h : c < f.tails
  · rw [if_pos h, fg_asm (by omega) h, Nat.zero_mul, Nat.zero_add]
    have : 1 * f.tails ≤ (f.exps - 1) * f.tails := Nat.mul_le_mul_right _ (by omega)
    exact ⟨by omega, fun z => z⟩
  · rw [if_neg h, fg_asm (by omega) (by omega)]
    have : ((q - f.qmin).toNat + 1 + 1) * f.tails ≤ (f.exps - 1) * f.tails := Nat.mul_le_mul_right _ (by omega)
    rw [Nat.add_mul] at this
    refine ⟨by omega, fun _ => ?_⟩
    rw [Nat.add_mul]
    omega
theorem fg_inf {f : FP.Core.Fmt} (hf : fgH f) (s : Bool) : fgM f (FP.Core.encode f (.inf s)) = (f.exps - 1) * f.tails := by
  obtain ⟨h1, h2, h3, h4⟩ := hf
  show fgM f (FP.Core.assemble f s (f.exps - 1) 0) = _
  rw [fg_asm (by omega) h4, Nat.add_zero]
theorem fg_settle {f : FP.Core.Fmt} (hf : fgH f) (s : Bool) (c : Nat) (q : Int) : fgM f (FP.Core.encode f (FP.Core.settle f s c q)) ≤ (f.exps - 1) * f.tails := by
  have key : ∀ (c : Nat) (q : Int), c < 2 ^ f.p → fgM f (FP.Core.encode f (FP.Core.bound f s c q)) ≤ (f.exps - 1) * f.tails := by
    intro c q hc
    unfold FP.Core.bound
    by_cases h : q ≤ f.qmax
    · rw [if_pos h]; exact Nat.le_of_lt (fg_fin hf hc h).1
    · rw [if_neg h]; exact Nat.le_of_eq (fg_inf hf s)
  unfold FP.Core.settle
  by_cases h : c < 2 ^ f.p
  · rw [if_pos h]; exact key c q h
  · rw [if_neg h]; exact key f.tails (q + 1) (by rw [hf.1]; have := hf.2.2.2; omega)
theorem fg_ratio {f : FP.Core.Fmt} (hf : fgH f) (hq : f.qmin ≤ f.qmax) (s : Bool) (a b : Nat) (e : Int) : fgM f (FP.Core.encode f (FP.Core.roundRatio f s a b e)) ≤ (f.exps - 1) * f.tails := by
  unfold FP.Core.roundRatio
  by_cases h : a = 0
  · rw [if_pos h]; exact Nat.le_of_lt (fg_fin hf (by rw [hf.1]; have := hf.2.2.2; omega) hq).1
  · rw [if_neg h]; exact fg_settle hf _ _ _
theorem fg_split (f : FP.Core.Fmt) (n : Nat) : fgM f n = FP.Core.fieldT f n + f.tails * FP.Core.fieldE f n := by
  unfold fgM FP.Core.fieldT FP.Core.fieldE
  rw [Nat.mul_comm f.exps f.tails, Nat.mod_mul]
theorem fg_nn {f : FP.Core.Fmt} {n : Nat} (h : fgM f n ≤ (f.exps - 1) * f.tails) : FP.Core.decode f n ≠ .nan := by
  rw [fg_split, Nat.mul_comm] at h
  unfold FP.Core.decode
  by_cases h1 : FP.Core.fieldE f n = f.exps - 1
  · rw [if_pos h1]
    rw [h1, Nat.mul_comm] at h
    rw [if_pos (by omega)]
    intro z
    cases z
  · rw [if_neg h1]
    by_cases h2 : FP.Core.fieldE f n = 0
    · rw [if_pos h2]; intro z; cases z
    · rw [if_neg h2]; intro z; cases z
theorem fg_pos {f : FP.Core.Fmt} (h4 : 0 < f.tails) {n : Nat} (h : fgM f n < (f.exps - 1) * f.tails) (h0 : 0 < fgM f n) : ∃ s c q, FP.Core.decode f n = .fin s c q ∧ c ≠ 0 := by
  rw [fg_split] at h h0
  unfold FP.Core.decode
  by_cases h1 : FP.Core.fieldE f n = f.exps - 1
  · rw [h1, Nat.mul_comm] at h
    omega
  · rw [if_neg h1]
    by_cases h2 : FP.Core.fieldE f n = 0
    · rw [if_pos h2]
      rw [h2, Nat.mul_zero] at h0
      exact ⟨_, _, _, rfl, by omega⟩
    · rw [if_neg h2]
      exact ⟨_, _, _, rfl, by omega⟩
theorem fg_H32 : fgH FP.Core.b32 := by decide
theorem fg_H64 : fgH FP.Core.b64 := by decide +kernel
theorem fg_q32 : FP.Core.b32.qmin ≤ FP.Core.b32.qmax := by decide
theorem fg_q64 : FP.Core.b64.qmin ≤ FP.Core.b64.qmax := by decide
theorem fg_u32 (n : Nat) : fgM FP.Core.b32 (UInt32.ofNat n).toNat = fgM FP.Core.b32 n := by
  have e : FP.Core.b32.exps * FP.Core.b32.tails = 2147483648 := by decide
  unfold fgM
  rw [e, UInt32.toNat_ofNat']
  omega
theorem fg_u64 (n : Nat) : fgM FP.Core.b64 (UInt64.ofNat n).toNat = fgM FP.Core.b64 n := by
  have e : FP.Core.b64.exps * FP.Core.b64.tails = 9223372036854775808 := by decide +kernel
  unfold fgM
  rw [e, UInt64.toNat_ofNat']
  omega
theorem fg_n32 {r : UInt32} (h : fgM FP.Core.b32 r.toNat ≤ (FP.Core.b32.exps - 1) * FP.Core.b32.tails) : vf_n32 r := by
  have e : FP.Core.b32.exps * FP.Core.b32.tails = 2147483648 := by decide
  have e2 : (FP.Core.b32.exps - 1) * FP.Core.b32.tails = 2139095040 := by decide
  unfold fgM at h
  rw [e, e2] at h
  unfold vf_n32
  rw [UInt32.le_iff_toNat_le, UInt32.toNat_and]
  show r.toNat &&& (2 ^ 31 - 1) ≤ 2139095040
  rw [Nat.and_two_pow_sub_one_eq_mod]
  exact h
theorem fg_n64 {r : UInt64} (h : fgM FP.Core.b64 r.toNat ≤ (FP.Core.b64.exps - 1) * FP.Core.b64.tails) : vf_n64 r := by
  have e : FP.Core.b64.exps * FP.Core.b64.tails = 9223372036854775808 := by decide +kernel
  have e2 : (FP.Core.b64.exps - 1) * FP.Core.b64.tails = 9218868437227405312 := by decide +kernel
  unfold fgM at h
  rw [e, e2] at h
  unfold vf_n64
  rw [UInt64.le_iff_toNat_le, UInt64.toNat_and]
  show r.toNat &&& (2 ^ 63 - 1) ≤ 9218868437227405312
  rw [Nat.and_two_pow_sub_one_eq_mod]
  exact h
theorem fg_l2f (x : Int64) : fgM FP.Core.b32 (FP.l2f x).toNat ≤ (FP.Core.b32.exps - 1) * FP.Core.b32.tails := by
  show fgM FP.Core.b32 (UInt32.ofNat (FP.Core.encode FP.Core.b32 (FP.Core.roundRatio FP.Core.b32 _ _ _ _))).toNat ≤ _
  rw [fg_u32]
  exact fg_ratio fg_H32 fg_q32 _ _ _ _
theorem fg_lead {n : Nat} (h : n ≠ 0) : FP.Core.leading n 1 = (n.log2 : Int) := by
  have e1 : (1 : Nat).log2 = 0 := by decide
  unfold FP.Core.leading
  rw [e1]
  simp only [Int.sub_zero, Int.natCast_zero, Int.ofNat_eq_natCast]
  rw [if_pos]
  have := Nat.log2_self_le h
  simp only [Int.toNat_natCast, Nat.one_mul]
  rw [show (-(n.log2 : Int)).toNat = 0 from by omega, Nat.pow_zero, Nat.mul_one]
  exact this
theorem fg_near1 (a : Nat) : FP.Core.nearest a 1 = a := by
  unfold FP.Core.nearest
  rw [Nat.mod_one, if_pos (by omega), Nat.div_one]
theorem fg_near {a b : Nat} : a / b ≤ FP.Core.nearest a b := by
  unfold FP.Core.nearest
  split
  · exact Nat.le_refl _
  · split <;> omega
theorem fg_l2p {x : Int64} (hx : x ≠ 0) : ∃ s c q, FP.Core.decode FP.Core.b32 (FP.l2f x).toNat = .fin s c q ∧ c ≠ 0 := by
  have h0 : x.toInt ≠ 0 := fun h => hx (Int64.toInt_inj.mp (by rw [h]; rfl))
  have h1 := x.toInt_lt
  have h2 := x.le_toInt
  obtain ⟨n, hn⟩ : ∃ n, n = x.toInt.natAbs := ⟨_, rfl⟩
  have hn0 : n ≠ 0 := by omega
  have hn1 : n ≤ 2 ^ 63 := by omega
  have hlog : n.log2 < 64 := (Nat.log2_lt hn0).mpr (by omega)
  have e1 : FP.Core.encode FP.Core.b32 (FP.Core.round FP.Core.b32 (FP.Core.ofInt x.toInt)) = FP.Core.encode FP.Core.b32 (FP.Core.settle FP.Core.b32 (decide (x.toInt < 0)) (FP.Core.nearest (FP.Core.unitsNum n 0 (FP.Core.quantum FP.Core.b32 n 1 0)) (FP.Core.unitsDen 1 0 (FP.Core.quantum FP.Core.b32 n 1 0))) (FP.Core.quantum FP.Core.b32 n 1 0)) := by
    show FP.Core.encode FP.Core.b32 (FP.Core.roundRatio FP.Core.b32 (decide (x.toInt < 0)) x.toInt.natAbs 1 0) = _
    rw [← hn]
    unfold FP.Core.roundRatio
    rw [if_neg hn0]
    rfl
  have eq : FP.Core.quantum FP.Core.b32 n 1 0 = (n.log2 : Int) - 23 := by
    unfold FP.Core.quantum
    rw [fg_lead hn0]
    have e2 : FP.Core.b32.qmin = -149 := by decide
    have e3 : (FP.Core.b32.p : Int) = 24 := by decide
    rw [e2, e3]
    omega
  have eM : FP.Core.b32.qmax = 104 := by decide
  have ep : 2 ^ FP.Core.b32.p = 16777216 := by decide
  have et : FP.Core.b32.tails = 8388608 := by decide
  have hc : 0 < FP.Core.nearest (FP.Core.unitsNum n 0 (FP.Core.quantum FP.Core.b32 n 1 0)) (FP.Core.unitsDen 1 0 (FP.Core.quantum FP.Core.b32 n 1 0)) := by
    rw [eq]
    unfold FP.Core.unitsNum FP.Core.unitsDen
    by_cases hl : n.log2 ≤ 23
    · rw [show ((n.log2 : Int) - 23 - 0).toNat = 0 from by omega, Nat.pow_zero, Nat.mul_one, fg_near1]
      exact Nat.mul_pos (by omega) (Nat.pow_pos (by omega))
    · rw [show (0 - ((n.log2 : Int) - 23)).toNat = 0 from by omega, Nat.pow_zero, Nat.mul_one, Nat.one_mul, show ((n.log2 : Int) - 23 - 0).toNat = n.log2 - 23 from by omega]
      refine Nat.lt_of_lt_of_le ?_ fg_near
      refine Nat.div_pos ?_ (Nat.pow_pos (by omega))
      exact Nat.le_trans (Nat.pow_le_pow_right (by omega) (by omega)) (Nat.log2_self_le hn0)
  show ∃ s c q, FP.Core.decode FP.Core.b32 (UInt32.ofNat (FP.Core.encode FP.Core.b32 (FP.Core.round FP.Core.b32 (FP.Core.ofInt x.toInt)))).toNat = .fin s c q ∧ c ≠ 0
  rw [e1]
  generalize FP.Core.nearest (FP.Core.unitsNum n 0 (FP.Core.quantum FP.Core.b32 n 1 0)) (FP.Core.unitsDen 1 0 (FP.Core.quantum FP.Core.b32 n 1 0)) = cc at hc ⊢
  rw [eq]
  unfold FP.Core.settle FP.Core.bound
  rw [eM]
  have key : ∀ (c2 : Nat) (q2 : Int), c2 < 2 ^ FP.Core.b32.p → q2 ≤ 104 → 0 < c2 → ∃ s c q, FP.Core.decode FP.Core.b32 (UInt32.ofNat (FP.Core.encode FP.Core.b32 (.fin (decide (x.toInt < 0)) c2 q2))).toNat = .fin s c q ∧ c ≠ 0 := by
    intro c2 q2 a b d
    have g := fg_fin fg_H32 (s := decide (x.toInt < 0)) a (by rw [eM]; exact b)
    exact fg_pos (by rw [et]; omega) (by rw [fg_u32]; exact g.1) (by rw [fg_u32]; exact g.2 d)
  by_cases hcc : cc < 2 ^ FP.Core.b32.p
  · rw [if_pos hcc, if_pos (by omega)]
    exact key cc _ hcc (by omega) hc
  · rw [if_neg hcc, if_pos (by omega)]
    exact key _ _ (by rw [ep, et]; omega) (by omega) (by rw [et]; omega)
theorem fg_div {x y : Int64} (hy : y ≠ 0) : fgM FP.Core.b32 (FP.fdiv (FP.l2f x) (FP.l2f y)).toNat ≤ (FP.Core.b32.exps - 1) * FP.Core.b32.tails := by
  show fgM FP.Core.b32 (UInt32.ofNat (FP.Core.encode FP.Core.b32 (FP.Core.quotient FP.Core.b32 (FP.Core.decode FP.Core.b32 (FP.l2f x).toNat) (FP.Core.decode FP.Core.b32 (FP.l2f y).toNat)))).toNat ≤ _
  rw [fg_u32]
  obtain ⟨s, c, q, e, hc⟩ := fg_l2p hy
  rw [e]
  have hn := fg_nn (fg_l2f x)
  cases hd : FP.Core.decode FP.Core.b32 (FP.l2f x).toNat with
  | nan => exact absurd hd hn
  | inf t => exact Nat.le_of_eq (fg_inf fg_H32 _)
  | fin t d r =>
    show fgM FP.Core.b32 (FP.Core.encode FP.Core.b32 (if c = 0 then (if d = 0 then .nan else .inf (t != s)) else FP.Core.roundRatio FP.Core.b32 (t != s) d c (r - q))) ≤ _
    rw [if_neg hc]
    exact fg_ratio fg_H32 fg_q32 _ _ _ _
/-- the answer of kept -/
def kpL (a b : Int64) : UInt32 := if a = 0 then FP.fconst0 else FP.fdiv (FP.l2f (a - b)) (FP.l2f a)
theorem kp_M (a b : Int64) : fgM FP.Core.b32 (kpL a b).toNat ≤ (FP.Core.b32.exps - 1) * FP.Core.b32.tails := by
  unfold kpL
  by_cases h : a = 0
  · rw [if_pos h]; decide
  · rw [if_neg h]; exact fg_div h
theorem kp_d (a b : Int64) : fgM FP.Core.b64 (FP.f2d (kpL a b)).toNat ≤ (FP.Core.b64.exps - 1) * FP.Core.b64.tails := by
  have h1 := fg_nn (kp_M a b)
  have h2 : FP.Core.fIsNaN (kpL a b) = false := by
    show decide (FP.Core.decode FP.Core.b32 (kpL a b).toNat = .nan) = false
    exact decide_eq_false h1
  unfold FP.f2d
  rw [h2]
  show fgM FP.Core.b64 (UInt64.ofNat (FP.Core.encode FP.Core.b64 (FP.Core.round FP.Core.b64 (FP.Core.decode FP.Core.b32 (kpL a b).toNat)))).toNat ≤ _
  rw [fg_u64]
  cases hd : FP.Core.decode FP.Core.b32 (kpL a b).toNat with
  | nan => exact absurd hd h1
  | inf t => exact Nat.le_of_eq (fg_inf fg_H64 _)
  | fin t d r => exact fg_ratio fg_H64 fg_q64 _ _ _ _
theorem kp_n (a b : Int64) : vf_n64 (FP.f2d (kpL a b)) := fg_n64 (kp_d a b)
theorem fg_cmp (x : Int) : compare x x = Ordering.eq := by
  show compareOfLessAndEq x x = _
  unfold compareOfLessAndEq
  rw [if_neg (Int.lt_irrefl _), if_pos rfl]
theorem kp_c (a b : Int64) : FP.dcmp (FP.f2d (kpL a b)) (FP.f2d (kpL a b)) = some .eq := by
  have h := fg_nn (kp_d a b)
  show FP.Core.order (FP.Core.decode FP.Core.b64 _) (FP.Core.decode FP.Core.b64 _) = some .eq
  cases hd : FP.Core.decode FP.Core.b64 (FP.f2d (kpL a b)).toNat with
  | nan => exact absurd hd h
  | inf t =>
    show some (compare (FP.Core.signed t 1) (FP.Core.signed t 1)) = _
    rw [fg_cmp]
  | fin t d r =>
    show some (compare _ _) = _
    rw [fg_cmp]
section HK
variable {p : Program} {l : Launch} {e : Env} {R : Room} {s : State} {m : MethodId} {args : Array Value} {below : List Frame} {meth : Method} {c : Code} {H : Heap} {locs : List Loc} {cells slots : Nat} {Q : State → Prop} {cc : ByteArray} {pc : Nat} {ls : Array Slot} {rest : List Value}
theorem hz_lcmp (hexec : p.tables.exec = Jvm.exec) (hb : c.code = cc) {x y : Int64} (hdg : decode cc pc = .ok (.lcmp, 1)) (kk : ∀ v : Int32, (v = 0 ↔ x = y) → W p l e R s m args below meth c H locs cells slots Q (F0 m (pc + 1) ls (.int v :: rest))) : W p l e R s m args below meth c H locs cells slots Q (F0 m pc ls (.long y :: .long x :: rest)) := by
  intro T hT X
  by_cases h1 : y < x
  · have h3 : ¬ x = y := fun z => by rw [z] at h1; exact Int64.lt_irrefl h1
    obtain ⟨t, a, b⟩ := kk 1 ⟨fun z => absurd z (by decide), fun z => absurd z h3⟩ T hT X
    refine ⟨t, ?_, b⟩
    jvm_step X.here [X.here.top, hexec, hb, hdg, h1]
    exact a
  · by_cases h2 : x = y
    · obtain ⟨t, a, b⟩ := kk 0 ⟨fun _ => h2, fun _ => rfl⟩ T hT X
      refine ⟨t, ?_, b⟩
      subst h2
      jvm_step X.here [X.here.top, hexec, hb, hdg, h1]
      exact a
    · obtain ⟨t, a, b⟩ := kk (-1) ⟨fun z => absurd z (by decide), fun z => absurd z h2⟩ T hT X
      refine ⟨t, ?_, b⟩
      jvm_step X.here [X.here.top, hexec, hb, hdg, h1, h2]
      exact a
end HK
abbrev Q_X7_kept (G : va_G) (ah : Nat → Nat) (z : LZ) (y : Nat → ClassId) (vN vC vNow vHaze vCold vHot vPipe vDeg vThaw vTrc vTurb vLeft vLoad vWater vTrips vMi1 vMi2 vSz vBs : Int) (vCell vDirt vAim vErr vCor vBrk vTop vLm vRows vCols vDown vRight vBound vStrain vPrice vFirm vSums vTk vFl1 vFl2 vTe vAw vRo vBe : Int → Int) (A : Nat → Prop) : Array Value → State → Outcome → State → Prop := va_Qf (fun (r : UInt32) (u : Unit) => r = (kpL (zL (vSums 3)) (zL (vSums 4))) ∧ True) (fun u t => va_P G vwCl (hW ah z y vN vC vNow vHaze vCold vHot vPipe vDeg vThaw vTrc vTurb vLeft vLoad vWater vTrips vMi1 vMi2 vSz vBs vCell vDirt vAim vErr vCor vBrk vTop vLm vRows vCols vDown vRight vBound vStrain vPrice vFirm vSums vTk vFl1 vFl2 vTe vAw vRo vBe) t.heap) A
set_option maxHeartbeats 4000000 in
set_option maxRecDepth 100000 in
theorem c_X7_kept (l : Launch) (G : va_G) (ah : Nat → Nat) (z : LZ) (zE : Nat) (y : Nat → ClassId) (sz : Nat) (vN vC vNow vHaze vCold vHot vPipe vDeg vThaw vTrc vTurb vLeft vLoad vWater vTrips vMi1 vMi2 vSz vBs : Int) (vCell vDirt vAim vErr vCor vBrk vTop vLm vRows vCols vDown vRight vBound vStrain vPrice vFirm vSums vTk vFl1 vFl2 vTe vAw vRo vBe : Int → Int)   : Met l yX7_kept wsX7_kept ({ frames := 0, cells := 0, slots := 0, locals := 0 }) (va_Pc [.ref (ah 0)] (HPreG zE G (tyL y) (hW ah z y vN vC vNow vHaze vCold vHot vPipe vDeg vThaw vTrc vTurb vLeft vLoad vWater vTrips vMi1 vMi2 vSz vBs vCell vDirt vAim vErr vCor vBrk vTop vLm vRows vCols vDown vRight vBound vStrain vPrice vFirm vSums vTk vFl1 vFl2 vTe vAw vRo vBe) sz)) (Q_X7_kept G ah z y vN vC vNow vHaze vCold vHot vPipe vDeg vThaw vTrc vTurb vLeft vLoad vWater vTrips vMi1 vMi2 vSz vBs vCell vDirt vAim vErr vCor vBrk vTop vLm vRows vCols vDown vRight vBound vStrain vPrice vFirm vSums vTk vFl1 vFl2 vTe vAw vRo vBe (va_A (hW ah z y vN vC vNow vHaze vCold vHot vPipe vDeg vThaw vTrc vTurb vLeft vLoad vWater vTrips vMi1 vMi2 vSz vBs vCell vDirt vAim vErr vCor vBrk vTop vLm vRows vCols vDown vRight vBound vStrain vPrice vFirm vSums vTk vFl1 vFl2 vTe vAw vRo vBe) sz)) 0 0 (va_A (hW ah z y vN vC vNow vHaze vCold vHot vPipe vDeg vThaw vTrc vTurb vLeft vLoad vWater vTrips vMi1 vMi2 vSz vBs vCell vDirt vAim vErr vCor vBrk vTop vLm vRows vCols vDown vRight vBound vStrain vPrice vFirm vSums vTk vFl1 vFl2 vTe vAw vRo vBe) sz) := by
  refine hz_ofWG (Qf := Q_X7_kept G ah z y vN vC vNow vHaze vCold vHot vPipe vDeg vThaw vTrc vTurb vLeft vLoad vWater vTrips vMi1 vMi2 vSz vBs vCell vDirt vAim vErr vCor vBrk vTop vLm vRows vCols vDown vRight vBound vStrain vPrice vFirm vSums vTk vFl1 vFl2 vTe vAw vRo vBe) (cc := cX7_kept) (maxL := 1) (ret := (some .float)) (by decide) rfl (Nat.le_of_ble_eq_true rfl) ?_
  intro p e s m below meth c A ls hx hb hr hts hown hin hlocks hml hP hK hA hD hS hGP hl
  have hown : s.vm.findClass RX7 = some m.cls := hown
  have hl : lv_has ls 1 [(0, .ref (ah 0))] := hl
  have hinwsX70 : ∀ w ∈ wsX70, w ∈ wsX7_kept := fun _ h => List.mem_cons_of_mem _ (List.mem_append_right _ (h))
  refine lv_aload_n hx hb dX7_kept_0 rfl (lv_at hl 0 rfl) ?_
  refine va_get (D := G) (ci := 8) (v := .ref (ah 18)) (C := RX7) (T := TX7) (N := 14) hx hb hts hinwsX70 hown hK hP 0 rfl rfl 13 (by decide) (hts (.fieldLink RX7 61 "Heliokeep" "sums" "[J") (List.mem_of_getElem? (i := 1) rfl)) (fun _ h9 => h9) rfl dX7_kept_1 ?_
  refine hz_iconst hx hb dX7_kept_4 ?_
  refine hz_lald (f := vSums) hx hb hK hP 18 1 rfl rfl (Nat.le_of_ble_eq_true rfl) (by omega) dX7_kept_5 ?_
  refine hz_lconst (n := 0) hx hb dX7_kept_6 (by decide) ?_
  refine hz_lcmp hx hb dX7_kept_7 (fun v hv => ?_)
  refine lv_if_ne (tgt := 13) hx hb dX7_kept_8 (by decide) (fun c1 => ?_) (fun c1 => ?_)
  · have hk : ¬ zL (vSums 3) = 0 := fun z => c1 (hv.mpr z)
    refine lv_aload_n hx hb dX7_kept_13 rfl (lv_at hl 0 rfl) ?_
    refine va_get (D := G) (ci := 8) (v := .ref (ah 18)) (C := RX7) (T := TX7) (N := 14) hx hb hts hinwsX70 hown hK hP 0 rfl rfl 13 (by decide) (hts (.fieldLink RX7 61 "Heliokeep" "sums" "[J") (List.mem_of_getElem? (i := 1) rfl)) (fun _ h9 => h9) rfl dX7_kept_14 ?_
    refine hz_iconst hx hb dX7_kept_17 ?_
    refine hz_lald (f := vSums) hx hb hK hP 18 1 rfl rfl (Nat.le_of_ble_eq_true rfl) (by omega) dX7_kept_18 ?_
    refine lv_aload_n hx hb dX7_kept_19 rfl (lv_at hl 0 rfl) ?_
    refine va_get (D := G) (ci := 8) (v := .ref (ah 18)) (C := RX7) (T := TX7) (N := 14) hx hb hts hinwsX70 hown hK hP 0 rfl rfl 13 (by decide) (hts (.fieldLink RX7 61 "Heliokeep" "sums" "[J") (List.mem_of_getElem? (i := 1) rfl)) (fun _ h9 => h9) rfl dX7_kept_20 ?_
    refine hz_iconst hx hb dX7_kept_23 ?_
    refine hz_lald (f := vSums) hx hb hK hP 18 1 rfl rfl (Nat.le_of_ble_eq_true rfl) (by omega) dX7_kept_24 ?_
    refine hz_lsub hx hb dX7_kept_25 ?_
    refine lv_l2f hx hb dX7_kept_26 ?_
    refine lv_aload_n hx hb dX7_kept_27 rfl (lv_at hl 0 rfl) ?_
    refine va_get (D := G) (ci := 8) (v := .ref (ah 18)) (C := RX7) (T := TX7) (N := 14) hx hb hts hinwsX70 hown hK hP 0 rfl rfl 13 (by decide) (hts (.fieldLink RX7 61 "Heliokeep" "sums" "[J") (List.mem_of_getElem? (i := 1) rfl)) (fun _ h9 => h9) rfl dX7_kept_28 ?_
    refine hz_iconst hx hb dX7_kept_31 ?_
    refine hz_lald (f := vSums) hx hb hK hP 18 1 rfl rfl (Nat.le_of_ble_eq_true rfl) (by omega) dX7_kept_32 ?_
    refine lv_l2f hx hb dX7_kept_33 ?_
    refine lv_fdiv hx hb dX7_kept_34 (fg_n32 (fg_div hk)) ?_
    exact W.fret (v := FP.fdiv (FP.l2f (zL ((vSums 3) - (vSums 4)))) (FP.l2f (zL (vSums 3)))) hx hb hr (fun t ht hW => ⟨⟨FP.fdiv (FP.l2f (zL ((vSums 3) - (vSums 4)))) (FP.l2f (zL (vSums 3))), (), rfl, ⟨by unfold kpL; rw [if_neg hk, zL_sub], trivial⟩, hz_at hP ht⟩, hS.F ht⟩) hS.2.2 dX7_kept_35
  · have hk : zL (vSums 3) = 0 := hv.mp c1
    refine lv_fconst0 hx hb dX7_kept_11 ?_
    exact W.fret (v := FP.fconst0) hx hb hr (fun t ht hW => ⟨⟨FP.fconst0, (), rfl, ⟨by unfold kpL; rw [if_pos hk], trivial⟩, hz_at hP ht⟩, hS.F ht⟩) hS.2.2 dX7_kept_12
