/-! the class: its state -/
abbrev LZ : Type := Int32 × Bool × Nat × Nat × (Nat → Option Nat) × (Nat → Nat) × Int32 × Bool × Nat × Nat × (Nat → Option Nat) × (Nat → Nat)
def zam (z : LZ) (k : Int) : Nat := z.2.2.2.2.2.1 k.toNat
def zac (z : LZ) (k : Int) : Nat := z.2.2.2.2.2.2.2.2.2.2.2 k.toNat
def leW (b : Bool) (e : Nat) (cO : ClassId) (cap : Nat) (f : Nat → Option Nat) : va_W := if b = true then [(e, .inl (cO, cap, .inr (.inr (.inr (.inr f)))))] else []
def miE (c d a e o b : Int) : va_E := .inr (5, [zi c, zi (c / 8), zi (c % 8), zi d, zi a, zi e, zi o, zi b])
def clE (t l r c d g : Int) : va_E := .inr (2, [zi t, zi l, zi r, zi c, zi d, zi g])
def mpW (z : LZ) (n : Nat) (cell dirt aim err cor brk : Int → Int) : va_W := (List.range n).map (fun k : Nat => (zam z k, miE (cell k) (dirt k) (aim k) (err k) (cor k) (brk k)))
def cpW (z : LZ) (n : Nat) (top lm rows cols down right : Int → Int) : va_W := (List.range n).map (fun k : Nat => (zac z k, clE (top k) (lm k) (rows k) (cols k) (down k) (right k)))
def plW (z : LZ) (y : Nat → ClassId) (n cl : Int) (cell dirt aim err cor brk top lm rows cols down right : Int → Int) : va_W := leW z.2.1 z.2.2.1 (y 3) z.2.2.2.1 z.2.2.2.2.1 ++ (leW z.2.2.2.2.2.2.2.1 z.2.2.2.2.2.2.2.2.1 (y 3) z.2.2.2.2.2.2.2.2.2.1 z.2.2.2.2.2.2.2.2.2.2.1 ++ (mpW z n.toNat cell dirt aim err cor brk ++ cpW z cl.toNat top lm rows cols down right))
def LZok (z : LZ) (n cl : Int) : Prop := ((z.2.1 = true ∨ n = 0) ∧ (n ≤ z.2.2.2.1 ∧ z.2.2.2.1 ≤ 1000) ∧ ∀ k : Int, 0 ≤ k → k < n → z.2.2.2.2.1 k.toNat = some (zam z k)) ∧ (z.2.2.2.2.2.2.2.1 = true ∨ cl = 0) ∧ (cl ≤ z.2.2.2.2.2.2.2.2.2.1 ∧ z.2.2.2.2.2.2.2.2.2.1 ≤ 1000) ∧ ∀ k : Int, 0 ≤ k → k < cl → z.2.2.2.2.2.2.2.2.2.2.1 k.toNat = some (zac z k)
theorem rg_at {α : Type} {g : Nat → α} {n k : Nat} (h : k < n) : ((List.range n).map g)[k]? = some (g k) := by
  rw [List.getElem?_map, List.getElem?_range h]
  rfl
theorem rg_set {α : Type} {g g' : Nat → α} {n k : Nat} {x : α} (hk : k < n) (h : g' k = x) (h2 : ∀ j, j ≠ k → g' j = g j) : ((List.range n).map g).set k x = (List.range n).map g' := by
  refine List.ext_getElem? fun j => ?_
  by_cases e : k = j
  · subst e
    rw [List.getElem?_set_self (by simpa using hk), rg_at hk, h]
  · rw [List.getElem?_set_ne e, List.getElem?_map, List.getElem?_map]
    rcases Nat.lt_or_ge j n with q | q
    · rw [List.getElem?_range q]
      show some (g j) = some (g' j)
      rw [h2 j (fun z => e z.symm)]
    · rw [List.getElem?_eq_none (by simpa using q)]
      rfl
theorem ap_at {α : Type} {A M B : List α} {k : Nat} {x : α} (h : M[k]? = some x) : (A ++ (M ++ B))[A.length + k]? = some x := by
  rw [List.getElem?_append_right (by omega), show A.length + k - A.length = k from by omega, List.getElem?_append_left (List.getElem?_eq_some_iff.mp h).1]
  exact h
theorem ap_set {α : Type} {A M M' B : List α} {k : Nat} {x : α} (hk : k < M.length) (h : M.set k x = M') : (A ++ (M ++ B)).set (A.length + k) x = A ++ (M' ++ B) := by
  rw [List.set_append_right _ _ (by omega), show A.length + k - A.length = k from by omega, List.set_append_left _ _ hk, h]
theorem upN_s {f : Int → Int} {k : Int} {v : Int} (h : 0 ≤ k) : upZ f k v ((k.toNat : Nat) : Int) = v := upZ_s (tN_c h)
theorem upN_n {f : Int → Int} {k : Int} {v : Int} {j : Nat} (h : 0 ≤ k) (hj : j ≠ k.toNat) : upZ f k v (j : Int) = f j := upZ_n (fun e => hj (by omega))
def hW (ah : Nat → Nat) (z : LZ) (y : Nat → ClassId) (vN vC vNow vHaze vCold vHot vPipe vDeg vThaw vTrc vTurb vLeft vLoad vWater vTrips vMi1 vMi2 vSz vBs : Int) (vCell vDirt vAim vErr vCor vBrk vTop vLm vRows vCols vDown vRight vBound vStrain vPrice vFirm vSums vTk vFl1 vFl2 vTe vAw vRo vBe : Int → Int) : va_W := [(ah 0, .inr (8, [.ref (ah 1), .ref (ah 2), .ref (ah 3), .ref (ah 7), .ref (ah 8), zi vTrips, zi vCold, zi vHot, .ref (ah 5), .ref (ah 6), zi vWater, .ref (ah 9), .ref (ah 10), .ref (ah 18)])), (ah 1, .inr (3, [.ref (ah 19), .ref (ah 20), .ref (ah 11), zi vNow, zi vHaze])), (ah 2, .inr (4, [.ref (ah 12), zi vMi1])), (ah 3, .inr (1, [.ref (ah 4), .ref (ah 14), .ref (ah 15), .ref (ah 16), .ref (ah 17), zi vSz, zi vBs])), (ah 4, .inr (4, [.ref (ah 13), zi vMi2])), (ah 5, .inr (6, [zi vPipe, zi vDeg, zi vTrc, zi vThaw])), (ah 6, .inr (7, [zi vTurb, zi vLoad, zi vLeft])), (ah 7, .inl (y 0, 6, .inl (IA vBound))), (ah 8, .inl (y 0, 6, .inl (IA vStrain))), (ah 9, .inl (y 0, 24, .inl (IA vPrice))), (ah 10, .inl (y 0, 24, .inl (IA vFirm))), (ah 11, .inl (y 2, 64, .inl (IA vTk))), (ah 12, .inl (y 0, 6, .inl (IA vFl1))), (ah 13, .inl (y 0, 6, .inl (IA vFl2))), (ah 14, .inl (y 0, 4, .inl (IA vTe))), (ah 15, .inl (y 0, 4, .inl (IA vAw))), (ah 16, .inl (y 0, 4, .inl (IA vRo))), (ah 17, .inl (y 0, 4, .inl (IA vBe))), (ah 18, .inl (y 1, 13, .inr (.inl (LA vSums)))), (ah 19, .inr (0, [.int z.1, .ref z.2.2.1, zi vN])), (ah 20, .inr (0, [.int z.2.2.2.2.2.2.1, .ref z.2.2.2.2.2.2.2.2.1, zi vC]))] ++ plW z y vN vC vCell vDirt vAim vErr vCor vBrk vTop vLm vRows vCols vDown vRight
def lW (l0 : Nat) (l1 : Nat) (y : Nat → ClassId) (xM : Int) (xF : Int → Int) : va_W := [(l0, .inr (4, [.ref (l1), zi xM])), (l1, .inl (y 0, 6, .inl (IA xF)))]
def lbW (l0 : Nat) (l1 : Nat) (b0 : Nat) (y : Nat → ClassId) (xM : Int) (xF xB : Int → Int) : va_W := [(l0, .inr (4, [.ref (l1), zi xM])), (l1, .inl (y 0, 6, .inl (IA xF))), (b0, .inl (y 0, 6, .inl (IA xB)))]
def miW (m0 : Nat) (y : Nat → ClassId) (xC xR xK xD xA xE xO xB : Int) : va_W := [(m0, .inr (5, [zi xC, zi xR, zi xK, zi xD, zi xA, zi xE, zi xO, zi xB]))]
def clW (c0 : Nat) (y : Nat → ClassId) (xT xL xR xC xD xG : Int) : va_W := [(c0, .inr (2, [zi xT, zi xL, zi xR, zi xC, zi xD, zi xG]))]
def cmW (c0 : Nat) (m0 : Nat) (y : Nat → ClassId) (xT xL xRs xCs xDn xG xC xR xK xD xA xE xO xB : Int) : va_W := [(c0, .inr (2, [zi xT, zi xL, zi xRs, zi xCs, zi xDn, zi xG])), (m0, .inr (5, [zi xC, zi xR, zi xK, zi xD, zi xA, zi xE, zi xO, zi xB]))]
def ppW (p0 : Nat) (y : Nat → ClassId) (xP xG xT xW : Int) : va_W := [(p0, .inr (6, [zi xP, zi xG, zi xT, zi xW]))]
def tbW (t0 : Nat) (y : Nat → ClassId) (xB xL xF : Int) : va_W := [(t0, .inr (7, [zi xB, zi xL, zi xF]))]
def seW (s0 : Nat) (s1 : Nat) (s2 : Nat) (s3 : Nat) (s4 : Nat) (s5 : Nat) (s6 : Nat) (y : Nat → ClassId) (xS xT xM : Int) (xF xTe xAw xRo xBe : Int → Int) : va_W := [(s0, .inr (1, [.ref (s1), .ref (s3), .ref (s4), .ref (s5), .ref (s6), zi xS, zi xT])), (s1, .inr (4, [.ref (s2), zi xM])), (s2, .inl (y 0, 6, .inl (IA xF))), (s3, .inl (y 0, 4, .inl (IA xTe))), (s4, .inl (y 0, 4, .inl (IA xAw))), (s5, .inl (y 0, 4, .inl (IA xRo))), (s6, .inl (y 0, 4, .inl (IA xBe)))]
def sbW (s0 : Nat) (s1 : Nat) (s2 : Nat) (s3 : Nat) (s4 : Nat) (s5 : Nat) (s6 : Nat) (b0 : Nat) (y : Nat → ClassId) (xS xT xM : Int) (xF xTe xAw xRo xBe xB : Int → Int) : va_W := [(s0, .inr (1, [.ref (s1), .ref (s3), .ref (s4), .ref (s5), .ref (s6), zi xS, zi xT])), (s1, .inr (4, [.ref (s2), zi xM])), (s2, .inl (y 0, 6, .inl (IA xF))), (s3, .inl (y 0, 4, .inl (IA xTe))), (s4, .inl (y 0, 4, .inl (IA xAw))), (s5, .inl (y 0, 4, .inl (IA xRo))), (s6, .inl (y 0, 4, .inl (IA xBe))), (b0, .inl (y 0, 6, .inl (IA xB)))]
theorem hW_m {ah : Nat → Nat} {z : LZ} {y : Nat → ClassId} {vN vC vNow vHaze vCold vHot vPipe vDeg vThaw vTrc vTurb vLeft vLoad vWater vTrips vMi1 vMi2 vSz vBs : Int} {vCell vDirt vAim vErr vCor vBrk vTop vLm vRows vCols vDown vRight vBound vStrain vPrice vFirm vSums vTk vFl1 vFl2 vTe vAw vRo vBe : Int → Int} {k : Int} (h0 : 0 ≤ k) (h1 : k < vN) : ∃ i : Nat, (hW ah z y vN vC vNow vHaze vCold vHot vPipe vDeg vThaw vTrc vTurb vLeft vLoad vWater vTrips vMi1 vMi2 vSz vBs vCell vDirt vAim vErr vCor vBrk vTop vLm vRows vCols vDown vRight vBound vStrain vPrice vFirm vSums vTk vFl1 vFl2 vTe vAw vRo vBe)[i]? = some (zam z k, miE (vCell k) (vDirt k) (vAim k) (vErr k) (vCor k) (vBrk k)) ∧ (∀ v : Int, (hW ah z y vN vC vNow vHaze vCold vHot vPipe vDeg vThaw vTrc vTurb vLeft vLoad vWater vTrips vMi1 vMi2 vSz vBs vCell vDirt vAim vErr vCor vBrk vTop vLm vRows vCols vDown vRight vBound vStrain vPrice vFirm vSums vTk vFl1 vFl2 vTe vAw vRo vBe).set i (zam z k, miE (vCell k) (v) (vAim k) (vErr k) (vCor k) (vBrk k)) = (hW ah z y vN vC vNow vHaze vCold vHot vPipe vDeg vThaw vTrc vTurb vLeft vLoad vWater vTrips vMi1 vMi2 vSz vBs vCell (upZ vDirt k v) vAim vErr vCor vBrk vTop vLm vRows vCols vDown vRight vBound vStrain vPrice vFirm vSums vTk vFl1 vFl2 vTe vAw vRo vBe)) ∧ (∀ v : Int, (hW ah z y vN vC vNow vHaze vCold vHot vPipe vDeg vThaw vTrc vTurb vLeft vLoad vWater vTrips vMi1 vMi2 vSz vBs vCell vDirt vAim vErr vCor vBrk vTop vLm vRows vCols vDown vRight vBound vStrain vPrice vFirm vSums vTk vFl1 vFl2 vTe vAw vRo vBe).set i (zam z k, miE (vCell k) (vDirt k) (v) (vErr k) (vCor k) (vBrk k)) = (hW ah z y vN vC vNow vHaze vCold vHot vPipe vDeg vThaw vTrc vTurb vLeft vLoad vWater vTrips vMi1 vMi2 vSz vBs vCell vDirt (upZ vAim k v) vErr vCor vBrk vTop vLm vRows vCols vDown vRight vBound vStrain vPrice vFirm vSums vTk vFl1 vFl2 vTe vAw vRo vBe)) ∧ (∀ v : Int, (hW ah z y vN vC vNow vHaze vCold vHot vPipe vDeg vThaw vTrc vTurb vLeft vLoad vWater vTrips vMi1 vMi2 vSz vBs vCell vDirt vAim vErr vCor vBrk vTop vLm vRows vCols vDown vRight vBound vStrain vPrice vFirm vSums vTk vFl1 vFl2 vTe vAw vRo vBe).set i (zam z k, miE (vCell k) (vDirt k) (vAim k) (v) (vCor k) (vBrk k)) = (hW ah z y vN vC vNow vHaze vCold vHot vPipe vDeg vThaw vTrc vTurb vLeft vLoad vWater vTrips vMi1 vMi2 vSz vBs vCell vDirt vAim (upZ vErr k v) vCor vBrk vTop vLm vRows vCols vDown vRight vBound vStrain vPrice vFirm vSums vTk vFl1 vFl2 vTe vAw vRo vBe)) ∧ (∀ v : Int, (hW ah z y vN vC vNow vHaze vCold vHot vPipe vDeg vThaw vTrc vTurb vLeft vLoad vWater vTrips vMi1 vMi2 vSz vBs vCell vDirt vAim vErr vCor vBrk vTop vLm vRows vCols vDown vRight vBound vStrain vPrice vFirm vSums vTk vFl1 vFl2 vTe vAw vRo vBe).set i (zam z k, miE (vCell k) (vDirt k) (vAim k) (vErr k) (v) (vBrk k)) = (hW ah z y vN vC vNow vHaze vCold vHot vPipe vDeg vThaw vTrc vTurb vLeft vLoad vWater vTrips vMi1 vMi2 vSz vBs vCell vDirt vAim vErr (upZ vCor k v) vBrk vTop vLm vRows vCols vDown vRight vBound vStrain vPrice vFirm vSums vTk vFl1 vFl2 vTe vAw vRo vBe)) ∧ (∀ v : Int, (hW ah z y vN vC vNow vHaze vCold vHot vPipe vDeg vThaw vTrc vTurb vLeft vLoad vWater vTrips vMi1 vMi2 vSz vBs vCell vDirt vAim vErr vCor vBrk vTop vLm vRows vCols vDown vRight vBound vStrain vPrice vFirm vSums vTk vFl1 vFl2 vTe vAw vRo vBe).set i (zam z k, miE (vCell k) (vDirt k) (vAim k) (vErr k) (vCor k) (v)) = (hW ah z y vN vC vNow vHaze vCold vHot vPipe vDeg vThaw vTrc vTurb vLeft vLoad vWater vTrips vMi1 vMi2 vSz vBs vCell vDirt vAim vErr vCor (upZ vBrk k v) vTop vLm vRows vCols vDown vRight vBound vStrain vPrice vFirm vSums vTk vFl1 vFl2 vTe vAw vRo vBe)) := by
  have hk : k.toNat < vN.toNat := by omega
  obtain ⟨X, hX⟩ : ∃ X : va_W, X = ([(ah 0, .inr (8, [.ref (ah 1), .ref (ah 2), .ref (ah 3), .ref (ah 7), .ref (ah 8), zi vTrips, zi vCold, zi vHot, .ref (ah 5), .ref (ah 6), zi vWater, .ref (ah 9), .ref (ah 10), .ref (ah 18)])), (ah 1, .inr (3, [.ref (ah 19), .ref (ah 20), .ref (ah 11), zi vNow, zi vHaze])), (ah 2, .inr (4, [.ref (ah 12), zi vMi1])), (ah 3, .inr (1, [.ref (ah 4), .ref (ah 14), .ref (ah 15), .ref (ah 16), .ref (ah 17), zi vSz, zi vBs])), (ah 4, .inr (4, [.ref (ah 13), zi vMi2])), (ah 5, .inr (6, [zi vPipe, zi vDeg, zi vTrc, zi vThaw])), (ah 6, .inr (7, [zi vTurb, zi vLoad, zi vLeft])), (ah 7, .inl (y 0, 6, .inl (IA vBound))), (ah 8, .inl (y 0, 6, .inl (IA vStrain))), (ah 9, .inl (y 0, 24, .inl (IA vPrice))), (ah 10, .inl (y 0, 24, .inl (IA vFirm))), (ah 11, .inl (y 2, 64, .inl (IA vTk))), (ah 12, .inl (y 0, 6, .inl (IA vFl1))), (ah 13, .inl (y 0, 6, .inl (IA vFl2))), (ah 14, .inl (y 0, 4, .inl (IA vTe))), (ah 15, .inl (y 0, 4, .inl (IA vAw))), (ah 16, .inl (y 0, 4, .inl (IA vRo))), (ah 17, .inl (y 0, 4, .inl (IA vBe))), (ah 18, .inl (y 1, 13, .inr (.inl (LA vSums)))), (ah 19, .inr (0, [.int z.1, .ref z.2.2.1, zi vN])), (ah 20, .inr (0, [.int z.2.2.2.2.2.2.1, .ref z.2.2.2.2.2.2.2.2.1, zi vC]))] ++ (leW z.2.1 z.2.2.1 (y 3) z.2.2.2.1 z.2.2.2.2.1 ++ leW z.2.2.2.2.2.2.2.1 z.2.2.2.2.2.2.2.2.1 (y 3) z.2.2.2.2.2.2.2.2.2.1 z.2.2.2.2.2.2.2.2.2.2.1) : va_W) := ⟨_, rfl⟩
  have e0 : (hW ah z y vN vC vNow vHaze vCold vHot vPipe vDeg vThaw vTrc vTurb vLeft vLoad vWater vTrips vMi1 vMi2 vSz vBs vCell vDirt vAim vErr vCor vBrk vTop vLm vRows vCols vDown vRight vBound vStrain vPrice vFirm vSums vTk vFl1 vFl2 vTe vAw vRo vBe) = X ++ (mpW z vN.toNat vCell vDirt vAim vErr vCor vBrk ++ cpW z vC.toNat vTop vLm vRows vCols vDown vRight) := by
    rw [hX]
    unfold hW plW
    simp only [List.append_assoc]
  refine ⟨X.length + k.toNat, ?_, ?_, ?_, ?_, ?_, ?_⟩
  · rw [e0]
    refine ap_at ?_
    unfold mpW
    rw [rg_at hk, tN_c h0]
  · intro v
    have e1 : (hW ah z y vN vC vNow vHaze vCold vHot vPipe vDeg vThaw vTrc vTurb vLeft vLoad vWater vTrips vMi1 vMi2 vSz vBs vCell (upZ vDirt k v) vAim vErr vCor vBrk vTop vLm vRows vCols vDown vRight vBound vStrain vPrice vFirm vSums vTk vFl1 vFl2 vTe vAw vRo vBe) = X ++ (mpW z vN.toNat vCell (upZ vDirt k v) vAim vErr vCor vBrk ++ cpW z vC.toNat vTop vLm vRows vCols vDown vRight) := by
      rw [hX]
      unfold hW plW
      simp only [List.append_assoc]
    rw [e0, e1]
    refine ap_set (by unfold mpW; simpa using hk) ?_
    unfold mpW
    refine rg_set hk ?_ (fun j hj => ?_)
    · show (zam z ((k.toNat : Nat) : Int), _) = _
      simp only [tN_c h0, upZ_s rfl]
    · simp only [upN_n h0 hj]
  · intro v
    have e1 : (hW ah z y vN vC vNow vHaze vCold vHot vPipe vDeg vThaw vTrc vTurb vLeft vLoad vWater vTrips vMi1 vMi2 vSz vBs vCell vDirt (upZ vAim k v) vErr vCor vBrk vTop vLm vRows vCols vDown vRight vBound vStrain vPrice vFirm vSums vTk vFl1 vFl2 vTe vAw vRo vBe) = X ++ (mpW z vN.toNat vCell vDirt (upZ vAim k v) vErr vCor vBrk ++ cpW z vC.toNat vTop vLm vRows vCols vDown vRight) := by
      rw [hX]
      unfold hW plW
      simp only [List.append_assoc]
    rw [e0, e1]
    refine ap_set (by unfold mpW; simpa using hk) ?_
    unfold mpW
    refine rg_set hk ?_ (fun j hj => ?_)
    · show (zam z ((k.toNat : Nat) : Int), _) = _
      simp only [tN_c h0, upZ_s rfl]
    · simp only [upN_n h0 hj]
  · intro v
    have e1 : (hW ah z y vN vC vNow vHaze vCold vHot vPipe vDeg vThaw vTrc vTurb vLeft vLoad vWater vTrips vMi1 vMi2 vSz vBs vCell vDirt vAim (upZ vErr k v) vCor vBrk vTop vLm vRows vCols vDown vRight vBound vStrain vPrice vFirm vSums vTk vFl1 vFl2 vTe vAw vRo vBe) = X ++ (mpW z vN.toNat vCell vDirt vAim (upZ vErr k v) vCor vBrk ++ cpW z vC.toNat vTop vLm vRows vCols vDown vRight) := by
      rw [hX]
      unfold hW plW
      simp only [List.append_assoc]
    rw [e0, e1]
    refine ap_set (by unfold mpW; simpa using hk) ?_
    unfold mpW
    refine rg_set hk ?_ (fun j hj => ?_)
    · show (zam z ((k.toNat : Nat) : Int), _) = _
      simp only [tN_c h0, upZ_s rfl]
    · simp only [upN_n h0 hj]
  · intro v
    have e1 : (hW ah z y vN vC vNow vHaze vCold vHot vPipe vDeg vThaw vTrc vTurb vLeft vLoad vWater vTrips vMi1 vMi2 vSz vBs vCell vDirt vAim vErr (upZ vCor k v) vBrk vTop vLm vRows vCols vDown vRight vBound vStrain vPrice vFirm vSums vTk vFl1 vFl2 vTe vAw vRo vBe) = X ++ (mpW z vN.toNat vCell vDirt vAim vErr (upZ vCor k v) vBrk ++ cpW z vC.toNat vTop vLm vRows vCols vDown vRight) := by
      rw [hX]
      unfold hW plW
      simp only [List.append_assoc]
    rw [e0, e1]
    refine ap_set (by unfold mpW; simpa using hk) ?_
    unfold mpW
    refine rg_set hk ?_ (fun j hj => ?_)
    · show (zam z ((k.toNat : Nat) : Int), _) = _
      simp only [tN_c h0, upZ_s rfl]
    · simp only [upN_n h0 hj]
  · intro v
    have e1 : (hW ah z y vN vC vNow vHaze vCold vHot vPipe vDeg vThaw vTrc vTurb vLeft vLoad vWater vTrips vMi1 vMi2 vSz vBs vCell vDirt vAim vErr vCor (upZ vBrk k v) vTop vLm vRows vCols vDown vRight vBound vStrain vPrice vFirm vSums vTk vFl1 vFl2 vTe vAw vRo vBe) = X ++ (mpW z vN.toNat vCell vDirt vAim vErr vCor (upZ vBrk k v) ++ cpW z vC.toNat vTop vLm vRows vCols vDown vRight) := by
      rw [hX]
      unfold hW plW
      simp only [List.append_assoc]
    rw [e0, e1]
    refine ap_set (by unfold mpW; simpa using hk) ?_
    unfold mpW
    refine rg_set hk ?_ (fun j hj => ?_)
    · show (zam z ((k.toNat : Nat) : Int), _) = _
      simp only [tN_c h0, upZ_s rfl]
    · simp only [upN_n h0 hj]
theorem hW_c {ah : Nat → Nat} {z : LZ} {y : Nat → ClassId} {vN vC vNow vHaze vCold vHot vPipe vDeg vThaw vTrc vTurb vLeft vLoad vWater vTrips vMi1 vMi2 vSz vBs : Int} {vCell vDirt vAim vErr vCor vBrk vTop vLm vRows vCols vDown vRight vBound vStrain vPrice vFirm vSums vTk vFl1 vFl2 vTe vAw vRo vBe : Int → Int} {k : Int} (h0 : 0 ≤ k) (h1 : k < vC) : ∃ i : Nat, (hW ah z y vN vC vNow vHaze vCold vHot vPipe vDeg vThaw vTrc vTurb vLeft vLoad vWater vTrips vMi1 vMi2 vSz vBs vCell vDirt vAim vErr vCor vBrk vTop vLm vRows vCols vDown vRight vBound vStrain vPrice vFirm vSums vTk vFl1 vFl2 vTe vAw vRo vBe)[i]? = some (zac z k, clE (vTop k) (vLm k) (vRows k) (vCols k) (vDown k) (vRight k)) ∧ (∀ v w : Int, (hW ah z y vN vC vNow vHaze vCold vHot vPipe vDeg vThaw vTrc vTurb vLeft vLoad vWater vTrips vMi1 vMi2 vSz vBs vCell vDirt vAim vErr vCor vBrk vTop vLm vRows vCols vDown vRight vBound vStrain vPrice vFirm vSums vTk vFl1 vFl2 vTe vAw vRo vBe).set i (zac z k, clE (v) (w) (vRows k) (vCols k) (vDown k) (vRight k)) = (hW ah z y vN vC vNow vHaze vCold vHot vPipe vDeg vThaw vTrc vTurb vLeft vLoad vWater vTrips vMi1 vMi2 vSz vBs vCell vDirt vAim vErr vCor vBrk (upZ vTop k v) (upZ vLm k w) vRows vCols vDown vRight vBound vStrain vPrice vFirm vSums vTk vFl1 vFl2 vTe vAw vRo vBe)) := by
  have hk : k.toNat < vC.toNat := by omega
  obtain ⟨X, hX⟩ : ∃ X : va_W, X = (([(ah 0, .inr (8, [.ref (ah 1), .ref (ah 2), .ref (ah 3), .ref (ah 7), .ref (ah 8), zi vTrips, zi vCold, zi vHot, .ref (ah 5), .ref (ah 6), zi vWater, .ref (ah 9), .ref (ah 10), .ref (ah 18)])), (ah 1, .inr (3, [.ref (ah 19), .ref (ah 20), .ref (ah 11), zi vNow, zi vHaze])), (ah 2, .inr (4, [.ref (ah 12), zi vMi1])), (ah 3, .inr (1, [.ref (ah 4), .ref (ah 14), .ref (ah 15), .ref (ah 16), .ref (ah 17), zi vSz, zi vBs])), (ah 4, .inr (4, [.ref (ah 13), zi vMi2])), (ah 5, .inr (6, [zi vPipe, zi vDeg, zi vTrc, zi vThaw])), (ah 6, .inr (7, [zi vTurb, zi vLoad, zi vLeft])), (ah 7, .inl (y 0, 6, .inl (IA vBound))), (ah 8, .inl (y 0, 6, .inl (IA vStrain))), (ah 9, .inl (y 0, 24, .inl (IA vPrice))), (ah 10, .inl (y 0, 24, .inl (IA vFirm))), (ah 11, .inl (y 2, 64, .inl (IA vTk))), (ah 12, .inl (y 0, 6, .inl (IA vFl1))), (ah 13, .inl (y 0, 6, .inl (IA vFl2))), (ah 14, .inl (y 0, 4, .inl (IA vTe))), (ah 15, .inl (y 0, 4, .inl (IA vAw))), (ah 16, .inl (y 0, 4, .inl (IA vRo))), (ah 17, .inl (y 0, 4, .inl (IA vBe))), (ah 18, .inl (y 1, 13, .inr (.inl (LA vSums)))), (ah 19, .inr (0, [.int z.1, .ref z.2.2.1, zi vN])), (ah 20, .inr (0, [.int z.2.2.2.2.2.2.1, .ref z.2.2.2.2.2.2.2.2.1, zi vC]))] ++ (leW z.2.1 z.2.2.1 (y 3) z.2.2.2.1 z.2.2.2.2.1 ++ leW z.2.2.2.2.2.2.2.1 z.2.2.2.2.2.2.2.2.1 (y 3) z.2.2.2.2.2.2.2.2.2.1 z.2.2.2.2.2.2.2.2.2.2.1) : va_W) ++ mpW z vN.toNat vCell vDirt vAim vErr vCor vBrk : va_W) := ⟨_, rfl⟩
  have e0 : (hW ah z y vN vC vNow vHaze vCold vHot vPipe vDeg vThaw vTrc vTurb vLeft vLoad vWater vTrips vMi1 vMi2 vSz vBs vCell vDirt vAim vErr vCor vBrk vTop vLm vRows vCols vDown vRight vBound vStrain vPrice vFirm vSums vTk vFl1 vFl2 vTe vAw vRo vBe) = X ++ (cpW z vC.toNat vTop vLm vRows vCols vDown vRight ++ []) := by
    rw [hX]
    unfold hW plW
    simp only [List.append_assoc, List.append_nil]
  refine ⟨X.length + k.toNat, ?_, ?_⟩
  · rw [e0]
    refine ap_at ?_
    unfold cpW
    rw [rg_at hk, tN_c h0]
  · intro v w
    have e1 : (hW ah z y vN vC vNow vHaze vCold vHot vPipe vDeg vThaw vTrc vTurb vLeft vLoad vWater vTrips vMi1 vMi2 vSz vBs vCell vDirt vAim vErr vCor vBrk (upZ vTop k v) (upZ vLm k w) vRows vCols vDown vRight vBound vStrain vPrice vFirm vSums vTk vFl1 vFl2 vTe vAw vRo vBe) = X ++ (cpW z vC.toNat (upZ vTop k v) (upZ vLm k w) vRows vCols vDown vRight ++ []) := by
      rw [hX]
      unfold hW plW
      simp only [List.append_assoc, List.append_nil]
    rw [e0, e1]
    refine ap_set (by unfold cpW; simpa using hk) ?_
    unfold cpW
    refine rg_set hk ?_ (fun j hj => ?_)
    · show (zac z ((k.toNat : Nat) : Int), _) = _
      simp only [tN_c h0, upZ_s rfl]
    · simp only [upN_n h0 hj]
theorem hW_l1 {ah : Nat → Nat} {z : LZ} {y : Nat → ClassId} {vN vC vNow vHaze vCold vHot vPipe vDeg vThaw vTrc vTurb vLeft vLoad vWater vTrips vMi1 vMi2 vSz vBs : Int} {vCell vDirt vAim vErr vCor vBrk vTop vLm vRows vCols vDown vRight vBound vStrain vPrice vFirm vSums vTk vFl1 vFl2 vTe vAw vRo vBe : Int → Int} (hz : LZok z vN vC) (h : 0 < vN) : ∃ i : Nat, (hW ah z y vN vC vNow vHaze vCold vHot vPipe vDeg vThaw vTrc vTurb vLeft vLoad vWater vTrips vMi1 vMi2 vSz vBs vCell vDirt vAim vErr vCor vBrk vTop vLm vRows vCols vDown vRight vBound vStrain vPrice vFirm vSums vTk vFl1 vFl2 vTe vAw vRo vBe)[i]? = some (z.2.2.1, .inl (y 3, z.2.2.2.1, .inr (.inr (.inr (.inr z.2.2.2.2.1))))) := by
  have hb : z.2.1 = true := by
    rcases hz.1.1 with q | q
    · exact q
    · omega
  obtain ⟨X, hX⟩ : ∃ X : va_W, X = [(ah 0, .inr (8, [.ref (ah 1), .ref (ah 2), .ref (ah 3), .ref (ah 7), .ref (ah 8), zi vTrips, zi vCold, zi vHot, .ref (ah 5), .ref (ah 6), zi vWater, .ref (ah 9), .ref (ah 10), .ref (ah 18)])), (ah 1, .inr (3, [.ref (ah 19), .ref (ah 20), .ref (ah 11), zi vNow, zi vHaze])), (ah 2, .inr (4, [.ref (ah 12), zi vMi1])), (ah 3, .inr (1, [.ref (ah 4), .ref (ah 14), .ref (ah 15), .ref (ah 16), .ref (ah 17), zi vSz, zi vBs])), (ah 4, .inr (4, [.ref (ah 13), zi vMi2])), (ah 5, .inr (6, [zi vPipe, zi vDeg, zi vTrc, zi vThaw])), (ah 6, .inr (7, [zi vTurb, zi vLoad, zi vLeft])), (ah 7, .inl (y 0, 6, .inl (IA vBound))), (ah 8, .inl (y 0, 6, .inl (IA vStrain))), (ah 9, .inl (y 0, 24, .inl (IA vPrice))), (ah 10, .inl (y 0, 24, .inl (IA vFirm))), (ah 11, .inl (y 2, 64, .inl (IA vTk))), (ah 12, .inl (y 0, 6, .inl (IA vFl1))), (ah 13, .inl (y 0, 6, .inl (IA vFl2))), (ah 14, .inl (y 0, 4, .inl (IA vTe))), (ah 15, .inl (y 0, 4, .inl (IA vAw))), (ah 16, .inl (y 0, 4, .inl (IA vRo))), (ah 17, .inl (y 0, 4, .inl (IA vBe))), (ah 18, .inl (y 1, 13, .inr (.inl (LA vSums)))), (ah 19, .inr (0, [.int z.1, .ref z.2.2.1, zi vN])), (ah 20, .inr (0, [.int z.2.2.2.2.2.2.1, .ref z.2.2.2.2.2.2.2.2.1, zi vC]))] := ⟨_, rfl⟩
  have e0 : (hW ah z y vN vC vNow vHaze vCold vHot vPipe vDeg vThaw vTrc vTurb vLeft vLoad vWater vTrips vMi1 vMi2 vSz vBs vCell vDirt vAim vErr vCor vBrk vTop vLm vRows vCols vDown vRight vBound vStrain vPrice vFirm vSums vTk vFl1 vFl2 vTe vAw vRo vBe) = X ++ ([(z.2.2.1, .inl (y 3, z.2.2.2.1, .inr (.inr (.inr (.inr z.2.2.2.2.1)))))] ++ (leW z.2.2.2.2.2.2.2.1 z.2.2.2.2.2.2.2.2.1 (y 3) z.2.2.2.2.2.2.2.2.2.1 z.2.2.2.2.2.2.2.2.2.2.1 ++ (mpW z vN.toNat vCell vDirt vAim vErr vCor vBrk ++ cpW z vC.toNat vTop vLm vRows vCols vDown vRight))) := by
    rw [hX]
    unfold hW plW
    rw [show leW z.2.1 z.2.2.1 (y 3) z.2.2.2.1 z.2.2.2.2.1 = [(z.2.2.1, .inl (y 3, z.2.2.2.1, .inr (.inr (.inr (.inr z.2.2.2.2.1)))))] from if_pos hb]
  exact ⟨X.length + 0, by rw [e0]; exact ap_at rfl⟩
theorem hW_l2 {ah : Nat → Nat} {z : LZ} {y : Nat → ClassId} {vN vC vNow vHaze vCold vHot vPipe vDeg vThaw vTrc vTurb vLeft vLoad vWater vTrips vMi1 vMi2 vSz vBs : Int} {vCell vDirt vAim vErr vCor vBrk vTop vLm vRows vCols vDown vRight vBound vStrain vPrice vFirm vSums vTk vFl1 vFl2 vTe vAw vRo vBe : Int → Int} (hz : LZok z vN vC) (h : 0 < vC) : ∃ i : Nat, (hW ah z y vN vC vNow vHaze vCold vHot vPipe vDeg vThaw vTrc vTurb vLeft vLoad vWater vTrips vMi1 vMi2 vSz vBs vCell vDirt vAim vErr vCor vBrk vTop vLm vRows vCols vDown vRight vBound vStrain vPrice vFirm vSums vTk vFl1 vFl2 vTe vAw vRo vBe)[i]? = some (z.2.2.2.2.2.2.2.2.1, .inl (y 3, z.2.2.2.2.2.2.2.2.2.1, .inr (.inr (.inr (.inr z.2.2.2.2.2.2.2.2.2.2.1))))) := by
  have hb : z.2.2.2.2.2.2.2.1 = true := by
    rcases hz.2.1 with q | q
    · exact q
    · omega
  obtain ⟨X, hX⟩ : ∃ X : va_W, X = ([(ah 0, .inr (8, [.ref (ah 1), .ref (ah 2), .ref (ah 3), .ref (ah 7), .ref (ah 8), zi vTrips, zi vCold, zi vHot, .ref (ah 5), .ref (ah 6), zi vWater, .ref (ah 9), .ref (ah 10), .ref (ah 18)])), (ah 1, .inr (3, [.ref (ah 19), .ref (ah 20), .ref (ah 11), zi vNow, zi vHaze])), (ah 2, .inr (4, [.ref (ah 12), zi vMi1])), (ah 3, .inr (1, [.ref (ah 4), .ref (ah 14), .ref (ah 15), .ref (ah 16), .ref (ah 17), zi vSz, zi vBs])), (ah 4, .inr (4, [.ref (ah 13), zi vMi2])), (ah 5, .inr (6, [zi vPipe, zi vDeg, zi vTrc, zi vThaw])), (ah 6, .inr (7, [zi vTurb, zi vLoad, zi vLeft])), (ah 7, .inl (y 0, 6, .inl (IA vBound))), (ah 8, .inl (y 0, 6, .inl (IA vStrain))), (ah 9, .inl (y 0, 24, .inl (IA vPrice))), (ah 10, .inl (y 0, 24, .inl (IA vFirm))), (ah 11, .inl (y 2, 64, .inl (IA vTk))), (ah 12, .inl (y 0, 6, .inl (IA vFl1))), (ah 13, .inl (y 0, 6, .inl (IA vFl2))), (ah 14, .inl (y 0, 4, .inl (IA vTe))), (ah 15, .inl (y 0, 4, .inl (IA vAw))), (ah 16, .inl (y 0, 4, .inl (IA vRo))), (ah 17, .inl (y 0, 4, .inl (IA vBe))), (ah 18, .inl (y 1, 13, .inr (.inl (LA vSums)))), (ah 19, .inr (0, [.int z.1, .ref z.2.2.1, zi vN])), (ah 20, .inr (0, [.int z.2.2.2.2.2.2.1, .ref z.2.2.2.2.2.2.2.2.1, zi vC]))] ++ leW z.2.1 z.2.2.1 (y 3) z.2.2.2.1 z.2.2.2.2.1 : va_W) := ⟨_, rfl⟩
  have e0 : (hW ah z y vN vC vNow vHaze vCold vHot vPipe vDeg vThaw vTrc vTurb vLeft vLoad vWater vTrips vMi1 vMi2 vSz vBs vCell vDirt vAim vErr vCor vBrk vTop vLm vRows vCols vDown vRight vBound vStrain vPrice vFirm vSums vTk vFl1 vFl2 vTe vAw vRo vBe) = X ++ ([(z.2.2.2.2.2.2.2.2.1, .inl (y 3, z.2.2.2.2.2.2.2.2.2.1, .inr (.inr (.inr (.inr z.2.2.2.2.2.2.2.2.2.2.1)))))] ++ (mpW z vN.toNat vCell vDirt vAim vErr vCor vBrk ++ cpW z vC.toNat vTop vLm vRows vCols vDown vRight)) := by
    rw [hX]
    unfold hW plW
    rw [show leW z.2.2.2.2.2.2.2.1 z.2.2.2.2.2.2.2.2.1 (y 3) z.2.2.2.2.2.2.2.2.2.1 z.2.2.2.2.2.2.2.2.2.2.1 = [(z.2.2.2.2.2.2.2.2.1, .inl (y 3, z.2.2.2.2.2.2.2.2.2.1, .inr (.inr (.inr (.inr z.2.2.2.2.2.2.2.2.2.2.1)))))] from if_pos hb]
    simp only [List.append_assoc]
  exact ⟨X.length + 0, by rw [e0]; exact ap_at rfl⟩

abbrev HPr (D : va_G) (tys : List (ClassId × FieldType)) (ws : va_W) : State → Prop := fun U => va_P D vwCl ws U.heap ∧ va_K D vwCl tys U
theorem hz_blindR {av : List Value} {D : va_G} {tys : List (ClassId × FieldType)} {ws : va_W} : FrameBlind (va_Pc av (HPr D tys ws)) := fun a U g mk q => by
  obtain ⟨q0, qP, qK⟩ := q
  exact ⟨q0, qP, va_K.moved (u := U) (U := U.calling g mk a) (Vm.Alike.refl U.vm) qK⟩
theorem hz_nil {D : va_G} {H : Heap} : va_P D vwCl [] H := fun k q h => by simp at h
theorem hz_cons {D : va_G} {ws rest : va_W} {H : Heap} {i : Nat} {q : Nat × va_E} (hP : va_P D vwCl ws H) (hi : ws[i]? = some q) (t : va_P D vwCl rest H) : va_P D vwCl (q :: rest) H := fun k r h => by
  cases k with
  | zero => cases h; exact hP i q hi
  | succ k => exact t k r h
section HR
variable {p : Program} {l : Launch} {e : Env} {R : Room} {s : State} {m : MethodId} {args : Array Value} {below : List Frame} {meth : Method} {c : Code} {H : Heap} {locs : List Loc} {cells slots : Nat} {Q : State → Prop}
variable {cc bytes : ByteArray} {pc nL maxL index n : Nat} {ls : Array Slot} {rest st0 As : List Value} {D : va_G} {A : Nat → Prop} {b : Nat} {tys : List (ClassId × FieldType)} {ws wc : va_W} {H0 : Heap} {Ts wz : List Cond} {own C : String} {y : MethodName} {ret : Option FieldType} {rm : Room} {cq : vw_C} {fs : List Value}
theorem hz_callRi {z : Int} (fx : CallFix p m c cc nL s args Ts own) (hM : Met l y wz rm (va_Pc (.ref b :: As) (HPr D tys wc)) (vp_Si (fun r => r = zI z)) 0 0 (fun _ => False)) (cw : CallW R s args own C index y bytes maxL ret wz rm 0 0 n)
    (hP : va_P D vwCl wc H) (hK : va_K D vwCl tys s) (q0 ci : Nat) (hcl : vwCl[ci]? = some cq) (hCe : cq.1 = C) (hb0 : wc[q0]? = some (b, .inr (ci, fs)))
    (hAs : As.length = n) (hsize : ls.size = nL) (hst : st0 = As.reverse ++ .ref b :: rest) (hW : (rest.map fun v => v.category).sum ≤ 8) (hdg : decode cc pc = .ok (.invokevirtual index, 3)) (hroom : cells + 0 ≤ R.cells ∧ slots + 0 ≤ R.slots)
    (kk : W p l e R s m args below meth c H locs cells slots Q (F0 m (pc + 3) ls (zi z :: rest))) : W p l e R s m args below meth c H locs cells slots Q (F0 m pc ls st0) :=
  vp_callSi (va_runV (As := As) (rest := rest) fx hM cw ⟨hz_blindR, by rw [← hCe]; exact va_recv hK hP hcl hb0, fun U hU hW => ⟨rfl, by rw [hU]; exact hP, va_K.moved hW.alike hK⟩⟩ rfl hAs hsize hst (lv_room hW) hdg hroom).run (fun r hr => by rw [hr]; exact kk)
theorem hz_callRq {x : Nat} (fx : CallFix p m c cc nL s args Ts own) (hM : Met l y wz rm (va_Pc (.ref b :: As) (HPr D tys wc)) (va_Sr (fun k => k = x) (fun k => .ref k)) 0 0 (fun _ => False)) (cw : CallW R s args own C index y bytes maxL ret wz rm 0 0 n)
    (hP : va_P D vwCl wc H) (hK : va_K D vwCl tys s) (q0 ci : Nat) (hcl : vwCl[ci]? = some cq) (hCe : cq.1 = C) (hb0 : wc[q0]? = some (b, .inr (ci, fs)))
    (hAs : As.length = n) (hsize : ls.size = nL) (hst : st0 = As.reverse ++ .ref b :: rest) (hW : (rest.map fun v => v.category).sum ≤ 8) (hdg : decode cc pc = .ok (.invokevirtual index, 3)) (hroom : cells + 0 ≤ R.cells ∧ slots + 0 ≤ R.slots)
    (kk : W p l e R s m args below meth c H locs cells slots Q (F0 m (pc + 3) ls (.ref x :: rest))) : W p l e R s m args below meth c H locs cells slots Q (F0 m pc ls st0) :=
  va_csr (va_runV (As := As) (rest := rest) fx hM cw ⟨hz_blindR, by rw [← hCe]; exact va_recv hK hP hcl hb0, fun U hU hW => ⟨rfl, by rw [hU]; exact hP, va_K.moved hW.alike hK⟩⟩ rfl hAs hsize hst (lv_room hW) hdg hroom).run (fun k hk => by rw [hk]; exact kk)
end HR
theorem hz_ofR {l : Launch} {y : MethodName} {wz ws' : List Cond} {rm : Room} {av : List Value} {D : va_G} {tys : List (ClassId × FieldType)} {w : va_W} {Qf : Array Value → State → Outcome → State → Prop} {cc : ByteArray} {maxL : Nat} {ret : Option FieldType} (hy : plainName y.cls = true) (hw : wz = Cond.code y cc maxL ret :: ws') (hle : (lg_sl av).length ≤ maxL)
    (body : ∀ (p : Program) (e : Env) (s : State) (m : MethodId) (below : List Frame) (meth : Method) (c : Code) (ls : Array Slot), p.tables.exec = Jvm.exec → c.code = cc → meth.sig.returnType = ret → (∀ w ∈ wz, w.before av.toArray s = true) → s.vm.findClass y.cls = some m.cls → meth.locks = false → c.maxLocals = maxL → va_P D vwCl w s.heap → va_K D vwCl tys s → lv_has ls maxL (lv_args 0 av) →
      W p l e (headSpec wz rm).room s m av.toArray below meth c s.heap [] 0 0 (MQ below Qf av.toArray s 0 0 (fun _ => False)) (F0 m 0 ls [])) : Met l y wz rm (va_Pc av (HPr D tys w)) Qf 0 0 (fun _ => False) := by
  refine Met.ofW (cc := cc) (maxL := maxL) (ret := ret) hy hw ?_
  intro p e s m args below meth c s₁ B hml hv
  obtain ⟨rfl, hP, hK⟩ := hv
  have hts := atoms_spec (ws := wz) B.pre
  have hown : s.vm.findClass y.cls = some m.cls := findClass_of_methodNamed B.named
  have hl := lv_entry av (n := maxL) hle
  rw [lg_entry_eq]
  exact body p e s m below meth c _ B.exec B.bytes B.returns hts hown B.notSynchronized hml hP hK hl
