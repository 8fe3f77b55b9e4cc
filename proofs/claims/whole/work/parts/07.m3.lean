/-! a tick, as functions of whole numbers -/
theorem alZ_cong {f g : Int → Int} (h : ∀ q : Int, 0 ≤ q → q ≤ 5 → f q = g q) : alZ f = alZ g := smZ_cong (k := 6) (fun j a b => h j a (by omega)) 6 (by omega)
theorem alZ_rng {f : Int → Int} (h : ∀ q : Int, 0 ≤ q → q ≤ 5 → 0 ≤ f q ∧ f q ≤ 11400) : 0 ≤ alZ f ∧ alZ f ≤ 68400 := by
  have := smZ_rng (f := f) (b := 11400) (k := 6) (fun j a b => h j a (by omega)) (by omega) 6 (by omega)
  unfold alZ
  omega
theorem msZ_cong {n : Int} {aim err cor rays rays2 : Int → Int} {other bb : Int} (h : ∀ j : Int, 0 ≤ j → j < n → rays j = rays2 j) : msZ n aim err cor rays other bb = msZ n aim err cor rays2 other bb := by
  by_cases hn : 0 ≤ n
  · exact smZ_cong (k := n) (fun j h0 h1 => by unfold mtZ; rw [h j h0 h1]) n.toNat (by omega)
  · unfold msZ
    rw [show n.toNat = 0 by omega]
    rfl
theorem trN_cong {f g b : Int → Int} (h : ∀ q : Int, 0 ≤ q → q ≤ 5 → f q = g q) : trN f b 6 = trN g b 6 := by
  refine isZ_c ⟨fun ⟨j, a, c, d⟩ => ⟨j, a, c, ?_⟩, fun ⟨j, a, c, d⟩ => ⟨j, a, c, ?_⟩⟩
  · rw [← h j a (by omega)]; exact d
  · rw [h j a (by omega)]; exact d
def adZ (f : Int → Int) (i v : Int) : Int → Int := upZ f i (f i + v)
/-- the strain of the panels below j, behind a trip -/
def snZ (st fa bo : Int → Int) (j : Int) : Int → Int := fun k => if (0 ≤ k ∧ k < j) ∧ bo k < fa k then st k + 1 else st k
theorem snZ_0 {st fa bo : Int → Int} : snZ st fa bo 0 = st := by funext k; unfold snZ; exact if_neg (by omega)
theorem snZ_y {st fa bo : Int → Int} {k : Int} (hk : 0 ≤ k) (h : bo k < fa k) : upZ (snZ st fa bo k) k (snZ st fa bo k k + 1) = snZ st fa bo (k + 1) := by
  funext i
  by_cases e : i = k
  · subst e; rw [upZ_s rfl]; unfold snZ; rw [if_neg (by omega), if_pos (by omega)]
  · rw [upZ_n e]; unfold snZ; by_cases q : (0 ≤ i ∧ i < k) ∧ bo i < fa i
    · rw [if_pos q, if_pos (by omega)]
    · rw [if_neg q, if_neg (by omega)]
theorem snZ_n {st fa bo : Int → Int} {k : Int} (hk : 0 ≤ k) (h : ¬ bo k < fa k) : upZ (snZ st fa bo k) k (snZ st fa bo k k + 0) = snZ st fa bo (k + 1) := by
  funext i
  by_cases e : i = k
  · subst e; rw [upZ_s rfl]; unfold snZ; rw [if_neg (by omega), if_neg (by omega)]; omega
  · rw [upZ_n e]; unfold snZ; by_cases q : (0 ≤ i ∧ i < k) ∧ bo i < fa i
    · rw [if_pos q, if_pos (by omega)]
    · rw [if_neg q, if_neg (by omega)]
theorem snZ_cong {st f g bo : Int → Int} (h : ∀ q : Int, 0 ≤ q → q ≤ 5 → f q = g q) : snZ st f bo 6 = snZ st g bo 6 := by
  funext i
  unfold snZ
  by_cases q : 0 ≤ i ∧ i < 6
  · rw [h i q.1 (by omega)]
  · rw [if_neg (fun z => q z.1), if_neg (fun z => q z.1)]
/-- the aims of the mirrors below j, behind a trip -/
def stZ (aim brk : Int → Int) (j : Int) : Int → Int := fun k => if (0 ≤ k ∧ k < j) ∧ ¬ brk k = 1 then -1 else aim k
theorem stZ_0 {aim brk : Int → Int} : stZ aim brk 0 = aim := by funext k; unfold stZ; exact if_neg (by omega)
theorem stZ_n {aim brk : Int → Int} {k : Int} (hk : 0 ≤ k) (h : ¬ brk k = 1) : upZ (stZ aim brk k) k (-1) = stZ aim brk (k + 1) := by
  funext i
  by_cases e : i = k
  · subst e; rw [upZ_s rfl]; unfold stZ; rw [if_pos (by omega)]
  · rw [upZ_n e]; unfold stZ; by_cases q : (0 ≤ i ∧ i < k) ∧ ¬ brk i = 1
    · rw [if_pos q, if_pos (by omega)]
    · rw [if_neg q, if_neg (by omega)]
theorem stZ_y {aim brk : Int → Int} {k : Int} (hk : 0 ≤ k) (h : brk k = 1) : upZ (stZ aim brk k) k (stZ aim brk k k) = stZ aim brk (k + 1) := by
  funext i
  by_cases e : i = k
  · subst e; rw [upZ_s rfl]; unfold stZ; rw [if_neg (by omega), if_neg (by omega)]
  · rw [upZ_n e]; unfold stZ; by_cases q : (0 ≤ i ∧ i < k) ∧ ¬ brk i = 1
    · rw [if_pos q, if_pos (by omega)]
    · rw [if_neg q, if_neg (by omega)]
theorem stZ_rng {aim brk : Int → Int} {j : Int} (h : ∀ k : Int, -1 ≤ aim k ∧ aim k ≤ 5) : ∀ k : Int, -1 ≤ stZ aim brk j k ∧ stZ aim brk j k ≤ 5 := fun k => by
  have := h k
  unfold stZ
  split <;> omega
/-- a row of clouds drifts -/
def drZ (a d : Int → Int) (j : Int) : Int → Int := fun i => if 0 ≤ i ∧ i < j then a i + d i else a i
theorem drZ_0 {a d : Int → Int} : drZ a d 0 = a := by funext k; unfold drZ; exact if_neg (by omega)
theorem drZ_s {a d : Int → Int} {k : Int} (hk : 0 ≤ k) : upZ (drZ a d k) k (drZ a d k k + d k) = drZ a d (k + 1) := by
  funext i
  by_cases e : i = k
  · subst e; rw [upZ_s rfl]; unfold drZ; rw [if_neg (by omega), if_pos (by omega)]
  · rw [upZ_n e]; unfold drZ; by_cases q : 0 ≤ i ∧ i < k
    · rw [if_pos q, if_pos (by omega)]
    · rw [if_neg q, if_neg (by omega)]
/-- dirt comes to the mirrors below j -/
def diZ (a : Int → Int) (j : Int) : Int → Int := fun i => if 0 ≤ i ∧ i < j then hdZ (a i + 1) 0 9 else a i
theorem diZ_0 {a : Int → Int} : diZ a 0 = a := by funext k; unfold diZ; exact if_neg (by omega)
theorem diZ_s {a : Int → Int} {k : Int} (hk : 0 ≤ k) : upZ (diZ a k) k (hdZ (diZ a k k + 1) 0 9) = diZ a (k + 1) := by
  funext i
  by_cases e : i = k
  · subst e; rw [upZ_s rfl]; unfold diZ; rw [if_neg (by omega), if_pos (by omega)]
  · rw [upZ_n e]; unfold diZ; by_cases q : 0 ≤ i ∧ i < k
    · rw [if_pos q, if_pos (by omega)]
    · rw [if_neg q, if_neg (by omega)]
theorem diZ_rng {a : Int → Int} {j : Int} (h : ∀ k : Int, 0 ≤ a k ∧ a k ≤ 9) : ∀ k : Int, 0 ≤ diZ a j k ∧ diZ a j k ≤ 9 := fun k => by
  have := h k
  have := hdZ_rng (v := a k + 1) (a := 0) (b := 9) (by omega)
  unfold diZ
  split <;> omega
/-- salt that comes to the hot tank -/
def cmZ (pipe heat cold : Int) : Int := if ¬ pipe = 1 then 0 else if heat / 100 < cold then heat / 100 else cold
/-- the pipe -/
def dwZ (deg units : Int) : Int := if 0 < units then hdZ (deg + 5) 0 40 else deg - 2
def dgZ (deg trc units : Int) : Int := if trc = 1 ∧ dwZ deg units < 22 then 22 else dwZ deg units
def npZ (pipe deg thaw trc units : Int) : Int := if pipe = 2 then (if trc = 1 ∧ thaw + 1 = 3 then 1 else 2) else if pipe = 1 then (if dgZ deg trc units < 20 then 2 else 1) else pipe
def ndZ (pipe deg thaw trc units : Int) : Int := if pipe = 2 then (if trc = 1 ∧ thaw + 1 = 3 then 22 else deg) else if pipe = 1 then dgZ deg trc units else deg
def ntZ (pipe thaw trc : Int) : Int := if pipe = 2 then (if trc = 1 then thaw + 1 else 0) else if pipe = 1 then 0 else thaw
/-- the turbine -/
def tuZ (turb load hot : Int) : Int := if ¬ turb = 2 then 0 else if load < hot then load else hot
def nbZ (turb left : Int) : Int := if turb = 1 then (if left - 1 = 0 then 2 else 1) else turb
def nlZ (turb left : Int) : Int := if turb = 1 then left - 1 else left
/-- what is sold -/
def toZ (trc : Int) : Int := if trc = 1 then 2 else 0
def boZ (trc made : Int) : Int := if made < toZ trc then toZ trc - made else 0
def dlZ (trc made due : Int) : Int := if made - toZ trc + boZ trc made < due then made - toZ trc + boZ trc made else due
def slZ (sums : Int → Int) (takes bo rest dl due price : Int) : Int → Int := adZ (adZ (adZ (adZ (adZ (adZ sums 7 takes) 8 bo) 9 dl) 10 (due - dl)) 11 (rest - dl)) 12 ((rest - dl) * price)
theorem mul_20 {u w : Int} (hu : 0 ≤ u ∧ u ≤ 20) (hw : 0 ≤ w ∧ w ≤ 10) : 0 ≤ u * w ∧ u * w ≤ 200 := by
  have h1 : 0 ≤ u * w := Int.mul_nonneg hu.1 hw.1
  have h2 : u * w ≤ 20 * 10 := Int.mul_le_mul hu.2 hw.2 hw.1 (by omega)
  omega
/-- what stays and what changes in ticks: aims, dirt, clouds' places, strain, sums; the tick, salt, pipe, turbine, trips -/
abbrev TS : Type := (Int → Int) × (Int → Int) × (Int → Int) × (Int → Int) × (Int → Int) × (Int → Int) × Int × Int × Int × Int × Int × Int × Int × Int × Int
abbrev TC : Type := Int × Int × Int × Int × Int × (Int → Int) × (Int → Int) × (Int → Int) × (Int → Int) × (Int → Int) × (Int → Int) × (Int → Int) × (Int → Int) × (Int → Int) × (Int → Int) × (Int → Int)
def tkE (c : TC) (t : TS) (aim strain sums : Int → Int) (trips heat units u : Int) : TS :=
  match c, t with
  | (xn, xc, xh, xt, xl, xce, xer, xco, xbr, xro, xcl, xdo, xri, xbo, xpr, xfi), (ya, yd, yt, yl, ys, yu, yn, yc, yh, yp, yg, yw, yb, yf, yr) =>
    (aim, (if (yn + 1) % 24 = 0 then diZ yd xn else yd), drZ yt xdo xc, drZ yl xri xc, strain,
     slZ (adZ (adZ (adZ sums 4 (heat - 100 * units)) 5 units) 6 (u * (10 - strZ yn / 5))) (toZ xt) (boZ xt (u * (10 - strZ yn / 5))) (u * (10 - strZ yn / 5) - toZ xt + boZ xt (u * (10 - strZ yn / 5))) (dlZ xt (u * (10 - strZ yn / 5)) (xfi (yn % 24))) (xfi (yn % 24)) (xpr (yn % 24)),
     yn + 1, yc - units + u, yh + units - u, npZ yp yg yw xt units, ndZ yp yg yw xt units, ntZ yp yw xt, nbZ yb yf, nlZ yb yf, trips)
def tkD (c : TC) (t : TS) (aim strain sums : Int → Int) (trips heat : Int) : TS :=
  match c, t with
  | (xn, xc, xh, xt, xl, xce, xer, xco, xbr, xro, xcl, xdo, xri, xbo, xpr, xfi), (ya, yd, yt, yl, ys, yu, yn, yc, yh, yp, yg, yw, yb, yf, yr) =>
    tkE c t aim strain sums trips heat (cmZ yp heat yc) (tuZ yb xl (yh + cmZ yp heat yc))
noncomputable def tkC (c : TC) (t : TS) (fx : Int → Int) (al ms tr : Int) : TS :=
  match c, t with
  | (xn, xc, xh, xt, xl, xce, xer, xco, xbr, xro, xcl, xdo, xri, xbo, xpr, xfi), (ya, yd, yt, yl, ys, yu, yn, yc, yh, yp, yg, yw, yb, yf, yr) =>
    tkD c t (if tr = 1 then stZ ya xbr xn else ya) (if tr = 1 then snZ ys fx xbo 6 else ys) (if tr = 1 then adZ (adZ (adZ yu 0 (al + ms)) 1 ms) 2 al else adZ (adZ (adZ yu 0 (al + ms)) 1 ms) 3 al) (if tr = 1 then yr + 1 else yr) (if tr = 1 then 0 else al)
noncomputable def tkF (c : TC) (t : TS) : TS :=
  match c, t with
  | (xn, xc, xh, xt, xl, xce, xer, xco, xbr, xro, xcl, xdo, xri, xbo, xpr, xfi), (ya, yd, yt, yl, ys, yu, yn, yc, yh, yp, yg, yw, yb, yf, yr) =>
    tkC c t (flZ xn ya xer xco (ryZ xn xc yn xh xce yd yt yl xro xcl xdo xri) (-1) 0) (alZ (flZ xn ya xer xco (ryZ xn xc yn xh xce yd yt yl xro xcl xdo xri) (-1) 0)) (msZ xn ya xer xco (ryZ xn xc yn xh xce yd yt yl xro xcl xdo xri) (-1) 0) (trN (flZ xn ya xer xco (ryZ xn xc yn xh xce yd yt yl xro xcl xdo xri) (-1) 0) xbo 6)
noncomputable def itF (c : TC) : Nat → TS → TS
  | 0, t => t
  | n + 1, t => tkF c (itF c n t)
noncomputable def sfZ (n : Int) (aim err cor rays bound : Int → Int) : Int := isZ (trN (flZ n aim err cor rays (-1) 0) bound 6 = 0 ∧ ∀ k : Int, 0 ≤ k → k < n → trN (flZ n aim err cor rays k (-1)) bound 6 = 0 ∧ trN (flZ n aim err cor rays k 1) bound 6 = 0)
abbrev Q_X8_shines (G : va_G) (y : Nat → ClassId) (ad : Nat → Nat) (vThrown vN vC vNow vHaze vCold vHot vPipe vDeg vThaw vTrc vTurb vLeft vLoad vWater vTrips vMissed vBRow vBSum : Int) (vCell vDirt vAim vErr vCor vBrk vTop vLm vRows vCols vDown vRight vBound vStrain vPrice vFirm vSums vRays vFalls vSom vHad : Int → Int)  (A : Nat → Prop) : Array Value → State → Outcome → State → Prop := va_Qi (fun (r : Int32) (u : Int × (Int → Int) × (Int → Int) × Int × (Int → Int) × Int × (Int → Int) × (Int → Int)) => r = zI (u.1) ∧ (u.1 = (if trN (flZ vN vAim vErr vCor (ryZ vN vC vNow vHaze vCell vDirt vTop vLm vRows vCols vDown vRight) (-1) 0) vBound 6 = 1 then 0 else alZ (flZ vN vAim vErr vCor (ryZ vN vC vNow vHaze vCell vDirt vTop vLm vRows vCols vDown vRight) (-1) 0))) ∧ (0 ≤ u.1 ∧ u.1 ≤ 68400) ∧ (u.2.2.2.2.1 = (if trN (flZ vN vAim vErr vCor (ryZ vN vC vNow vHaze vCell vDirt vTop vLm vRows vCols vDown vRight) (-1) 0) vBound 6 = 1 then adZ (adZ (adZ vSums 0 (alZ (flZ vN vAim vErr vCor (ryZ vN vC vNow vHaze vCell vDirt vTop vLm vRows vCols vDown vRight) (-1) 0) + (msZ vN vAim vErr vCor (ryZ vN vC vNow vHaze vCell vDirt vTop vLm vRows vCols vDown vRight) (-1) 0))) 1 (msZ vN vAim vErr vCor (ryZ vN vC vNow vHaze vCell vDirt vTop vLm vRows vCols vDown vRight) (-1) 0)) 2 (alZ (flZ vN vAim vErr vCor (ryZ vN vC vNow vHaze vCell vDirt vTop vLm vRows vCols vDown vRight) (-1) 0)) else adZ (adZ (adZ vSums 0 (alZ (flZ vN vAim vErr vCor (ryZ vN vC vNow vHaze vCell vDirt vTop vLm vRows vCols vDown vRight) (-1) 0) + (msZ vN vAim vErr vCor (ryZ vN vC vNow vHaze vCell vDirt vTop vLm vRows vCols vDown vRight) (-1) 0))) 1 (msZ vN vAim vErr vCor (ryZ vN vC vNow vHaze vCell vDirt vTop vLm vRows vCols vDown vRight) (-1) 0)) 3 (alZ (flZ vN vAim vErr vCor (ryZ vN vC vNow vHaze vCell vDirt vTop vLm vRows vCols vDown vRight) (-1) 0)))) ∧ (u.2.2.2.2.2.1 = (if trN (flZ vN vAim vErr vCor (ryZ vN vC vNow vHaze vCell vDirt vTop vLm vRows vCols vDown vRight) (-1) 0) vBound 6 = 1 then vTrips + 1 else vTrips)) ∧ (u.2.2.2.2.2.2.1 = (if trN (flZ vN vAim vErr vCor (ryZ vN vC vNow vHaze vCell vDirt vTop vLm vRows vCols vDown vRight) (-1) 0) vBound 6 = 1 then snZ vStrain (flZ vN vAim vErr vCor (ryZ vN vC vNow vHaze vCell vDirt vTop vLm vRows vCols vDown vRight) (-1) 0) vBound 6 else vStrain)) ∧ (u.2.2.2.2.2.2.2 = (if trN (flZ vN vAim vErr vCor (ryZ vN vC vNow vHaze vCell vDirt vTop vLm vRows vCols vDown vRight) (-1) 0) vBound 6 = 1 then stZ vAim vBrk vN else vAim)) ∧ (∀ k : Int, -1 ≤ u.2.2.2.2.2.2.2 k ∧ u.2.2.2.2.2.2.2 k ≤ 5)) (fun (u : Int × (Int → Int) × (Int → Int) × Int × (Int → Int) × Int × (Int → Int) × (Int → Int)) t => va_P G vwCl (mW ad y vThrown vN vC vNow vHaze vCold vHot vPipe vDeg vThaw vTrc vTurb vLeft vLoad vWater u.2.2.2.2.2.1 u.2.2.2.1 vBRow vBSum vCell vDirt u.2.2.2.2.2.2.2 vErr vCor vBrk vTop vLm vRows vCols vDown vRight vBound u.2.2.2.2.2.2.1 vPrice vFirm u.2.2.2.2.1 u.2.1 u.2.2.1 vSom vHad) t.heap) A
set_option maxHeartbeats 4000000 in
set_option maxRecDepth 100000 in
theorem c_X8_shines (l : Launch) (G : va_G) (y : Nat → ClassId) (ad : Nat → Nat) (sz : Nat) (vThrown vN vC vNow vHaze vCold vHot vPipe vDeg vThaw vTrc vTurb vLeft vLoad vWater vTrips vMissed vBRow vBSum : Int) (vCell vDirt vAim vErr vCor vBrk vTop vLm vRows vCols vDown vRight vBound vStrain vPrice vFirm vSums vRays vFalls vSom vHad : Int → Int)  (hN : 0 ≤ vN ∧ vN ≤ 12) (hC : 0 ≤ vC ∧ vC ≤ 4) (hNow : 0 ≤ vNow ∧ vNow ≤ 9999) (hHaze : 0 ≤ vHaze ∧ vHaze ≤ 9) (hCell : ∀ k : Int, 0 ≤ vCell k ∧ vCell k ≤ 63) (hDirt : ∀ k : Int, 0 ≤ vDirt k ∧ vDirt k ≤ 9) (hTop : ∀ k : Int, -(16 + vNow) ≤ vTop k ∧ vTop k ≤ 16 + vNow) (hLm : ∀ k : Int, -(16 + vNow) ≤ vLm k ∧ vLm k ≤ 16 + vNow) (hRows : ∀ k : Int, 0 ≤ vRows k ∧ vRows k ≤ 8) (hCols : ∀ k : Int, 0 ≤ vCols k ∧ vCols k ≤ 8) (hDown : ∀ k : Int, -1 ≤ vDown k ∧ vDown k ≤ 1) (hRight : ∀ k : Int, -1 ≤ vRight k ∧ vRight k ≤ 1) (hAim : ∀ k : Int, -1 ≤ vAim k ∧ vAim k ≤ 5) (hErr : ∀ k : Int, -3 ≤ vErr k ∧ vErr k ≤ 3) (hCor : ∀ k : Int, -3 ≤ vCor k ∧ vCor k ≤ 3) (hBrk : ∀ k : Int, 0 ≤ vBrk k ∧ vBrk k ≤ 1) (hBound : ∀ k : Int, 0 ≤ vBound k ∧ vBound k ≤ 9999) : Met l yX8_shines wsX8_shines ({ frames := 4, cells := 0, slots := 0, locals := 95 }) (va_Pc [.ref (ad 0)] (HPre G (tyL y) (mW ad y vThrown vN vC vNow vHaze vCold vHot vPipe vDeg vThaw vTrc vTurb vLeft vLoad vWater vTrips vMissed vBRow vBSum vCell vDirt vAim vErr vCor vBrk vTop vLm vRows vCols vDown vRight vBound vStrain vPrice vFirm vSums vRays vFalls vSom vHad) sz)) (Q_X8_shines G y ad vThrown vN vC vNow vHaze vCold vHot vPipe vDeg vThaw vTrc vTurb vLeft vLoad vWater vTrips vMissed vBRow vBSum vCell vDirt vAim vErr vCor vBrk vTop vLm vRows vCols vDown vRight vBound vStrain vPrice vFirm vSums vRays vFalls vSom vHad (va_A (mW ad y vThrown vN vC vNow vHaze vCold vHot vPipe vDeg vThaw vTrc vTurb vLeft vLoad vWater vTrips vMissed vBRow vBSum vCell vDirt vAim vErr vCor vBrk vTop vLm vRows vCols vDown vRight vBound vStrain vPrice vFirm vSums vRays vFalls vSom vHad) sz)) 0 0 (va_A (mW ad y vThrown vN vC vNow vHaze vCold vHot vPipe vDeg vThaw vTrc vTurb vLeft vLoad vWater vTrips vMissed vBRow vBSum vCell vDirt vAim vErr vCor vBrk vTop vLm vRows vCols vDown vRight vBound vStrain vPrice vFirm vSums vRays vFalls vSom vHad) sz) := by
  refine hz_ofW (Qf := Q_X8_shines G y ad vThrown vN vC vNow vHaze vCold vHot vPipe vDeg vThaw vTrc vTurb vLeft vLoad vWater vTrips vMissed vBRow vBSum vCell vDirt vAim vErr vCor vBrk vTop vLm vRows vCols vDown vRight vBound vStrain vPrice vFirm vSums vRays vFalls vSom vHad) (cc := cX8_shines) (maxL := 3) (ret := (some .int)) (by decide) rfl (Nat.le_of_ble_eq_true rfl) ?_
  intro p e s m below meth c A ls hx hb hr hts hown hin hlocks hml hP hK hA hD hS hl
  have hown : s.vm.findClass RX8 = some m.cls := hown
  have hl : lv_has ls 3 [(0, .ref (ad 0))] := hl
  have hinwsX80 : ∀ w ∈ wsX80, w ∈ wsX8_shines := fun _ h => List.mem_cons_of_mem _ (List.mem_append_right _ (h))
  refine lv_aload_n hx hb dX8_shines_0 rfl (lv_at hl 0 rfl) ?_
  refine hz_callWv (As := []) (rest := []) ⟨hx, hb, hml, hown, hts⟩ (c_X8_laysRays l G y ad _ vThrown vN vC vNow vHaze vCold vHot vPipe vDeg vThaw vTrc vTurb vLeft vLoad vWater vTrips vMissed vBRow vBSum vCell vDirt vAim vErr vCor vBrk vTop vLm vRows vCols vDown vRight vBound vStrain vPrice vFirm vSums vRays vFalls vSom vHad  hN hC hNow hHaze hCell hDirt hTop hLm hRows hCols hDown hRight) (cwV 0 hts gX8_shines_X8_laysRays rfl rfl rfl (by decide +kernel) ⟨Nat.le_of_ble_eq_true rfl, Nat.le_of_ble_eq_true rfl⟩) hP hK hD hS hA 0 9 rfl rfl rfl rfl hl.1 rfl (Nat.le_of_ble_eq_true rfl) dX8_shines_1 ⟨Nat.zero_le _, Nat.zero_le _⟩ (fun _ => rfl) (fun f_1 H locs hu hP hD hS => ?_)
  have p2 : ∀ k : Int, 0 ≤ k → k < vN → 0 ≤ f_1 k ∧ f_1 k ≤ 95 := hu.1
  have p3 : ∀ j : Int, 0 ≤ j → j < vN → f_1 j = (pwZ vN vC vNow vHaze vCell vDirt vTop vLm vRows vCols vDown vRight j 0 / 10) := hu.2
  have hP : va_P G vwCl (mW ad y vThrown vN vC vNow vHaze vCold vHot vPipe vDeg vThaw vTrc vTurb vLeft vLoad vWater vTrips vMissed vBRow vBSum vCell vDirt vAim vErr vCor vBrk vTop vLm vRows vCols vDown vRight vBound vStrain vPrice vFirm vSums f_1 vFalls vSom vHad) H := hP
  have hD : va_D A (mW ad y vThrown vN vC vNow vHaze vCold vHot vPipe vDeg vThaw vTrc vTurb vLeft vLoad vWater vTrips vMissed vBRow vBSum vCell vDirt vAim vErr vCor vBrk vTop vLm vRows vCols vDown vRight vBound vStrain vPrice vFirm vSums f_1 vFalls vSom vHad) := hD
  refine lv_aload_n hx hb dX8_shines_4 rfl (lv_at hl 0 rfl) ?_
  refine hz_iconst hx hb dX8_shines_5 ?_
  refine hz_iconst hx hb dX8_shines_6 ?_
  refine hz_callWv (As := [zi (-1), zi 0]) (rest := []) ⟨hx, hb, hml, hown, hts⟩ (c_X8_laysFluxes l G y ad _ vThrown vN vC vNow vHaze vCold vHot vPipe vDeg vThaw vTrc vTurb vLeft vLoad vWater vTrips vMissed vBRow vBSum vCell vDirt vAim vErr vCor vBrk vTop vLm vRows vCols vDown vRight vBound vStrain vPrice vFirm vSums f_1 vFalls vSom vHad (-1) 0 hN hAim hErr hCor p2 (by omega) (by omega)) (cwV 2 hts gX8_shines_X8_laysFluxes rfl rfl rfl (by decide +kernel) ⟨Nat.le_of_ble_eq_true rfl, Nat.le_of_ble_eq_true rfl⟩) hP hK hD hS hA 0 9 rfl rfl rfl rfl hl.1 rfl (Nat.le_of_ble_eq_true rfl) dX8_shines_7 ⟨Nat.zero_le _, Nat.zero_le _⟩ (fun _ => rfl) (fun u H locs hu hP hD hS => ?_)
  obtain ⟨f_4, m_5⟩ := u
  have p6 : ∀ k : Int, 0 ≤ k → k ≤ 5 → 0 ≤ f_4 k ∧ f_4 k ≤ 11400 := hu.1
  have p7 : ∀ q : Int, 0 ≤ q → q ≤ 5 → f_4 q = flZ vN vAim vErr vCor f_1 (-1) 0 q := hu.2.1
  have p8 : m_5 = msZ vN vAim vErr vCor f_1 (-1) 0 := hu.2.2
  have hP : va_P G vwCl (mW ad y vThrown vN vC vNow vHaze vCold vHot vPipe vDeg vThaw vTrc vTurb vLeft vLoad vWater vTrips m_5 vBRow vBSum vCell vDirt vAim vErr vCor vBrk vTop vLm vRows vCols vDown vRight vBound vStrain vPrice vFirm vSums f_1 f_4 vSom vHad) H := hP
  have hD : va_D A (mW ad y vThrown vN vC vNow vHaze vCold vHot vPipe vDeg vThaw vTrc vTurb vLeft vLoad vWater vTrips m_5 vBRow vBSum vCell vDirt vAim vErr vCor vBrk vTop vLm vRows vCols vDown vRight vBound vStrain vPrice vFirm vSums f_1 f_4 vSom vHad) := hD
  have efa : ∀ q : Int, 0 ≤ q → q ≤ 5 → f_4 q = (flZ vN vAim vErr vCor (ryZ vN vC vNow vHaze vCell vDirt vTop vLm vRows vCols vDown vRight) (-1) 0) q := fun q a b => (p7 q a b).trans (flZ_cong (fun j h0 h1 => p3 j h0 h1))
  have eal : alZ f_4 = alZ (flZ vN vAim vErr vCor (ryZ vN vC vNow vHaze vCell vDirt vTop vLm vRows vCols vDown vRight) (-1) 0) := alZ_cong efa
  have ems : m_5 = (msZ vN vAim vErr vCor (ryZ vN vC vNow vHaze vCell vDirt vTop vLm vRows vCols vDown vRight) (-1) 0) := p8.trans (msZ_cong (fun j h0 h1 => p3 j h0 h1))
  have etr : trN f_4 vBound 6 = trN (flZ vN vAim vErr vCor (ryZ vN vC vNow vHaze vCell vDirt vTop vLm vRows vCols vDown vRight) (-1) 0) vBound 6 := trN_cong efa
  have e01 : trN (flZ vN vAim vErr vCor (ryZ vN vC vNow vHaze vCell vDirt vTop vLm vRows vCols vDown vRight) (-1) 0) vBound 6 = 0 ∨ trN (flZ vN vAim vErr vCor (ryZ vN vC vNow vHaze vCell vDirt vTop vLm vRows vCols vDown vRight) (-1) 0) vBound 6 = 1 := isZ_01 _
  have eral := alZ_rng p6
  have erms := msZ_rng (aim := vAim) (err := vErr) (cor := vCor) (other := -1) (bb := 0) hN p2
  rw [← p8] at erms
  refine lv_aload_n hx hb dX8_shines_10 rfl (lv_at hl 0 rfl) ?_
  refine hz_callWi (As := []) (rest := []) ⟨hx, hb, hml, hown, hts⟩ (c_X8_allFalls l G y ad _ vThrown vN vC vNow vHaze vCold vHot vPipe vDeg vThaw vTrc vTurb vLeft vLoad vWater vTrips m_5 vBRow vBSum vCell vDirt vAim vErr vCor vBrk vTop vLm vRows vCols vDown vRight vBound vStrain vPrice vFirm vSums f_1 f_4 vSom vHad  ) (cwV 0 hts gX8_shines_X8_allFalls rfl rfl rfl (by decide +kernel) ⟨Nat.le_of_ble_eq_true rfl, Nat.le_of_ble_eq_true rfl⟩) hP hK hD hS hA 0 9 rfl rfl rfl rfl hl.1 rfl (Nat.le_of_ble_eq_true rfl) dX8_shines_11 ⟨Nat.zero_le _, Nat.zero_le _⟩ (fun _ => rfl) (fun u H locs hu hP hD hS => ?_)
  have hP : va_P G vwCl (mW ad y vThrown vN vC vNow vHaze vCold vHot vPipe vDeg vThaw vTrc vTurb vLeft vLoad vWater vTrips m_5 vBRow vBSum vCell vDirt vAim vErr vCor vBrk vTop vLm vRows vCols vDown vRight vBound vStrain vPrice vFirm vSums f_1 f_4 vSom vHad) H := hP
  have hD : va_D A (mW ad y vThrown vN vC vNow vHaze vCold vHot vPipe vDeg vThaw vTrc vTurb vLeft vLoad vWater vTrips m_5 vBRow vBSum vCell vDirt vAim vErr vCor vBrk vTop vLm vRows vCols vDown vRight vBound vStrain vPrice vFirm vSums f_1 f_4 vSom vHad) := hD
  refine lv_istore_n (lv' := [(1, zi (alZ f_4)), (0, .ref (ad 0))]) hx hb dX8_shines_14 rfl hl (by decide) rfl (fun ls hl => ?_)
  refine lv_aload_n hx hb dX8_shines_15 rfl (lv_at hl 1 rfl) ?_
  refine va_get (D := G) (ci := 9) (v := .ref (ad 17)) (C := RX8) (T := TX8) (N := 40) hx hb hts hinwsX80 hown hK hP 0 rfl rfl 19 (by decide) (hts (.fieldLink RX8 59 "HeliokeepModel" "sums" "[J") (List.mem_of_getElem? (i := 1) rfl)) (fun _ h9 => h9) rfl dX8_shines_16 ?_
  refine hz_iconst hx hb dX8_shines_19 ?_
  refine lv_dup2_11 hx hb dX8_shines_20 rfl rfl ?_
  refine hz_lald (f := vSums) hx hb hK hP 17 1 rfl rfl (Nat.le_of_ble_eq_true rfl) (by omega) dX8_shines_21 ?_
  refine lv_iload_n hx hb dX8_shines_22 rfl (lv_at hl 0 rfl) ?_
  refine lv_aload_n hx hb dX8_shines_23 rfl (lv_at hl 1 rfl) ?_
  refine va_get (D := G) (ci := 9) (v := zi m_5) (C := RX8) (T := TX8) (N := 40) hx hb hts hinwsX80 hown hK hP 0 rfl rfl 35 (by decide) (hts (.fieldLink RX8 136 "HeliokeepModel" "missed" "I") (List.mem_of_getElem? (i := 2) rfl)) (fun _ h9 => h9) rfl dX8_shines_24 ?_
  refine hz_iadd hx hb dX8_shines_27 ?_
  refine hz_i2l hx hb dX8_shines_28 (by omega) ?_
  refine hz_ladd hx hb dX8_shines_29 ?_
  refine hz_last (f := vSums) hx hb hK hP hD hS 17 1 rfl rfl (Nat.le_of_ble_eq_true rfl) (by omega) dX8_shines_30 (fun H locs hP hD hS => ?_)
  have hP : va_P G vwCl (mW ad y vThrown vN vC vNow vHaze vCold vHot vPipe vDeg vThaw vTrc vTurb vLeft vLoad vWater vTrips m_5 vBRow vBSum vCell vDirt vAim vErr vCor vBrk vTop vLm vRows vCols vDown vRight vBound vStrain vPrice vFirm (upZ vSums 0 ((vSums 0) + ((alZ f_4) + m_5))) f_1 f_4 vSom vHad) H := hP
  have hD : va_D A (mW ad y vThrown vN vC vNow vHaze vCold vHot vPipe vDeg vThaw vTrc vTurb vLeft vLoad vWater vTrips m_5 vBRow vBSum vCell vDirt vAim vErr vCor vBrk vTop vLm vRows vCols vDown vRight vBound vStrain vPrice vFirm (upZ vSums 0 ((vSums 0) + ((alZ f_4) + m_5))) f_1 f_4 vSom vHad) := hD
  refine lv_aload_n hx hb dX8_shines_31 rfl (lv_at hl 1 rfl) ?_
  refine va_get (D := G) (ci := 9) (v := .ref (ad 17)) (C := RX8) (T := TX8) (N := 40) hx hb hts hinwsX80 hown hK hP 0 rfl rfl 19 (by decide) (hts (.fieldLink RX8 59 "HeliokeepModel" "sums" "[J") (List.mem_of_getElem? (i := 1) rfl)) (fun _ h9 => h9) rfl dX8_shines_32 ?_
  refine hz_iconst hx hb dX8_shines_35 ?_
  refine lv_dup2_11 hx hb dX8_shines_36 rfl rfl ?_
  refine hz_lald (f := (upZ vSums 0 ((vSums 0) + ((alZ f_4) + m_5)))) hx hb hK hP 17 1 rfl rfl (Nat.le_of_ble_eq_true rfl) (by omega) dX8_shines_37 ?_
  refine lv_aload_n hx hb dX8_shines_38 rfl (lv_at hl 1 rfl) ?_
  refine va_get (D := G) (ci := 9) (v := zi m_5) (C := RX8) (T := TX8) (N := 40) hx hb hts hinwsX80 hown hK hP 0 rfl rfl 35 (by decide) (hts (.fieldLink RX8 136 "HeliokeepModel" "missed" "I") (List.mem_of_getElem? (i := 2) rfl)) (fun _ h9 => h9) rfl dX8_shines_39 ?_
  refine hz_i2l hx hb dX8_shines_42 (by omega) ?_
  refine hz_ladd hx hb dX8_shines_43 ?_
  refine hz_last (f := (upZ vSums 0 ((vSums 0) + ((alZ f_4) + m_5)))) hx hb hK hP hD hS 17 1 rfl rfl (Nat.le_of_ble_eq_true rfl) (by omega) dX8_shines_44 (fun H locs hP hD hS => ?_)
  have hP : va_P G vwCl (mW ad y vThrown vN vC vNow vHaze vCold vHot vPipe vDeg vThaw vTrc vTurb vLeft vLoad vWater vTrips m_5 vBRow vBSum vCell vDirt vAim vErr vCor vBrk vTop vLm vRows vCols vDown vRight vBound vStrain vPrice vFirm (upZ (upZ vSums 0 ((vSums 0) + ((alZ f_4) + m_5))) 1 (((upZ vSums 0 ((vSums 0) + ((alZ f_4) + m_5))) 1) + m_5)) f_1 f_4 vSom vHad) H := hP
  have hD : va_D A (mW ad y vThrown vN vC vNow vHaze vCold vHot vPipe vDeg vThaw vTrc vTurb vLeft vLoad vWater vTrips m_5 vBRow vBSum vCell vDirt vAim vErr vCor vBrk vTop vLm vRows vCols vDown vRight vBound vStrain vPrice vFirm (upZ (upZ vSums 0 ((vSums 0) + ((alZ f_4) + m_5))) 1 (((upZ vSums 0 ((vSums 0) + ((alZ f_4) + m_5))) 1) + m_5)) f_1 f_4 vSom vHad) := hD
  refine lv_aload_n hx hb dX8_shines_45 rfl (lv_at hl 1 rfl) ?_
  refine hz_callWi (As := []) (rest := []) ⟨hx, hb, hml, hown, hts⟩ (c_X8_isTripped l G y ad _ vThrown vN vC vNow vHaze vCold vHot vPipe vDeg vThaw vTrc vTurb vLeft vLoad vWater vTrips m_5 vBRow vBSum vCell vDirt vAim vErr vCor vBrk vTop vLm vRows vCols vDown vRight vBound vStrain vPrice vFirm (upZ (upZ vSums 0 ((vSums 0) + ((alZ f_4) + m_5))) 1 (((upZ vSums 0 ((vSums 0) + ((alZ f_4) + m_5))) 1) + m_5)) f_1 f_4 vSom vHad  p6 hBound) (cwV 0 hts gX8_shines_X8_isTripped rfl rfl rfl (by decide +kernel) ⟨Nat.le_of_ble_eq_true rfl, Nat.le_of_ble_eq_true rfl⟩) hP hK hD hS hA 0 9 rfl rfl rfl rfl hl.1 rfl (Nat.le_of_ble_eq_true rfl) dX8_shines_46 ⟨Nat.zero_le _, Nat.zero_le _⟩ (fun _ => rfl) (fun u H locs hu hP hD hS => ?_)
  have hP : va_P G vwCl (mW ad y vThrown vN vC vNow vHaze vCold vHot vPipe vDeg vThaw vTrc vTurb vLeft vLoad vWater vTrips m_5 vBRow vBSum vCell vDirt vAim vErr vCor vBrk vTop vLm vRows vCols vDown vRight vBound vStrain vPrice vFirm (upZ (upZ vSums 0 ((vSums 0) + ((alZ f_4) + m_5))) 1 (((upZ vSums 0 ((vSums 0) + ((alZ f_4) + m_5))) 1) + m_5)) f_1 f_4 vSom vHad) H := hP
  have hD : va_D A (mW ad y vThrown vN vC vNow vHaze vCold vHot vPipe vDeg vThaw vTrc vTurb vLeft vLoad vWater vTrips m_5 vBRow vBSum vCell vDirt vAim vErr vCor vBrk vTop vLm vRows vCols vDown vRight vBound vStrain vPrice vFirm (upZ (upZ vSums 0 ((vSums 0) + ((alZ f_4) + m_5))) 1 (((upZ vSums 0 ((vSums 0) + ((alZ f_4) + m_5))) 1) + m_5)) f_1 f_4 vSom vHad) := hD
  refine hz_if_ne (tgt := 65) hx hb dX8_shines_49 (by decide) (by omega) (fun c9 => ?_) (fun c9 => ?_)
  · refine lv_aload_n hx hb dX8_shines_65 rfl (lv_at hl 1 rfl) ?_
    refine lv_dup hx hb dX8_shines_66 rfl ?_
    refine va_get (D := G) (ci := 9) (v := zi vTrips) (C := RX8) (T := TX8) (N := 40) hx hb hts hinwsX80 hown hK hP 0 rfl rfl 32 (by decide) (hts (.fieldLink RX8 203 "HeliokeepModel" "trips" "I") (List.mem_of_getElem? (i := 3) rfl)) (fun _ h9 => h9) rfl dX8_shines_67 ?_
    refine hz_iconst hx hb dX8_shines_70 ?_
    refine hz_iadd hx hb dX8_shines_71 ?_
    refine va_put (D := G) (ci := 9) (v := zi (vTrips + 1)) (ty := .int) (C := RX8) (T := TX8) (N := 40) hx hb hts hinwsX80 tyX8 tyX8_ok nmX8 hown hK hP hD hS 0 rfl rfl 32 (by decide) (hts (.fieldLink RX8 203 "HeliokeepModel" "trips" "I") (List.mem_of_getElem? (i := 3) rfl)) (fun _ h9 => h9) rfl (by decide +kernel) rfl rfl (Nat.le_of_ble_eq_true rfl) dX8_shines_72 (fun H locs hP hD hS => ?_)
    have hP : va_P G vwCl (mW ad y vThrown vN vC vNow vHaze vCold vHot vPipe vDeg vThaw vTrc vTurb vLeft vLoad vWater (vTrips + 1) m_5 vBRow vBSum vCell vDirt vAim vErr vCor vBrk vTop vLm vRows vCols vDown vRight vBound vStrain vPrice vFirm (upZ (upZ vSums 0 ((vSums 0) + ((alZ f_4) + m_5))) 1 (((upZ vSums 0 ((vSums 0) + ((alZ f_4) + m_5))) 1) + m_5)) f_1 f_4 vSom vHad) H := hP
    have hD : va_D A (mW ad y vThrown vN vC vNow vHaze vCold vHot vPipe vDeg vThaw vTrc vTurb vLeft vLoad vWater (vTrips + 1) m_5 vBRow vBSum vCell vDirt vAim vErr vCor vBrk vTop vLm vRows vCols vDown vRight vBound vStrain vPrice vFirm (upZ (upZ vSums 0 ((vSums 0) + ((alZ f_4) + m_5))) 1 (((upZ vSums 0 ((vSums 0) + ((alZ f_4) + m_5))) 1) + m_5)) f_1 f_4 vSom vHad) := hD
    refine lv_aload_n hx hb dX8_shines_75 rfl (lv_at hl 1 rfl) ?_
    refine va_get (D := G) (ci := 9) (v := .ref (ad 17)) (C := RX8) (T := TX8) (N := 40) hx hb hts hinwsX80 hown hK hP 0 rfl rfl 19 (by decide) (hts (.fieldLink RX8 59 "HeliokeepModel" "sums" "[J") (List.mem_of_getElem? (i := 1) rfl)) (fun _ h9 => h9) rfl dX8_shines_76 ?_
    refine hz_iconst hx hb dX8_shines_79 ?_
    refine lv_dup2_11 hx hb dX8_shines_80 rfl rfl ?_
    refine hz_lald (f := (upZ (upZ vSums 0 ((vSums 0) + ((alZ f_4) + m_5))) 1 (((upZ vSums 0 ((vSums 0) + ((alZ f_4) + m_5))) 1) + m_5))) hx hb hK hP 17 1 rfl rfl (Nat.le_of_ble_eq_true rfl) (by omega) dX8_shines_81 ?_
    refine lv_iload_n hx hb dX8_shines_82 rfl (lv_at hl 0 rfl) ?_
    refine hz_i2l hx hb dX8_shines_83 (by omega) ?_
    refine hz_ladd hx hb dX8_shines_84 ?_
    refine hz_last (f := (upZ (upZ vSums 0 ((vSums 0) + ((alZ f_4) + m_5))) 1 (((upZ vSums 0 ((vSums 0) + ((alZ f_4) + m_5))) 1) + m_5))) hx hb hK hP hD hS 17 1 rfl rfl (Nat.le_of_ble_eq_true rfl) (by omega) dX8_shines_85 (fun H locs hP hD hS => ?_)
    have hP : va_P G vwCl (mW ad y vThrown vN vC vNow vHaze vCold vHot vPipe vDeg vThaw vTrc vTurb vLeft vLoad vWater (vTrips + 1) m_5 vBRow vBSum vCell vDirt vAim vErr vCor vBrk vTop vLm vRows vCols vDown vRight vBound vStrain vPrice vFirm (upZ (upZ (upZ vSums 0 ((vSums 0) + ((alZ f_4) + m_5))) 1 (((upZ vSums 0 ((vSums 0) + ((alZ f_4) + m_5))) 1) + m_5)) 2 (((upZ (upZ vSums 0 ((vSums 0) + ((alZ f_4) + m_5))) 1 (((upZ vSums 0 ((vSums 0) + ((alZ f_4) + m_5))) 1) + m_5)) 2) + (alZ f_4))) f_1 f_4 vSom vHad) H := hP
    have hD : va_D A (mW ad y vThrown vN vC vNow vHaze vCold vHot vPipe vDeg vThaw vTrc vTurb vLeft vLoad vWater (vTrips + 1) m_5 vBRow vBSum vCell vDirt vAim vErr vCor vBrk vTop vLm vRows vCols vDown vRight vBound vStrain vPrice vFirm (upZ (upZ (upZ vSums 0 ((vSums 0) + ((alZ f_4) + m_5))) 1 (((upZ vSums 0 ((vSums 0) + ((alZ f_4) + m_5))) 1) + m_5)) 2 (((upZ (upZ vSums 0 ((vSums 0) + ((alZ f_4) + m_5))) 1 (((upZ vSums 0 ((vSums 0) + ((alZ f_4) + m_5))) 1) + m_5)) 2) + (alZ f_4))) f_1 f_4 vSom vHad) := hD
    refine hz_iconst hx hb dX8_shines_86 ?_
    refine lv_istore_n (lv' := [(2, zi 0), (1, zi (alZ f_4)), (0, .ref (ad 0))]) hx hb dX8_shines_87 rfl hl (by decide) rfl (fun ls hl => ?_)
    have L88 : ∀ (n : Nat) (kp : Int) (f : Int → Int) (H : Heap) (locs : List Loc), (0 ≤ kp ∧ kp ≤ 6) → (f = snZ vStrain f_4 vBound kp) → ((6 - kp).toNat) < n → va_P G vwCl (mW ad y vThrown vN vC vNow vHaze vCold vHot vPipe vDeg vThaw vTrc vTurb vLeft vLoad vWater (vTrips + 1) m_5 vBRow vBSum vCell vDirt vAim vErr vCor vBrk vTop vLm vRows vCols vDown vRight vBound f vPrice vFirm (upZ (upZ (upZ vSums 0 ((vSums 0) + ((alZ f_4) + m_5))) 1 (((upZ vSums 0 ((vSums 0) + ((alZ f_4) + m_5))) 1) + m_5)) 2 (((upZ (upZ vSums 0 ((vSums 0) + ((alZ f_4) + m_5))) 1 (((upZ vSums 0 ((vSums 0) + ((alZ f_4) + m_5))) 1) + m_5)) 2) + (alZ f_4))) f_1 f_4 vSom vHad) H → va_D A (mW ad y vThrown vN vC vNow vHaze vCold vHot vPipe vDeg vThaw vTrc vTurb vLeft vLoad vWater (vTrips + 1) m_5 vBRow vBSum vCell vDirt vAim vErr vCor vBrk vTop vLm vRows vCols vDown vRight vBound f vPrice vFirm (upZ (upZ (upZ vSums 0 ((vSums 0) + ((alZ f_4) + m_5))) 1 (((upZ vSums 0 ((vSums 0) + ((alZ f_4) + m_5))) 1) + m_5)) 2 (((upZ (upZ vSums 0 ((vSums 0) + ((alZ f_4) + m_5))) 1 (((upZ vSums 0 ((vSums 0) + ((alZ f_4) + m_5))) 1) + m_5)) 2) + (alZ f_4))) f_1 f_4 vSom vHad) → va_S A s.heap H locs → ∀ ls : Array Slot, lv_has ls 3 [(0, .ref (ad 0)), (2, zi kp)] → W p l e (headSpec wsX8_shines ({ frames := 4, cells := 0, slots := 0, locals := 95 })).room s m ([.ref (ad 0)] : List Value).toArray below meth c H locs 0 0 (MQ below (Q_X8_shines G y ad vThrown vN vC vNow vHaze vCold vHot vPipe vDeg vThaw vTrc vTurb vLeft vLoad vWater vTrips vMissed vBRow vBSum vCell vDirt vAim vErr vCor vBrk vTop vLm vRows vCols vDown vRight vBound vStrain vPrice vFirm vSums vRays vFalls vSom vHad A) ([.ref (ad 0)] : List Value).toArray s 0 0 A) (F0 m 88 ls []) := by
      intro n
      induction n with
      | zero => exact fun kp f H locs h_k88 h_f88 hm => absurd hm (Nat.not_lt_zero _)
      | succ n ih88 =>
        intro kp f H locs h_k88 h_f88 hm88 hP hD hS ls hl
        refine lv_iload_n hx hb dX8_shines_88 rfl (lv_at hl 1 rfl) ?_
        refine hz_bipush hx hb dX8_shines_89 (by decide) ?_
        refine hz_icmp_ge (tgt := 129) hx hb dX8_shines_91 (by decide) (by omega) (fun c10 => ?_) (fun c10 => ?_)
        · refine hz_iconst hx hb dX8_shines_129 ?_
          refine lv_istore_n (lv' := [(2, zi 0), (0, .ref (ad 0))]) hx hb dX8_shines_130 rfl hl (by decide) rfl (fun ls hl => ?_)
          have L131 : ∀ (n : Nat) (k : Int) (f2 : Int → Int) (H : Heap) (locs : List Loc), (0 ≤ k ∧ k ≤ vN) → (f2 = stZ vAim vBrk k) → ((vN - k).toNat) < n → va_P G vwCl (mW ad y vThrown vN vC vNow vHaze vCold vHot vPipe vDeg vThaw vTrc vTurb vLeft vLoad vWater (vTrips + 1) m_5 vBRow vBSum vCell vDirt f2 vErr vCor vBrk vTop vLm vRows vCols vDown vRight vBound f vPrice vFirm (upZ (upZ (upZ vSums 0 ((vSums 0) + ((alZ f_4) + m_5))) 1 (((upZ vSums 0 ((vSums 0) + ((alZ f_4) + m_5))) 1) + m_5)) 2 (((upZ (upZ vSums 0 ((vSums 0) + ((alZ f_4) + m_5))) 1 (((upZ vSums 0 ((vSums 0) + ((alZ f_4) + m_5))) 1) + m_5)) 2) + (alZ f_4))) f_1 f_4 vSom vHad) H → va_D A (mW ad y vThrown vN vC vNow vHaze vCold vHot vPipe vDeg vThaw vTrc vTurb vLeft vLoad vWater (vTrips + 1) m_5 vBRow vBSum vCell vDirt f2 vErr vCor vBrk vTop vLm vRows vCols vDown vRight vBound f vPrice vFirm (upZ (upZ (upZ vSums 0 ((vSums 0) + ((alZ f_4) + m_5))) 1 (((upZ vSums 0 ((vSums 0) + ((alZ f_4) + m_5))) 1) + m_5)) 2 (((upZ (upZ vSums 0 ((vSums 0) + ((alZ f_4) + m_5))) 1 (((upZ vSums 0 ((vSums 0) + ((alZ f_4) + m_5))) 1) + m_5)) 2) + (alZ f_4))) f_1 f_4 vSom vHad) → va_S A s.heap H locs → ∀ ls : Array Slot, lv_has ls 3 [(0, .ref (ad 0)), (2, zi k)] → W p l e (headSpec wsX8_shines ({ frames := 4, cells := 0, slots := 0, locals := 95 })).room s m ([.ref (ad 0)] : List Value).toArray below meth c H locs 0 0 (MQ below (Q_X8_shines G y ad vThrown vN vC vNow vHaze vCold vHot vPipe vDeg vThaw vTrc vTurb vLeft vLoad vWater vTrips vMissed vBRow vBSum vCell vDirt vAim vErr vCor vBrk vTop vLm vRows vCols vDown vRight vBound vStrain vPrice vFirm vSums vRays vFalls vSom vHad A) ([.ref (ad 0)] : List Value).toArray s 0 0 A) (F0 m 131 ls []) := by
            intro n
            induction n with
            | zero => exact fun k f2 H locs h_k131 h_f131 hm => absurd hm (Nat.not_lt_zero _)
            | succ n ih131 =>
              intro k f2 H locs h_k131 h_f131 hm131 hP hD hS ls hl
              refine lv_iload_n hx hb dX8_shines_131 rfl (lv_at hl 1 rfl) ?_
              refine lv_aload_n hx hb dX8_shines_132 rfl (lv_at hl 0 rfl) ?_
              refine va_get (D := G) (ci := 9) (v := zi vN) (C := RX8) (T := TX8) (N := 40) hx hb hts hinwsX80 hown hK hP 0 rfl rfl 1 (by decide) (hts (.fieldLink RX8 82 "HeliokeepModel" "mirrors" "I") (List.mem_of_getElem? (i := 7) rfl)) (fun _ h9 => h9) rfl dX8_shines_133 ?_
              refine hz_icmp_ge (tgt := 170) hx hb dX8_shines_136 (by decide) (by omega) (fun c11 => ?_) (fun c11 => ?_)
              · refine hz_iconst hx hb dX8_shines_170 ?_
                exact W.iret (v := zI 0) hx hb hr (fun t ht hW => ⟨⟨zI 0, (0, f_1, f_4, m_5, (upZ (upZ (upZ vSums 0 ((vSums 0) + ((alZ f_4) + m_5))) 1 (((upZ vSums 0 ((vSums 0) + ((alZ f_4) + m_5))) 1) + m_5)) 2 (((upZ (upZ vSums 0 ((vSums 0) + ((alZ f_4) + m_5))) 1 (((upZ vSums 0 ((vSums 0) + ((alZ f_4) + m_5))) 1) + m_5)) 2) + (alZ f_4))), (vTrips + 1), f, f2), rfl, ⟨rfl, ⟨(show (0 : Int) = (if trN (flZ vN vAim vErr vCor (ryZ vN vC vNow vHaze vCell vDirt vTop vLm vRows vCols vDown vRight) (-1) 0) vBound 6 = 1 then 0 else alZ (flZ vN vAim vErr vCor (ryZ vN vC vNow vHaze vCell vDirt vTop vLm vRows vCols vDown vRight) (-1) 0)) from by rw [← etr]; first | exact (if_pos (by omega)).symm | exact eal.trans (if_neg (by omega)).symm), (show 0 ≤ (0 : Int) ∧ (0 : Int) ≤ 68400 from by omega), (show (upZ (upZ (upZ vSums 0 ((vSums 0) + ((alZ f_4) + m_5))) 1 (((upZ vSums 0 ((vSums 0) + ((alZ f_4) + m_5))) 1) + m_5)) 2 (((upZ (upZ vSums 0 ((vSums 0) + ((alZ f_4) + m_5))) 1 (((upZ vSums 0 ((vSums 0) + ((alZ f_4) + m_5))) 1) + m_5)) 2) + (alZ f_4))) = (if trN (flZ vN vAim vErr vCor (ryZ vN vC vNow vHaze vCell vDirt vTop vLm vRows vCols vDown vRight) (-1) 0) vBound 6 = 1 then adZ (adZ (adZ vSums 0 (alZ (flZ vN vAim vErr vCor (ryZ vN vC vNow vHaze vCell vDirt vTop vLm vRows vCols vDown vRight) (-1) 0) + (msZ vN vAim vErr vCor (ryZ vN vC vNow vHaze vCell vDirt vTop vLm vRows vCols vDown vRight) (-1) 0))) 1 (msZ vN vAim vErr vCor (ryZ vN vC vNow vHaze vCell vDirt vTop vLm vRows vCols vDown vRight) (-1) 0)) 2 (alZ (flZ vN vAim vErr vCor (ryZ vN vC vNow vHaze vCell vDirt vTop vLm vRows vCols vDown vRight) (-1) 0)) else adZ (adZ (adZ vSums 0 (alZ (flZ vN vAim vErr vCor (ryZ vN vC vNow vHaze vCell vDirt vTop vLm vRows vCols vDown vRight) (-1) 0) + (msZ vN vAim vErr vCor (ryZ vN vC vNow vHaze vCell vDirt vTop vLm vRows vCols vDown vRight) (-1) 0))) 1 (msZ vN vAim vErr vCor (ryZ vN vC vNow vHaze vCell vDirt vTop vLm vRows vCols vDown vRight) (-1) 0)) 3 (alZ (flZ vN vAim vErr vCor (ryZ vN vC vNow vHaze vCell vDirt vTop vLm vRows vCols vDown vRight) (-1) 0))) from by rw [← etr, ← eal, ← ems]; first | exact (if_pos (by omega)).symm | exact (if_neg (by omega)).symm), (show (vTrips + 1) = (if trN (flZ vN vAim vErr vCor (ryZ vN vC vNow vHaze vCell vDirt vTop vLm vRows vCols vDown vRight) (-1) 0) vBound 6 = 1 then vTrips + 1 else vTrips) from by rw [← etr]; first | exact (if_pos (by omega)).symm | exact (if_neg (by omega)).symm), (show f = (if trN (flZ vN vAim vErr vCor (ryZ vN vC vNow vHaze vCell vDirt vTop vLm vRows vCols vDown vRight) (-1) 0) vBound 6 = 1 then snZ vStrain (flZ vN vAim vErr vCor (ryZ vN vC vNow vHaze vCell vDirt vTop vLm vRows vCols vDown vRight) (-1) 0) vBound 6 else vStrain) from by rw [← etr]; first | exact (if_neg (by omega)).symm | (rw [if_pos (by omega), h_f88, show kp = 6 from by omega]; exact snZ_cong efa)), (show f2 = (if trN (flZ vN vAim vErr vCor (ryZ vN vC vNow vHaze vCell vDirt vTop vLm vRows vCols vDown vRight) (-1) 0) vBound 6 = 1 then stZ vAim vBrk vN else vAim) from by rw [← etr]; first | exact (if_neg (by omega)).symm | (rw [if_pos (by omega), h_f131, show k = vN from by omega])), (show ∀ k : Int, -1 ≤ f2 k ∧ f2 k ≤ 5 from by first | exact hAim | (rw [h_f131]; exact stZ_rng hAim))⟩⟩, hz_at hP ht⟩, hS.F ht⟩) hS.2.2 dX8_shines_171
              · refine lv_aload_n hx hb dX8_shines_139 rfl (lv_at hl 0 rfl) ?_
                refine va_get (D := G) (ci := 9) (v := .ref (ad 3)) (C := RX8) (T := TX8) (N := 40) hx hb hts hinwsX80 hown hK hP 0 rfl rfl 4 (by decide) (hts (.fieldLink RX8 16 "HeliokeepModel" "aimed" "[I") (List.mem_of_getElem? (i := 8) rfl)) (fun _ h9 => h9) rfl dX8_shines_140 ?_
                have qbk := hBrk k
                refine lv_iload_n hx hb dX8_shines_143 rfl (lv_at hl 1 rfl) ?_
                refine lv_aload_n hx hb dX8_shines_144 rfl (lv_at hl 0 rfl) ?_
                refine va_get (D := G) (ci := 9) (v := .ref (ad 6)) (C := RX8) (T := TX8) (N := 40) hx hb hts hinwsX80 hown hK hP 0 rfl rfl 7 (by decide) (hts (.fieldLink RX8 25 "HeliokeepModel" "isBroken" "[Z") (List.mem_of_getElem? (i := 9) rfl)) (fun _ h9 => h9) rfl dX8_shines_145 ?_
                refine lv_iload_n hx hb dX8_shines_148 rfl (lv_at hl 1 rfl) ?_
                refine hz_zald (f := vBrk) hx hb hK hP 6 2 rfl rfl (Nat.le_of_ble_eq_true rfl) (by omega) dX8_shines_149 ?_
                have q12 := hBrk k
                refine hz_if_eq (tgt := 162) hx hb dX8_shines_150 (by decide) (by omega) (fun c13 => ?_) (fun c13 => ?_)
                · refine hz_iconst hx hb dX8_shines_162 ?_
                  refine hz_iast (f := f2) hx hb hK hP hD hS 3 0 rfl rfl (Nat.le_of_ble_eq_true rfl) (by omega) dX8_shines_163 (fun H locs hP hD hS => ?_)
                  have hP : va_P G vwCl (mW ad y vThrown vN vC vNow vHaze vCold vHot vPipe vDeg vThaw vTrc vTurb vLeft vLoad vWater (vTrips + 1) m_5 vBRow vBSum vCell vDirt (upZ f2 k (-1)) vErr vCor vBrk vTop vLm vRows vCols vDown vRight vBound f vPrice vFirm (upZ (upZ (upZ vSums 0 ((vSums 0) + ((alZ f_4) + m_5))) 1 (((upZ vSums 0 ((vSums 0) + ((alZ f_4) + m_5))) 1) + m_5)) 2 (((upZ (upZ vSums 0 ((vSums 0) + ((alZ f_4) + m_5))) 1 (((upZ vSums 0 ((vSums 0) + ((alZ f_4) + m_5))) 1) + m_5)) 2) + (alZ f_4))) f_1 f_4 vSom vHad) H := hP
                  have hD : va_D A (mW ad y vThrown vN vC vNow vHaze vCold vHot vPipe vDeg vThaw vTrc vTurb vLeft vLoad vWater (vTrips + 1) m_5 vBRow vBSum vCell vDirt (upZ f2 k (-1)) vErr vCor vBrk vTop vLm vRows vCols vDown vRight vBound f vPrice vFirm (upZ (upZ (upZ vSums 0 ((vSums 0) + ((alZ f_4) + m_5))) 1 (((upZ vSums 0 ((vSums 0) + ((alZ f_4) + m_5))) 1) + m_5)) 2 (((upZ (upZ vSums 0 ((vSums 0) + ((alZ f_4) + m_5))) 1 (((upZ vSums 0 ((vSums 0) + ((alZ f_4) + m_5))) 1) + m_5)) 2) + (alZ f_4))) f_1 f_4 vSom vHad) := hD
                  refine hz_iinc (v := (k + 1)) (lv' := [(2, zi (k + 1)), (0, .ref (ad 0))]) hx hb dX8_shines_164 hl (k := 1) rfl (by omega) (by decide) rfl (fun ls hl => ?_)
                  refine lv_goto (tgt := 131) hx hb dX8_shines_167 (by decide) ?_
                  exact ih131 (k + 1) (upZ f2 k (-1)) _ _ (by omega) (by rw [h_f131]; first | exact stZ_n (by omega) (by omega) | exact stZ_y (by omega) (by omega)) (by omega) hP hD hS ls (lv_sub hl [1, 0] rfl)
                · refine lv_aload_n hx hb dX8_shines_153 rfl (lv_at hl 0 rfl) ?_
                  refine va_get (D := G) (ci := 9) (v := .ref (ad 3)) (C := RX8) (T := TX8) (N := 40) hx hb hts hinwsX80 hown hK hP 0 rfl rfl 4 (by decide) (hts (.fieldLink RX8 16 "HeliokeepModel" "aimed" "[I") (List.mem_of_getElem? (i := 8) rfl)) (fun _ h9 => h9) rfl dX8_shines_154 ?_
                  refine lv_iload_n hx hb dX8_shines_157 rfl (lv_at hl 1 rfl) ?_
                  refine hz_iald (f := f2) hx hb hK hP 3 0 rfl rfl (Nat.le_of_ble_eq_true rfl) (by omega) dX8_shines_158 ?_
                  refine lv_goto (tgt := 163) hx hb dX8_shines_159 (by decide) ?_
                  refine hz_iast (f := f2) hx hb hK hP hD hS 3 0 rfl rfl (Nat.le_of_ble_eq_true rfl) (by omega) dX8_shines_163 (fun H locs hP hD hS => ?_)
                  have hP : va_P G vwCl (mW ad y vThrown vN vC vNow vHaze vCold vHot vPipe vDeg vThaw vTrc vTurb vLeft vLoad vWater (vTrips + 1) m_5 vBRow vBSum vCell vDirt (upZ f2 k (f2 k)) vErr vCor vBrk vTop vLm vRows vCols vDown vRight vBound f vPrice vFirm (upZ (upZ (upZ vSums 0 ((vSums 0) + ((alZ f_4) + m_5))) 1 (((upZ vSums 0 ((vSums 0) + ((alZ f_4) + m_5))) 1) + m_5)) 2 (((upZ (upZ vSums 0 ((vSums 0) + ((alZ f_4) + m_5))) 1 (((upZ vSums 0 ((vSums 0) + ((alZ f_4) + m_5))) 1) + m_5)) 2) + (alZ f_4))) f_1 f_4 vSom vHad) H := hP
                  have hD : va_D A (mW ad y vThrown vN vC vNow vHaze vCold vHot vPipe vDeg vThaw vTrc vTurb vLeft vLoad vWater (vTrips + 1) m_5 vBRow vBSum vCell vDirt (upZ f2 k (f2 k)) vErr vCor vBrk vTop vLm vRows vCols vDown vRight vBound f vPrice vFirm (upZ (upZ (upZ vSums 0 ((vSums 0) + ((alZ f_4) + m_5))) 1 (((upZ vSums 0 ((vSums 0) + ((alZ f_4) + m_5))) 1) + m_5)) 2 (((upZ (upZ vSums 0 ((vSums 0) + ((alZ f_4) + m_5))) 1 (((upZ vSums 0 ((vSums 0) + ((alZ f_4) + m_5))) 1) + m_5)) 2) + (alZ f_4))) f_1 f_4 vSom vHad) := hD
                  refine hz_iinc (v := (k + 1)) (lv' := [(2, zi (k + 1)), (0, .ref (ad 0))]) hx hb dX8_shines_164 hl (k := 1) rfl (by omega) (by decide) rfl (fun ls hl => ?_)
                  refine lv_goto (tgt := 131) hx hb dX8_shines_167 (by decide) ?_
                  exact ih131 (k + 1) (upZ f2 k (f2 k)) _ _ (by omega) (by rw [h_f131]; first | exact stZ_n (by omega) (by omega) | exact stZ_y (by omega) (by omega)) (by omega) hP hD hS ls (lv_sub hl [1, 0] rfl)
          exact L131 _ 0 vAim _ _ (by omega) (stZ_0.symm) (Nat.lt_succ_self _) hP hD hS ls (lv_sub hl [1, 0] rfl)
        · have qff := p6 kp h_k88.1 (by omega)
          have qbo := hBound kp
          refine lv_aload_n hx hb dX8_shines_94 rfl (lv_at hl 0 rfl) ?_
          refine va_get (D := G) (ci := 9) (v := .ref (ad 14)) (C := RX8) (T := TX8) (N := 40) hx hb hts hinwsX80 hown hK hP 0 rfl rfl 16 (by decide) (hts (.fieldLink RX8 50 "HeliokeepModel" "strain" "[I") (List.mem_of_getElem? (i := 4) rfl)) (fun _ h9 => h9) rfl dX8_shines_95 ?_
          refine lv_iload_n hx hb dX8_shines_98 rfl (lv_at hl 1 rfl) ?_
          refine lv_dup2_11 hx hb dX8_shines_99 rfl rfl ?_
          refine hz_iald (f := f) hx hb hK hP 14 0 rfl rfl (Nat.le_of_ble_eq_true rfl) (by omega) dX8_shines_100 ?_
          refine lv_aload_n hx hb dX8_shines_101 rfl (lv_at hl 0 rfl) ?_
          refine va_get (D := G) (ci := 9) (v := .ref (ad 19)) (C := RX8) (T := TX8) (N := 40) hx hb hts hinwsX80 hown hK hP 0 rfl rfl 34 (by decide) (hts (.fieldLink RX8 70 "HeliokeepModel" "falls" "[I") (List.mem_of_getElem? (i := 5) rfl)) (fun _ h9 => h9) rfl dX8_shines_102 ?_
          refine lv_iload_n hx hb dX8_shines_105 rfl (lv_at hl 1 rfl) ?_
          refine hz_iald (f := f_4) hx hb hK hP 19 0 rfl rfl (Nat.le_of_ble_eq_true rfl) (by omega) dX8_shines_106 ?_
          have q14 := p6 kp
          refine lv_aload_n hx hb dX8_shines_107 rfl (lv_at hl 0 rfl) ?_
          refine va_get (D := G) (ci := 9) (v := .ref (ad 13)) (C := RX8) (T := TX8) (N := 40) hx hb hts hinwsX80 hown hK hP 0 rfl rfl 15 (by decide) (hts (.fieldLink RX8 47 "HeliokeepModel" "bound" "[I") (List.mem_of_getElem? (i := 6) rfl)) (fun _ h9 => h9) rfl dX8_shines_108 ?_
          refine lv_iload_n hx hb dX8_shines_111 rfl (lv_at hl 1 rfl) ?_
          refine hz_iald (f := vBound) hx hb hK hP 13 0 rfl rfl (Nat.le_of_ble_eq_true rfl) (by omega) dX8_shines_112 ?_
          have q15 := hBound kp
          refine hz_icmp_le (tgt := 120) hx hb dX8_shines_113 (by decide) (by omega) (fun c16 => ?_) (fun c16 => ?_)
          · refine hz_iconst hx hb dX8_shines_120 ?_
            refine hz_iadd hx hb dX8_shines_121 ?_
            refine hz_iast (f := f) hx hb hK hP hD hS 14 0 rfl rfl (Nat.le_of_ble_eq_true rfl) (by omega) dX8_shines_122 (fun H locs hP hD hS => ?_)
            have hP : va_P G vwCl (mW ad y vThrown vN vC vNow vHaze vCold vHot vPipe vDeg vThaw vTrc vTurb vLeft vLoad vWater (vTrips + 1) m_5 vBRow vBSum vCell vDirt vAim vErr vCor vBrk vTop vLm vRows vCols vDown vRight vBound (upZ f kp ((f kp) + 0)) vPrice vFirm (upZ (upZ (upZ vSums 0 ((vSums 0) + ((alZ f_4) + m_5))) 1 (((upZ vSums 0 ((vSums 0) + ((alZ f_4) + m_5))) 1) + m_5)) 2 (((upZ (upZ vSums 0 ((vSums 0) + ((alZ f_4) + m_5))) 1 (((upZ vSums 0 ((vSums 0) + ((alZ f_4) + m_5))) 1) + m_5)) 2) + (alZ f_4))) f_1 f_4 vSom vHad) H := hP
            have hD : va_D A (mW ad y vThrown vN vC vNow vHaze vCold vHot vPipe vDeg vThaw vTrc vTurb vLeft vLoad vWater (vTrips + 1) m_5 vBRow vBSum vCell vDirt vAim vErr vCor vBrk vTop vLm vRows vCols vDown vRight vBound (upZ f kp ((f kp) + 0)) vPrice vFirm (upZ (upZ (upZ vSums 0 ((vSums 0) + ((alZ f_4) + m_5))) 1 (((upZ vSums 0 ((vSums 0) + ((alZ f_4) + m_5))) 1) + m_5)) 2 (((upZ (upZ vSums 0 ((vSums 0) + ((alZ f_4) + m_5))) 1 (((upZ vSums 0 ((vSums 0) + ((alZ f_4) + m_5))) 1) + m_5)) 2) + (alZ f_4))) f_1 f_4 vSom vHad) := hD
            refine hz_iinc (v := (kp + 1)) (lv' := [(2, zi (kp + 1)), (0, .ref (ad 0))]) hx hb dX8_shines_123 hl (k := 1) rfl (by omega) (by decide) rfl (fun ls hl => ?_)
            refine lv_goto (tgt := 88) hx hb dX8_shines_126 (by decide) ?_
            exact ih88 (kp + 1) (upZ f kp ((f kp) + 0)) _ _ (by omega) (by rw [h_f88]; first | exact snZ_y (by omega) (by omega) | exact snZ_n (by omega) (by omega)) (by omega) hP hD hS ls (lv_sub hl [1, 0] rfl)
          · refine hz_iconst hx hb dX8_shines_116 ?_
            refine lv_goto (tgt := 121) hx hb dX8_shines_117 (by decide) ?_
            refine hz_iadd hx hb dX8_shines_121 ?_
            refine hz_iast (f := f) hx hb hK hP hD hS 14 0 rfl rfl (Nat.le_of_ble_eq_true rfl) (by omega) dX8_shines_122 (fun H locs hP hD hS => ?_)
            have hP : va_P G vwCl (mW ad y vThrown vN vC vNow vHaze vCold vHot vPipe vDeg vThaw vTrc vTurb vLeft vLoad vWater (vTrips + 1) m_5 vBRow vBSum vCell vDirt vAim vErr vCor vBrk vTop vLm vRows vCols vDown vRight vBound (upZ f kp ((f kp) + 1)) vPrice vFirm (upZ (upZ (upZ vSums 0 ((vSums 0) + ((alZ f_4) + m_5))) 1 (((upZ vSums 0 ((vSums 0) + ((alZ f_4) + m_5))) 1) + m_5)) 2 (((upZ (upZ vSums 0 ((vSums 0) + ((alZ f_4) + m_5))) 1 (((upZ vSums 0 ((vSums 0) + ((alZ f_4) + m_5))) 1) + m_5)) 2) + (alZ f_4))) f_1 f_4 vSom vHad) H := hP
            have hD : va_D A (mW ad y vThrown vN vC vNow vHaze vCold vHot vPipe vDeg vThaw vTrc vTurb vLeft vLoad vWater (vTrips + 1) m_5 vBRow vBSum vCell vDirt vAim vErr vCor vBrk vTop vLm vRows vCols vDown vRight vBound (upZ f kp ((f kp) + 1)) vPrice vFirm (upZ (upZ (upZ vSums 0 ((vSums 0) + ((alZ f_4) + m_5))) 1 (((upZ vSums 0 ((vSums 0) + ((alZ f_4) + m_5))) 1) + m_5)) 2 (((upZ (upZ vSums 0 ((vSums 0) + ((alZ f_4) + m_5))) 1 (((upZ vSums 0 ((vSums 0) + ((alZ f_4) + m_5))) 1) + m_5)) 2) + (alZ f_4))) f_1 f_4 vSom vHad) := hD
            refine hz_iinc (v := (kp + 1)) (lv' := [(2, zi (kp + 1)), (0, .ref (ad 0))]) hx hb dX8_shines_123 hl (k := 1) rfl (by omega) (by decide) rfl (fun ls hl => ?_)
            refine lv_goto (tgt := 88) hx hb dX8_shines_126 (by decide) ?_
            exact ih88 (kp + 1) (upZ f kp ((f kp) + 1)) _ _ (by omega) (by rw [h_f88]; first | exact snZ_y (by omega) (by omega) | exact snZ_n (by omega) (by omega)) (by omega) hP hD hS ls (lv_sub hl [1, 0] rfl)
    exact L88 _ 0 vStrain _ _ (by omega) (snZ_0.symm) (Nat.lt_succ_self _) hP hD hS ls (lv_sub hl [2, 0] rfl)
  · refine lv_aload_n hx hb dX8_shines_52 rfl (lv_at hl 1 rfl) ?_
    refine va_get (D := G) (ci := 9) (v := .ref (ad 17)) (C := RX8) (T := TX8) (N := 40) hx hb hts hinwsX80 hown hK hP 0 rfl rfl 19 (by decide) (hts (.fieldLink RX8 59 "HeliokeepModel" "sums" "[J") (List.mem_of_getElem? (i := 1) rfl)) (fun _ h9 => h9) rfl dX8_shines_53 ?_
    refine hz_iconst hx hb dX8_shines_56 ?_
    refine lv_dup2_11 hx hb dX8_shines_57 rfl rfl ?_
    refine hz_lald (f := (upZ (upZ vSums 0 ((vSums 0) + ((alZ f_4) + m_5))) 1 (((upZ vSums 0 ((vSums 0) + ((alZ f_4) + m_5))) 1) + m_5))) hx hb hK hP 17 1 rfl rfl (Nat.le_of_ble_eq_true rfl) (by omega) dX8_shines_58 ?_
    refine lv_iload_n hx hb dX8_shines_59 rfl (lv_at hl 0 rfl) ?_
    refine hz_i2l hx hb dX8_shines_60 (by omega) ?_
    refine hz_ladd hx hb dX8_shines_61 ?_
    refine hz_last (f := (upZ (upZ vSums 0 ((vSums 0) + ((alZ f_4) + m_5))) 1 (((upZ vSums 0 ((vSums 0) + ((alZ f_4) + m_5))) 1) + m_5))) hx hb hK hP hD hS 17 1 rfl rfl (Nat.le_of_ble_eq_true rfl) (by omega) dX8_shines_62 (fun H locs hP hD hS => ?_)
    have hP : va_P G vwCl (mW ad y vThrown vN vC vNow vHaze vCold vHot vPipe vDeg vThaw vTrc vTurb vLeft vLoad vWater vTrips m_5 vBRow vBSum vCell vDirt vAim vErr vCor vBrk vTop vLm vRows vCols vDown vRight vBound vStrain vPrice vFirm (upZ (upZ (upZ vSums 0 ((vSums 0) + ((alZ f_4) + m_5))) 1 (((upZ vSums 0 ((vSums 0) + ((alZ f_4) + m_5))) 1) + m_5)) 3 (((upZ (upZ vSums 0 ((vSums 0) + ((alZ f_4) + m_5))) 1 (((upZ vSums 0 ((vSums 0) + ((alZ f_4) + m_5))) 1) + m_5)) 3) + (alZ f_4))) f_1 f_4 vSom vHad) H := hP
    have hD : va_D A (mW ad y vThrown vN vC vNow vHaze vCold vHot vPipe vDeg vThaw vTrc vTurb vLeft vLoad vWater vTrips m_5 vBRow vBSum vCell vDirt vAim vErr vCor vBrk vTop vLm vRows vCols vDown vRight vBound vStrain vPrice vFirm (upZ (upZ (upZ vSums 0 ((vSums 0) + ((alZ f_4) + m_5))) 1 (((upZ vSums 0 ((vSums 0) + ((alZ f_4) + m_5))) 1) + m_5)) 3 (((upZ (upZ vSums 0 ((vSums 0) + ((alZ f_4) + m_5))) 1 (((upZ vSums 0 ((vSums 0) + ((alZ f_4) + m_5))) 1) + m_5)) 3) + (alZ f_4))) f_1 f_4 vSom vHad) := hD
    refine lv_iload_n hx hb dX8_shines_63 rfl (lv_at hl 0 rfl) ?_
    exact W.iret (v := zI (alZ f_4)) hx hb hr (fun t ht hW => ⟨⟨zI (alZ f_4), ((alZ f_4), f_1, f_4, m_5, (upZ (upZ (upZ vSums 0 ((vSums 0) + ((alZ f_4) + m_5))) 1 (((upZ vSums 0 ((vSums 0) + ((alZ f_4) + m_5))) 1) + m_5)) 3 (((upZ (upZ vSums 0 ((vSums 0) + ((alZ f_4) + m_5))) 1 (((upZ vSums 0 ((vSums 0) + ((alZ f_4) + m_5))) 1) + m_5)) 3) + (alZ f_4))), vTrips, vStrain, vAim), rfl, ⟨rfl, ⟨(show (alZ f_4) = (if trN (flZ vN vAim vErr vCor (ryZ vN vC vNow vHaze vCell vDirt vTop vLm vRows vCols vDown vRight) (-1) 0) vBound 6 = 1 then 0 else alZ (flZ vN vAim vErr vCor (ryZ vN vC vNow vHaze vCell vDirt vTop vLm vRows vCols vDown vRight) (-1) 0)) from by rw [← etr]; first | exact (if_pos (by omega)).symm | exact eal.trans (if_neg (by omega)).symm), (show 0 ≤ (alZ f_4) ∧ (alZ f_4) ≤ 68400 from by omega), (show (upZ (upZ (upZ vSums 0 ((vSums 0) + ((alZ f_4) + m_5))) 1 (((upZ vSums 0 ((vSums 0) + ((alZ f_4) + m_5))) 1) + m_5)) 3 (((upZ (upZ vSums 0 ((vSums 0) + ((alZ f_4) + m_5))) 1 (((upZ vSums 0 ((vSums 0) + ((alZ f_4) + m_5))) 1) + m_5)) 3) + (alZ f_4))) = (if trN (flZ vN vAim vErr vCor (ryZ vN vC vNow vHaze vCell vDirt vTop vLm vRows vCols vDown vRight) (-1) 0) vBound 6 = 1 then adZ (adZ (adZ vSums 0 (alZ (flZ vN vAim vErr vCor (ryZ vN vC vNow vHaze vCell vDirt vTop vLm vRows vCols vDown vRight) (-1) 0) + (msZ vN vAim vErr vCor (ryZ vN vC vNow vHaze vCell vDirt vTop vLm vRows vCols vDown vRight) (-1) 0))) 1 (msZ vN vAim vErr vCor (ryZ vN vC vNow vHaze vCell vDirt vTop vLm vRows vCols vDown vRight) (-1) 0)) 2 (alZ (flZ vN vAim vErr vCor (ryZ vN vC vNow vHaze vCell vDirt vTop vLm vRows vCols vDown vRight) (-1) 0)) else adZ (adZ (adZ vSums 0 (alZ (flZ vN vAim vErr vCor (ryZ vN vC vNow vHaze vCell vDirt vTop vLm vRows vCols vDown vRight) (-1) 0) + (msZ vN vAim vErr vCor (ryZ vN vC vNow vHaze vCell vDirt vTop vLm vRows vCols vDown vRight) (-1) 0))) 1 (msZ vN vAim vErr vCor (ryZ vN vC vNow vHaze vCell vDirt vTop vLm vRows vCols vDown vRight) (-1) 0)) 3 (alZ (flZ vN vAim vErr vCor (ryZ vN vC vNow vHaze vCell vDirt vTop vLm vRows vCols vDown vRight) (-1) 0))) from by rw [← etr, ← eal, ← ems]; first | exact (if_pos (by omega)).symm | exact (if_neg (by omega)).symm), (show vTrips = (if trN (flZ vN vAim vErr vCor (ryZ vN vC vNow vHaze vCell vDirt vTop vLm vRows vCols vDown vRight) (-1) 0) vBound 6 = 1 then vTrips + 1 else vTrips) from by rw [← etr]; first | exact (if_pos (by omega)).symm | exact (if_neg (by omega)).symm), (show vStrain = (if trN (flZ vN vAim vErr vCor (ryZ vN vC vNow vHaze vCell vDirt vTop vLm vRows vCols vDown vRight) (-1) 0) vBound 6 = 1 then snZ vStrain (flZ vN vAim vErr vCor (ryZ vN vC vNow vHaze vCell vDirt vTop vLm vRows vCols vDown vRight) (-1) 0) vBound 6 else vStrain) from by rw [← etr]; first | exact (if_neg (by omega)).symm | (rw [if_pos (by omega), h_f88, show kp = 6 from by omega]; exact snZ_cong efa)), (show vAim = (if trN (flZ vN vAim vErr vCor (ryZ vN vC vNow vHaze vCell vDirt vTop vLm vRows vCols vDown vRight) (-1) 0) vBound 6 = 1 then stZ vAim vBrk vN else vAim) from by rw [← etr]; first | exact (if_neg (by omega)).symm | (rw [if_pos (by omega), h_f131, show k = vN from by omega])), (show ∀ k : Int, -1 ≤ vAim k ∧ vAim k ≤ 5 from by first | exact hAim | (rw [h_f131]; exact stZ_rng hAim))⟩⟩, hz_at hP ht⟩, hS.F ht⟩) hS.2.2 dX8_shines_64
abbrev Q_X8_comes (G : va_G) (y : Nat → ClassId) (ad : Nat → Nat) (vThrown vN vC vNow vHaze vCold vHot vPipe vDeg vThaw vTrc vTurb vLeft vLoad vWater vTrips vMissed vBRow vBSum : Int) (vCell vDirt vAim vErr vCor vBrk vTop vLm vRows vCols vDown vRight vBound vStrain vPrice vFirm vSums vRays vFalls vSom vHad : Int → Int) (heat : Int) (A : Nat → Prop) : Array Value → State → Outcome → State → Prop := va_Qi (fun (r : Int32) (u : Int × Int × Int × (Int → Int)) => r = zI (u.1) ∧ (u.1 = cmZ vPipe heat vCold) ∧ (u.2.1 = vCold - u.1) ∧ (u.2.2.1 = vHot + u.1) ∧ (u.2.2.2 = adZ (adZ vSums 4 (heat - 100 * u.1)) 5 u.1) ∧ (0 ≤ u.2.1 ∧ 0 ≤ u.2.2.1 ∧ u.2.1 + u.2.2.1 ≤ 1000) ∧ (0 ≤ u.1 ∧ u.1 ≤ 1000)) (fun (u : Int × Int × Int × (Int → Int)) t => va_P G vwCl (mW ad y vThrown vN vC vNow vHaze u.2.1 u.2.2.1 vPipe vDeg vThaw vTrc vTurb vLeft vLoad vWater vTrips vMissed vBRow vBSum vCell vDirt vAim vErr vCor vBrk vTop vLm vRows vCols vDown vRight vBound vStrain vPrice vFirm u.2.2.2 vRays vFalls vSom vHad) t.heap) A
set_option maxHeartbeats 4000000 in
set_option maxRecDepth 100000 in
theorem c_X8_comes (l : Launch) (G : va_G) (y : Nat → ClassId) (ad : Nat → Nat) (sz : Nat) (vThrown vN vC vNow vHaze vCold vHot vPipe vDeg vThaw vTrc vTurb vLeft vLoad vWater vTrips vMissed vBRow vBSum : Int) (vCell vDirt vAim vErr vCor vBrk vTop vLm vRows vCols vDown vRight vBound vStrain vPrice vFirm vSums vRays vFalls vSom vHad : Int → Int) (heat : Int) (hSalt : 0 ≤ vCold ∧ 0 ≤ vHot ∧ vCold + vHot ≤ 1000) (hPipe : 0 ≤ vPipe ∧ vPipe ≤ 2) (hh : 0 ≤ heat ∧ heat ≤ 68400) : Met l yX8_comes wsX8_comes ({ frames := 0, cells := 0, slots := 0, locals := 0 }) (va_Pc [.ref (ad 0), zi heat] (HPre G (tyL y) (mW ad y vThrown vN vC vNow vHaze vCold vHot vPipe vDeg vThaw vTrc vTurb vLeft vLoad vWater vTrips vMissed vBRow vBSum vCell vDirt vAim vErr vCor vBrk vTop vLm vRows vCols vDown vRight vBound vStrain vPrice vFirm vSums vRays vFalls vSom vHad) sz)) (Q_X8_comes G y ad vThrown vN vC vNow vHaze vCold vHot vPipe vDeg vThaw vTrc vTurb vLeft vLoad vWater vTrips vMissed vBRow vBSum vCell vDirt vAim vErr vCor vBrk vTop vLm vRows vCols vDown vRight vBound vStrain vPrice vFirm vSums vRays vFalls vSom vHad heat (va_A (mW ad y vThrown vN vC vNow vHaze vCold vHot vPipe vDeg vThaw vTrc vTurb vLeft vLoad vWater vTrips vMissed vBRow vBSum vCell vDirt vAim vErr vCor vBrk vTop vLm vRows vCols vDown vRight vBound vStrain vPrice vFirm vSums vRays vFalls vSom vHad) sz)) 0 0 (va_A (mW ad y vThrown vN vC vNow vHaze vCold vHot vPipe vDeg vThaw vTrc vTurb vLeft vLoad vWater vTrips vMissed vBRow vBSum vCell vDirt vAim vErr vCor vBrk vTop vLm vRows vCols vDown vRight vBound vStrain vPrice vFirm vSums vRays vFalls vSom vHad) sz) := by
  refine hz_ofW (Qf := Q_X8_comes G y ad vThrown vN vC vNow vHaze vCold vHot vPipe vDeg vThaw vTrc vTurb vLeft vLoad vWater vTrips vMissed vBRow vBSum vCell vDirt vAim vErr vCor vBrk vTop vLm vRows vCols vDown vRight vBound vStrain vPrice vFirm vSums vRays vFalls vSom vHad heat) (cc := cX8_comes) (maxL := 3) (ret := (some .int)) (by decide) rfl (Nat.le_of_ble_eq_true rfl) ?_
  intro p e s m below meth c A ls hx hb hr hts hown hin hlocks hml hP hK hA hD hS hl
  have hown : s.vm.findClass RX8 = some m.cls := hown
  have hl : lv_has ls 3 [(0, .ref (ad 0)), (1, zi heat)] := hl
  have hinwsX80 : ∀ w ∈ wsX80, w ∈ wsX8_comes := fun _ h => List.mem_cons_of_mem _ (List.mem_append_right _ (h))
  refine lv_aload_n hx hb dX8_comes_0 rfl (lv_at hl 0 rfl) ?_
  refine va_get (D := G) (ci := 9) (v := zi vPipe) (C := RX8) (T := TX8) (N := 40) hx hb hts hinwsX80 hown hK hP 0 rfl rfl 24 (by decide) (hts (.fieldLink RX8 181 "HeliokeepModel" "pipe" "I") (List.mem_of_getElem? (i := 1) rfl)) (fun _ h9 => h9) rfl dX8_comes_1 ?_
  refine hz_iconst hx hb dX8_comes_4 ?_
  refine hz_icmp_eq (tgt := 12) hx hb dX8_comes_5 (by decide) (by omega) (fun c1 => ?_) (fun c1 => ?_)
  · refine lv_iload_n hx hb dX8_comes_12 rfl (lv_at hl 1 rfl) ?_
    refine hz_bipush hx hb dX8_comes_13 (by decide) ?_
    refine hz_idiv hx hb dX8_comes_15 (by omega) ?_
    refine lv_aload_n hx hb dX8_comes_16 rfl (lv_at hl 0 rfl) ?_
    refine va_get (D := G) (ci := 9) (v := zi vCold) (C := RX8) (T := TX8) (N := 40) hx hb hts hinwsX80 hown hK hP 0 rfl rfl 22 (by decide) (hts (.fieldLink RX8 63 "HeliokeepModel" "cold" "I") (List.mem_of_getElem? (i := 2) rfl)) (fun _ h9 => h9) rfl dX8_comes_17 ?_
    refine hz_icmp_ge (tgt := 30) hx hb dX8_comes_20 (by decide) (by omega) (fun c2 => ?_) (fun c2 => ?_)
    · refine lv_aload_n hx hb dX8_comes_30 rfl (lv_at hl 0 rfl) ?_
      refine va_get (D := G) (ci := 9) (v := zi vCold) (C := RX8) (T := TX8) (N := 40) hx hb hts hinwsX80 hown hK hP 0 rfl rfl 22 (by decide) (hts (.fieldLink RX8 63 "HeliokeepModel" "cold" "I") (List.mem_of_getElem? (i := 2) rfl)) (fun _ h9 => h9) rfl dX8_comes_31 ?_
      refine lv_istore_n (lv' := [(2, zi vCold), (0, .ref (ad 0)), (1, zi heat)]) hx hb dX8_comes_34 rfl hl (by decide) rfl (fun ls hl => ?_)
      refine lv_aload_n hx hb dX8_comes_35 rfl (lv_at hl 1 rfl) ?_
      refine lv_dup hx hb dX8_comes_36 rfl ?_
      refine va_get (D := G) (ci := 9) (v := zi vCold) (C := RX8) (T := TX8) (N := 40) hx hb hts hinwsX80 hown hK hP 0 rfl rfl 22 (by decide) (hts (.fieldLink RX8 63 "HeliokeepModel" "cold" "I") (List.mem_of_getElem? (i := 2) rfl)) (fun _ h9 => h9) rfl dX8_comes_37 ?_
      refine lv_iload_n hx hb dX8_comes_40 rfl (lv_at hl 0 rfl) ?_
      refine hz_isub hx hb dX8_comes_41 ?_
      refine va_put (D := G) (ci := 9) (v := zi (vCold - vCold)) (ty := .int) (C := RX8) (T := TX8) (N := 40) hx hb hts hinwsX80 tyX8 tyX8_ok nmX8 hown hK hP hD hS 0 rfl rfl 22 (by decide) (hts (.fieldLink RX8 63 "HeliokeepModel" "cold" "I") (List.mem_of_getElem? (i := 2) rfl)) (fun _ h9 => h9) rfl (by decide +kernel) rfl rfl (Nat.le_of_ble_eq_true rfl) dX8_comes_42 (fun H locs hP hD hS => ?_)
      have hP : va_P G vwCl (mW ad y vThrown vN vC vNow vHaze (vCold - vCold) vHot vPipe vDeg vThaw vTrc vTurb vLeft vLoad vWater vTrips vMissed vBRow vBSum vCell vDirt vAim vErr vCor vBrk vTop vLm vRows vCols vDown vRight vBound vStrain vPrice vFirm vSums vRays vFalls vSom vHad) H := hP
      have hD : va_D A (mW ad y vThrown vN vC vNow vHaze (vCold - vCold) vHot vPipe vDeg vThaw vTrc vTurb vLeft vLoad vWater vTrips vMissed vBRow vBSum vCell vDirt vAim vErr vCor vBrk vTop vLm vRows vCols vDown vRight vBound vStrain vPrice vFirm vSums vRays vFalls vSom vHad) := hD
      refine lv_aload_n hx hb dX8_comes_45 rfl (lv_at hl 1 rfl) ?_
      refine lv_dup hx hb dX8_comes_46 rfl ?_
      refine va_get (D := G) (ci := 9) (v := zi vHot) (C := RX8) (T := TX8) (N := 40) hx hb hts hinwsX80 hown hK hP 0 rfl rfl 23 (by decide) (hts (.fieldLink RX8 178 "HeliokeepModel" "hot" "I") (List.mem_of_getElem? (i := 3) rfl)) (fun _ h9 => h9) rfl dX8_comes_47 ?_
      refine lv_iload_n hx hb dX8_comes_50 rfl (lv_at hl 0 rfl) ?_
      refine hz_iadd hx hb dX8_comes_51 ?_
      refine va_put (D := G) (ci := 9) (v := zi (vHot + vCold)) (ty := .int) (C := RX8) (T := TX8) (N := 40) hx hb hts hinwsX80 tyX8 tyX8_ok nmX8 hown hK hP hD hS 0 rfl rfl 23 (by decide) (hts (.fieldLink RX8 178 "HeliokeepModel" "hot" "I") (List.mem_of_getElem? (i := 3) rfl)) (fun _ h9 => h9) rfl (by decide +kernel) rfl rfl (Nat.le_of_ble_eq_true rfl) dX8_comes_52 (fun H locs hP hD hS => ?_)
      have hP : va_P G vwCl (mW ad y vThrown vN vC vNow vHaze (vCold - vCold) (vHot + vCold) vPipe vDeg vThaw vTrc vTurb vLeft vLoad vWater vTrips vMissed vBRow vBSum vCell vDirt vAim vErr vCor vBrk vTop vLm vRows vCols vDown vRight vBound vStrain vPrice vFirm vSums vRays vFalls vSom vHad) H := hP
      have hD : va_D A (mW ad y vThrown vN vC vNow vHaze (vCold - vCold) (vHot + vCold) vPipe vDeg vThaw vTrc vTurb vLeft vLoad vWater vTrips vMissed vBRow vBSum vCell vDirt vAim vErr vCor vBrk vTop vLm vRows vCols vDown vRight vBound vStrain vPrice vFirm vSums vRays vFalls vSom vHad) := hD
      refine lv_aload_n hx hb dX8_comes_55 rfl (lv_at hl 1 rfl) ?_
      refine va_get (D := G) (ci := 9) (v := .ref (ad 17)) (C := RX8) (T := TX8) (N := 40) hx hb hts hinwsX80 hown hK hP 0 rfl rfl 19 (by decide) (hts (.fieldLink RX8 59 "HeliokeepModel" "sums" "[J") (List.mem_of_getElem? (i := 4) rfl)) (fun _ h9 => h9) rfl dX8_comes_56 ?_
      refine hz_iconst hx hb dX8_comes_59 ?_
      refine lv_dup2_11 hx hb dX8_comes_60 rfl rfl ?_
      refine hz_lald (f := vSums) hx hb hK hP 17 1 rfl rfl (Nat.le_of_ble_eq_true rfl) (by omega) dX8_comes_61 ?_
      refine lv_iload_n hx hb dX8_comes_62 rfl (lv_at hl 2 rfl) ?_
      refine hz_bipush hx hb dX8_comes_63 (by decide) ?_
      refine lv_iload_n hx hb dX8_comes_65 rfl (lv_at hl 0 rfl) ?_
      refine hz_imul hx hb dX8_comes_66 ?_
      refine hz_isub hx hb dX8_comes_67 ?_
      refine hz_i2l hx hb dX8_comes_68 (by omega) ?_
      refine hz_ladd hx hb dX8_comes_69 ?_
      refine hz_last (f := vSums) hx hb hK hP hD hS 17 1 rfl rfl (Nat.le_of_ble_eq_true rfl) (by omega) dX8_comes_70 (fun H locs hP hD hS => ?_)
      have hP : va_P G vwCl (mW ad y vThrown vN vC vNow vHaze (vCold - vCold) (vHot + vCold) vPipe vDeg vThaw vTrc vTurb vLeft vLoad vWater vTrips vMissed vBRow vBSum vCell vDirt vAim vErr vCor vBrk vTop vLm vRows vCols vDown vRight vBound vStrain vPrice vFirm (upZ vSums 4 ((vSums 4) + (heat - (100 * vCold)))) vRays vFalls vSom vHad) H := hP
      have hD : va_D A (mW ad y vThrown vN vC vNow vHaze (vCold - vCold) (vHot + vCold) vPipe vDeg vThaw vTrc vTurb vLeft vLoad vWater vTrips vMissed vBRow vBSum vCell vDirt vAim vErr vCor vBrk vTop vLm vRows vCols vDown vRight vBound vStrain vPrice vFirm (upZ vSums 4 ((vSums 4) + (heat - (100 * vCold)))) vRays vFalls vSom vHad) := hD
      refine lv_aload_n hx hb dX8_comes_71 rfl (lv_at hl 1 rfl) ?_
      refine va_get (D := G) (ci := 9) (v := .ref (ad 17)) (C := RX8) (T := TX8) (N := 40) hx hb hts hinwsX80 hown hK hP 0 rfl rfl 19 (by decide) (hts (.fieldLink RX8 59 "HeliokeepModel" "sums" "[J") (List.mem_of_getElem? (i := 4) rfl)) (fun _ h9 => h9) rfl dX8_comes_72 ?_
      refine hz_iconst hx hb dX8_comes_75 ?_
      refine lv_dup2_11 hx hb dX8_comes_76 rfl rfl ?_
      refine hz_lald (f := (upZ vSums 4 ((vSums 4) + (heat - (100 * vCold))))) hx hb hK hP 17 1 rfl rfl (Nat.le_of_ble_eq_true rfl) (by omega) dX8_comes_77 ?_
      refine lv_iload_n hx hb dX8_comes_78 rfl (lv_at hl 0 rfl) ?_
      refine hz_i2l hx hb dX8_comes_79 (by omega) ?_
      refine hz_ladd hx hb dX8_comes_80 ?_
      refine hz_last (f := (upZ vSums 4 ((vSums 4) + (heat - (100 * vCold))))) hx hb hK hP hD hS 17 1 rfl rfl (Nat.le_of_ble_eq_true rfl) (by omega) dX8_comes_81 (fun H locs hP hD hS => ?_)
      have hP : va_P G vwCl (mW ad y vThrown vN vC vNow vHaze (vCold - vCold) (vHot + vCold) vPipe vDeg vThaw vTrc vTurb vLeft vLoad vWater vTrips vMissed vBRow vBSum vCell vDirt vAim vErr vCor vBrk vTop vLm vRows vCols vDown vRight vBound vStrain vPrice vFirm (upZ (upZ vSums 4 ((vSums 4) + (heat - (100 * vCold)))) 5 (((upZ vSums 4 ((vSums 4) + (heat - (100 * vCold)))) 5) + vCold)) vRays vFalls vSom vHad) H := hP
      have hD : va_D A (mW ad y vThrown vN vC vNow vHaze (vCold - vCold) (vHot + vCold) vPipe vDeg vThaw vTrc vTurb vLeft vLoad vWater vTrips vMissed vBRow vBSum vCell vDirt vAim vErr vCor vBrk vTop vLm vRows vCols vDown vRight vBound vStrain vPrice vFirm (upZ (upZ vSums 4 ((vSums 4) + (heat - (100 * vCold)))) 5 (((upZ vSums 4 ((vSums 4) + (heat - (100 * vCold)))) 5) + vCold)) vRays vFalls vSom vHad) := hD
      refine lv_iload_n hx hb dX8_comes_82 rfl (lv_at hl 0 rfl) ?_
      exact W.iret (v := zI vCold) hx hb hr (fun t ht hW => ⟨⟨zI vCold, (vCold, (vCold - vCold), (vHot + vCold), (upZ (upZ vSums 4 ((vSums 4) + (heat - (100 * vCold)))) 5 (((upZ vSums 4 ((vSums 4) + (heat - (100 * vCold)))) 5) + vCold))), rfl, ⟨rfl, ⟨(show vCold = cmZ vPipe heat vCold from by unfold cmZ; omega), (show (vCold - vCold) = vCold - vCold from by omega), (show (vHot + vCold) = vHot + vCold from by omega), (show (upZ (upZ vSums 4 ((vSums 4) + (heat - (100 * vCold)))) 5 (((upZ vSums 4 ((vSums 4) + (heat - (100 * vCold)))) 5) + vCold)) = adZ (adZ vSums 4 (heat - 100 * vCold)) 5 vCold from rfl), (show 0 ≤ (vCold - vCold) ∧ 0 ≤ (vHot + vCold) ∧ (vCold - vCold) + (vHot + vCold) ≤ 1000 from by omega), (show 0 ≤ vCold ∧ vCold ≤ 1000 from by omega)⟩⟩, hz_at hP ht⟩, hS.F ht⟩) hS.2.2 dX8_comes_83
    · refine lv_iload_n hx hb dX8_comes_23 rfl (lv_at hl 1 rfl) ?_
      refine hz_bipush hx hb dX8_comes_24 (by decide) ?_
      refine hz_idiv hx hb dX8_comes_26 (by omega) ?_
      refine lv_goto (tgt := 34) hx hb dX8_comes_27 (by decide) ?_
      refine lv_istore_n (lv' := [(2, zi (heat / 100)), (0, .ref (ad 0)), (1, zi heat)]) hx hb dX8_comes_34 rfl hl (by decide) rfl (fun ls hl => ?_)
      refine lv_aload_n hx hb dX8_comes_35 rfl (lv_at hl 1 rfl) ?_
      refine lv_dup hx hb dX8_comes_36 rfl ?_
      refine va_get (D := G) (ci := 9) (v := zi vCold) (C := RX8) (T := TX8) (N := 40) hx hb hts hinwsX80 hown hK hP 0 rfl rfl 22 (by decide) (hts (.fieldLink RX8 63 "HeliokeepModel" "cold" "I") (List.mem_of_getElem? (i := 2) rfl)) (fun _ h9 => h9) rfl dX8_comes_37 ?_
      refine lv_iload_n hx hb dX8_comes_40 rfl (lv_at hl 0 rfl) ?_
      refine hz_isub hx hb dX8_comes_41 ?_
      refine va_put (D := G) (ci := 9) (v := zi (vCold - (heat / 100))) (ty := .int) (C := RX8) (T := TX8) (N := 40) hx hb hts hinwsX80 tyX8 tyX8_ok nmX8 hown hK hP hD hS 0 rfl rfl 22 (by decide) (hts (.fieldLink RX8 63 "HeliokeepModel" "cold" "I") (List.mem_of_getElem? (i := 2) rfl)) (fun _ h9 => h9) rfl (by decide +kernel) rfl rfl (Nat.le_of_ble_eq_true rfl) dX8_comes_42 (fun H locs hP hD hS => ?_)
      have hP : va_P G vwCl (mW ad y vThrown vN vC vNow vHaze (vCold - (heat / 100)) vHot vPipe vDeg vThaw vTrc vTurb vLeft vLoad vWater vTrips vMissed vBRow vBSum vCell vDirt vAim vErr vCor vBrk vTop vLm vRows vCols vDown vRight vBound vStrain vPrice vFirm vSums vRays vFalls vSom vHad) H := hP
      have hD : va_D A (mW ad y vThrown vN vC vNow vHaze (vCold - (heat / 100)) vHot vPipe vDeg vThaw vTrc vTurb vLeft vLoad vWater vTrips vMissed vBRow vBSum vCell vDirt vAim vErr vCor vBrk vTop vLm vRows vCols vDown vRight vBound vStrain vPrice vFirm vSums vRays vFalls vSom vHad) := hD
      refine lv_aload_n hx hb dX8_comes_45 rfl (lv_at hl 1 rfl) ?_
      refine lv_dup hx hb dX8_comes_46 rfl ?_
      refine va_get (D := G) (ci := 9) (v := zi vHot) (C := RX8) (T := TX8) (N := 40) hx hb hts hinwsX80 hown hK hP 0 rfl rfl 23 (by decide) (hts (.fieldLink RX8 178 "HeliokeepModel" "hot" "I") (List.mem_of_getElem? (i := 3) rfl)) (fun _ h9 => h9) rfl dX8_comes_47 ?_
      refine lv_iload_n hx hb dX8_comes_50 rfl (lv_at hl 0 rfl) ?_
      refine hz_iadd hx hb dX8_comes_51 ?_
      refine va_put (D := G) (ci := 9) (v := zi (vHot + (heat / 100))) (ty := .int) (C := RX8) (T := TX8) (N := 40) hx hb hts hinwsX80 tyX8 tyX8_ok nmX8 hown hK hP hD hS 0 rfl rfl 23 (by decide) (hts (.fieldLink RX8 178 "HeliokeepModel" "hot" "I") (List.mem_of_getElem? (i := 3) rfl)) (fun _ h9 => h9) rfl (by decide +kernel) rfl rfl (Nat.le_of_ble_eq_true rfl) dX8_comes_52 (fun H locs hP hD hS => ?_)
      have hP : va_P G vwCl (mW ad y vThrown vN vC vNow vHaze (vCold - (heat / 100)) (vHot + (heat / 100)) vPipe vDeg vThaw vTrc vTurb vLeft vLoad vWater vTrips vMissed vBRow vBSum vCell vDirt vAim vErr vCor vBrk vTop vLm vRows vCols vDown vRight vBound vStrain vPrice vFirm vSums vRays vFalls vSom vHad) H := hP
      have hD : va_D A (mW ad y vThrown vN vC vNow vHaze (vCold - (heat / 100)) (vHot + (heat / 100)) vPipe vDeg vThaw vTrc vTurb vLeft vLoad vWater vTrips vMissed vBRow vBSum vCell vDirt vAim vErr vCor vBrk vTop vLm vRows vCols vDown vRight vBound vStrain vPrice vFirm vSums vRays vFalls vSom vHad) := hD
      refine lv_aload_n hx hb dX8_comes_55 rfl (lv_at hl 1 rfl) ?_
      refine va_get (D := G) (ci := 9) (v := .ref (ad 17)) (C := RX8) (T := TX8) (N := 40) hx hb hts hinwsX80 hown hK hP 0 rfl rfl 19 (by decide) (hts (.fieldLink RX8 59 "HeliokeepModel" "sums" "[J") (List.mem_of_getElem? (i := 4) rfl)) (fun _ h9 => h9) rfl dX8_comes_56 ?_
      refine hz_iconst hx hb dX8_comes_59 ?_
      refine lv_dup2_11 hx hb dX8_comes_60 rfl rfl ?_
      refine hz_lald (f := vSums) hx hb hK hP 17 1 rfl rfl (Nat.le_of_ble_eq_true rfl) (by omega) dX8_comes_61 ?_
      refine lv_iload_n hx hb dX8_comes_62 rfl (lv_at hl 2 rfl) ?_
      refine hz_bipush hx hb dX8_comes_63 (by decide) ?_
      refine lv_iload_n hx hb dX8_comes_65 rfl (lv_at hl 0 rfl) ?_
      refine hz_imul hx hb dX8_comes_66 ?_
      refine hz_isub hx hb dX8_comes_67 ?_
      refine hz_i2l hx hb dX8_comes_68 (by omega) ?_
      refine hz_ladd hx hb dX8_comes_69 ?_
      refine hz_last (f := vSums) hx hb hK hP hD hS 17 1 rfl rfl (Nat.le_of_ble_eq_true rfl) (by omega) dX8_comes_70 (fun H locs hP hD hS => ?_)
      have hP : va_P G vwCl (mW ad y vThrown vN vC vNow vHaze (vCold - (heat / 100)) (vHot + (heat / 100)) vPipe vDeg vThaw vTrc vTurb vLeft vLoad vWater vTrips vMissed vBRow vBSum vCell vDirt vAim vErr vCor vBrk vTop vLm vRows vCols vDown vRight vBound vStrain vPrice vFirm (upZ vSums 4 ((vSums 4) + (heat - (100 * (heat / 100))))) vRays vFalls vSom vHad) H := hP
      have hD : va_D A (mW ad y vThrown vN vC vNow vHaze (vCold - (heat / 100)) (vHot + (heat / 100)) vPipe vDeg vThaw vTrc vTurb vLeft vLoad vWater vTrips vMissed vBRow vBSum vCell vDirt vAim vErr vCor vBrk vTop vLm vRows vCols vDown vRight vBound vStrain vPrice vFirm (upZ vSums 4 ((vSums 4) + (heat - (100 * (heat / 100))))) vRays vFalls vSom vHad) := hD
      refine lv_aload_n hx hb dX8_comes_71 rfl (lv_at hl 1 rfl) ?_
      refine va_get (D := G) (ci := 9) (v := .ref (ad 17)) (C := RX8) (T := TX8) (N := 40) hx hb hts hinwsX80 hown hK hP 0 rfl rfl 19 (by decide) (hts (.fieldLink RX8 59 "HeliokeepModel" "sums" "[J") (List.mem_of_getElem? (i := 4) rfl)) (fun _ h9 => h9) rfl dX8_comes_72 ?_
      refine hz_iconst hx hb dX8_comes_75 ?_
      refine lv_dup2_11 hx hb dX8_comes_76 rfl rfl ?_
      refine hz_lald (f := (upZ vSums 4 ((vSums 4) + (heat - (100 * (heat / 100)))))) hx hb hK hP 17 1 rfl rfl (Nat.le_of_ble_eq_true rfl) (by omega) dX8_comes_77 ?_
      refine lv_iload_n hx hb dX8_comes_78 rfl (lv_at hl 0 rfl) ?_
      refine hz_i2l hx hb dX8_comes_79 (by omega) ?_
      refine hz_ladd hx hb dX8_comes_80 ?_
      refine hz_last (f := (upZ vSums 4 ((vSums 4) + (heat - (100 * (heat / 100)))))) hx hb hK hP hD hS 17 1 rfl rfl (Nat.le_of_ble_eq_true rfl) (by omega) dX8_comes_81 (fun H locs hP hD hS => ?_)
      have hP : va_P G vwCl (mW ad y vThrown vN vC vNow vHaze (vCold - (heat / 100)) (vHot + (heat / 100)) vPipe vDeg vThaw vTrc vTurb vLeft vLoad vWater vTrips vMissed vBRow vBSum vCell vDirt vAim vErr vCor vBrk vTop vLm vRows vCols vDown vRight vBound vStrain vPrice vFirm (upZ (upZ vSums 4 ((vSums 4) + (heat - (100 * (heat / 100))))) 5 (((upZ vSums 4 ((vSums 4) + (heat - (100 * (heat / 100))))) 5) + (heat / 100))) vRays vFalls vSom vHad) H := hP
      have hD : va_D A (mW ad y vThrown vN vC vNow vHaze (vCold - (heat / 100)) (vHot + (heat / 100)) vPipe vDeg vThaw vTrc vTurb vLeft vLoad vWater vTrips vMissed vBRow vBSum vCell vDirt vAim vErr vCor vBrk vTop vLm vRows vCols vDown vRight vBound vStrain vPrice vFirm (upZ (upZ vSums 4 ((vSums 4) + (heat - (100 * (heat / 100))))) 5 (((upZ vSums 4 ((vSums 4) + (heat - (100 * (heat / 100))))) 5) + (heat / 100))) vRays vFalls vSom vHad) := hD
      refine lv_iload_n hx hb dX8_comes_82 rfl (lv_at hl 0 rfl) ?_
      exact W.iret (v := zI (heat / 100)) hx hb hr (fun t ht hW => ⟨⟨zI (heat / 100), ((heat / 100), (vCold - (heat / 100)), (vHot + (heat / 100)), (upZ (upZ vSums 4 ((vSums 4) + (heat - (100 * (heat / 100))))) 5 (((upZ vSums 4 ((vSums 4) + (heat - (100 * (heat / 100))))) 5) + (heat / 100)))), rfl, ⟨rfl, ⟨(show (heat / 100) = cmZ vPipe heat vCold from by unfold cmZ; omega), (show (vCold - (heat / 100)) = vCold - (heat / 100) from by omega), (show (vHot + (heat / 100)) = vHot + (heat / 100) from by omega), (show (upZ (upZ vSums 4 ((vSums 4) + (heat - (100 * (heat / 100))))) 5 (((upZ vSums 4 ((vSums 4) + (heat - (100 * (heat / 100))))) 5) + (heat / 100))) = adZ (adZ vSums 4 (heat - 100 * (heat / 100))) 5 (heat / 100) from rfl), (show 0 ≤ (vCold - (heat / 100)) ∧ 0 ≤ (vHot + (heat / 100)) ∧ (vCold - (heat / 100)) + (vHot + (heat / 100)) ≤ 1000 from by omega), (show 0 ≤ (heat / 100) ∧ (heat / 100) ≤ 1000 from by omega)⟩⟩, hz_at hP ht⟩, hS.F ht⟩) hS.2.2 dX8_comes_83
  · refine hz_iconst hx hb dX8_comes_8 ?_
    refine lv_goto (tgt := 34) hx hb dX8_comes_9 (by decide) ?_
    refine lv_istore_n (lv' := [(2, zi 0), (0, .ref (ad 0)), (1, zi heat)]) hx hb dX8_comes_34 rfl hl (by decide) rfl (fun ls hl => ?_)
    refine lv_aload_n hx hb dX8_comes_35 rfl (lv_at hl 1 rfl) ?_
    refine lv_dup hx hb dX8_comes_36 rfl ?_
    refine va_get (D := G) (ci := 9) (v := zi vCold) (C := RX8) (T := TX8) (N := 40) hx hb hts hinwsX80 hown hK hP 0 rfl rfl 22 (by decide) (hts (.fieldLink RX8 63 "HeliokeepModel" "cold" "I") (List.mem_of_getElem? (i := 2) rfl)) (fun _ h9 => h9) rfl dX8_comes_37 ?_
    refine lv_iload_n hx hb dX8_comes_40 rfl (lv_at hl 0 rfl) ?_
    refine hz_isub hx hb dX8_comes_41 ?_
    refine va_put (D := G) (ci := 9) (v := zi (vCold - 0)) (ty := .int) (C := RX8) (T := TX8) (N := 40) hx hb hts hinwsX80 tyX8 tyX8_ok nmX8 hown hK hP hD hS 0 rfl rfl 22 (by decide) (hts (.fieldLink RX8 63 "HeliokeepModel" "cold" "I") (List.mem_of_getElem? (i := 2) rfl)) (fun _ h9 => h9) rfl (by decide +kernel) rfl rfl (Nat.le_of_ble_eq_true rfl) dX8_comes_42 (fun H locs hP hD hS => ?_)
    have hP : va_P G vwCl (mW ad y vThrown vN vC vNow vHaze (vCold - 0) vHot vPipe vDeg vThaw vTrc vTurb vLeft vLoad vWater vTrips vMissed vBRow vBSum vCell vDirt vAim vErr vCor vBrk vTop vLm vRows vCols vDown vRight vBound vStrain vPrice vFirm vSums vRays vFalls vSom vHad) H := hP
    have hD : va_D A (mW ad y vThrown vN vC vNow vHaze (vCold - 0) vHot vPipe vDeg vThaw vTrc vTurb vLeft vLoad vWater vTrips vMissed vBRow vBSum vCell vDirt vAim vErr vCor vBrk vTop vLm vRows vCols vDown vRight vBound vStrain vPrice vFirm vSums vRays vFalls vSom vHad) := hD
    refine lv_aload_n hx hb dX8_comes_45 rfl (lv_at hl 1 rfl) ?_
    refine lv_dup hx hb dX8_comes_46 rfl ?_
    refine va_get (D := G) (ci := 9) (v := zi vHot) (C := RX8) (T := TX8) (N := 40) hx hb hts hinwsX80 hown hK hP 0 rfl rfl 23 (by decide) (hts (.fieldLink RX8 178 "HeliokeepModel" "hot" "I") (List.mem_of_getElem? (i := 3) rfl)) (fun _ h9 => h9) rfl dX8_comes_47 ?_
    refine lv_iload_n hx hb dX8_comes_50 rfl (lv_at hl 0 rfl) ?_
    refine hz_iadd hx hb dX8_comes_51 ?_
    refine va_put (D := G) (ci := 9) (v := zi (vHot + 0)) (ty := .int) (C := RX8) (T := TX8) (N := 40) hx hb hts hinwsX80 tyX8 tyX8_ok nmX8 hown hK hP hD hS 0 rfl rfl 23 (by decide) (hts (.fieldLink RX8 178 "HeliokeepModel" "hot" "I") (List.mem_of_getElem? (i := 3) rfl)) (fun _ h9 => h9) rfl (by decide +kernel) rfl rfl (Nat.le_of_ble_eq_true rfl) dX8_comes_52 (fun H locs hP hD hS => ?_)
    have hP : va_P G vwCl (mW ad y vThrown vN vC vNow vHaze (vCold - 0) (vHot + 0) vPipe vDeg vThaw vTrc vTurb vLeft vLoad vWater vTrips vMissed vBRow vBSum vCell vDirt vAim vErr vCor vBrk vTop vLm vRows vCols vDown vRight vBound vStrain vPrice vFirm vSums vRays vFalls vSom vHad) H := hP
    have hD : va_D A (mW ad y vThrown vN vC vNow vHaze (vCold - 0) (vHot + 0) vPipe vDeg vThaw vTrc vTurb vLeft vLoad vWater vTrips vMissed vBRow vBSum vCell vDirt vAim vErr vCor vBrk vTop vLm vRows vCols vDown vRight vBound vStrain vPrice vFirm vSums vRays vFalls vSom vHad) := hD
    refine lv_aload_n hx hb dX8_comes_55 rfl (lv_at hl 1 rfl) ?_
    refine va_get (D := G) (ci := 9) (v := .ref (ad 17)) (C := RX8) (T := TX8) (N := 40) hx hb hts hinwsX80 hown hK hP 0 rfl rfl 19 (by decide) (hts (.fieldLink RX8 59 "HeliokeepModel" "sums" "[J") (List.mem_of_getElem? (i := 4) rfl)) (fun _ h9 => h9) rfl dX8_comes_56 ?_
    refine hz_iconst hx hb dX8_comes_59 ?_
    refine lv_dup2_11 hx hb dX8_comes_60 rfl rfl ?_
    refine hz_lald (f := vSums) hx hb hK hP 17 1 rfl rfl (Nat.le_of_ble_eq_true rfl) (by omega) dX8_comes_61 ?_
    refine lv_iload_n hx hb dX8_comes_62 rfl (lv_at hl 2 rfl) ?_
    refine hz_bipush hx hb dX8_comes_63 (by decide) ?_
    refine lv_iload_n hx hb dX8_comes_65 rfl (lv_at hl 0 rfl) ?_
    refine hz_imul hx hb dX8_comes_66 ?_
    refine hz_isub hx hb dX8_comes_67 ?_
    refine hz_i2l hx hb dX8_comes_68 (by omega) ?_
    refine hz_ladd hx hb dX8_comes_69 ?_
    refine hz_last (f := vSums) hx hb hK hP hD hS 17 1 rfl rfl (Nat.le_of_ble_eq_true rfl) (by omega) dX8_comes_70 (fun H locs hP hD hS => ?_)
    have hP : va_P G vwCl (mW ad y vThrown vN vC vNow vHaze (vCold - 0) (vHot + 0) vPipe vDeg vThaw vTrc vTurb vLeft vLoad vWater vTrips vMissed vBRow vBSum vCell vDirt vAim vErr vCor vBrk vTop vLm vRows vCols vDown vRight vBound vStrain vPrice vFirm (upZ vSums 4 ((vSums 4) + (heat - (100 * 0)))) vRays vFalls vSom vHad) H := hP
    have hD : va_D A (mW ad y vThrown vN vC vNow vHaze (vCold - 0) (vHot + 0) vPipe vDeg vThaw vTrc vTurb vLeft vLoad vWater vTrips vMissed vBRow vBSum vCell vDirt vAim vErr vCor vBrk vTop vLm vRows vCols vDown vRight vBound vStrain vPrice vFirm (upZ vSums 4 ((vSums 4) + (heat - (100 * 0)))) vRays vFalls vSom vHad) := hD
    refine lv_aload_n hx hb dX8_comes_71 rfl (lv_at hl 1 rfl) ?_
    refine va_get (D := G) (ci := 9) (v := .ref (ad 17)) (C := RX8) (T := TX8) (N := 40) hx hb hts hinwsX80 hown hK hP 0 rfl rfl 19 (by decide) (hts (.fieldLink RX8 59 "HeliokeepModel" "sums" "[J") (List.mem_of_getElem? (i := 4) rfl)) (fun _ h9 => h9) rfl dX8_comes_72 ?_
    refine hz_iconst hx hb dX8_comes_75 ?_
    refine lv_dup2_11 hx hb dX8_comes_76 rfl rfl ?_
    refine hz_lald (f := (upZ vSums 4 ((vSums 4) + (heat - (100 * 0))))) hx hb hK hP 17 1 rfl rfl (Nat.le_of_ble_eq_true rfl) (by omega) dX8_comes_77 ?_
    refine lv_iload_n hx hb dX8_comes_78 rfl (lv_at hl 0 rfl) ?_
    refine hz_i2l hx hb dX8_comes_79 (by omega) ?_
    refine hz_ladd hx hb dX8_comes_80 ?_
    refine hz_last (f := (upZ vSums 4 ((vSums 4) + (heat - (100 * 0))))) hx hb hK hP hD hS 17 1 rfl rfl (Nat.le_of_ble_eq_true rfl) (by omega) dX8_comes_81 (fun H locs hP hD hS => ?_)
    have hP : va_P G vwCl (mW ad y vThrown vN vC vNow vHaze (vCold - 0) (vHot + 0) vPipe vDeg vThaw vTrc vTurb vLeft vLoad vWater vTrips vMissed vBRow vBSum vCell vDirt vAim vErr vCor vBrk vTop vLm vRows vCols vDown vRight vBound vStrain vPrice vFirm (upZ (upZ vSums 4 ((vSums 4) + (heat - (100 * 0)))) 5 (((upZ vSums 4 ((vSums 4) + (heat - (100 * 0)))) 5) + 0)) vRays vFalls vSom vHad) H := hP
    have hD : va_D A (mW ad y vThrown vN vC vNow vHaze (vCold - 0) (vHot + 0) vPipe vDeg vThaw vTrc vTurb vLeft vLoad vWater vTrips vMissed vBRow vBSum vCell vDirt vAim vErr vCor vBrk vTop vLm vRows vCols vDown vRight vBound vStrain vPrice vFirm (upZ (upZ vSums 4 ((vSums 4) + (heat - (100 * 0)))) 5 (((upZ vSums 4 ((vSums 4) + (heat - (100 * 0)))) 5) + 0)) vRays vFalls vSom vHad) := hD
    refine lv_iload_n hx hb dX8_comes_82 rfl (lv_at hl 0 rfl) ?_
    exact W.iret (v := zI 0) hx hb hr (fun t ht hW => ⟨⟨zI 0, (0, (vCold - 0), (vHot + 0), (upZ (upZ vSums 4 ((vSums 4) + (heat - (100 * 0)))) 5 (((upZ vSums 4 ((vSums 4) + (heat - (100 * 0)))) 5) + 0))), rfl, ⟨rfl, ⟨(show (0 : Int) = cmZ vPipe heat vCold from by unfold cmZ; omega), (show (vCold - 0) = vCold - (0 : Int) from by omega), (show (vHot + 0) = vHot + (0 : Int) from by omega), (show (upZ (upZ vSums 4 ((vSums 4) + (heat - (100 * 0)))) 5 (((upZ vSums 4 ((vSums 4) + (heat - (100 * 0)))) 5) + 0)) = adZ (adZ vSums 4 (heat - 100 * (0 : Int))) 5 (0 : Int) from rfl), (show 0 ≤ (vCold - 0) ∧ 0 ≤ (vHot + 0) ∧ (vCold - 0) + (vHot + 0) ≤ 1000 from by omega), (show 0 ≤ (0 : Int) ∧ (0 : Int) ≤ 1000 from by omega)⟩⟩, hz_at hP ht⟩, hS.F ht⟩) hS.2.2 dX8_comes_83
abbrev Q_X8_pipes (G : va_G) (y : Nat → ClassId) (ad : Nat → Nat) (vThrown vN vC vNow vHaze vCold vHot vPipe vDeg vThaw vTrc vTurb vLeft vLoad vWater vTrips vMissed vBRow vBSum : Int) (vCell vDirt vAim vErr vCor vBrk vTop vLm vRows vCols vDown vRight vBound vStrain vPrice vFirm vSums vRays vFalls vSom vHad : Int → Int) (units : Int) (A : Nat → Prop) : Array Value → State → Outcome → State → Prop := va_Qv (fun (u : Int × Int × Int) => (u.1 = npZ vPipe vDeg vThaw vTrc units) ∧ (u.2.1 = ndZ vPipe vDeg vThaw vTrc units) ∧ (u.2.2 = ntZ vPipe vThaw vTrc) ∧ (0 ≤ u.1 ∧ u.1 ≤ 2) ∧ (0 ≤ u.2.1 ∧ u.2.1 ≤ 40 ∧ (u.1 = 1 → 20 ≤ u.2.1)) ∧ (0 ≤ u.2.2 ∧ u.2.2 ≤ 3 ∧ (u.1 = 2 → u.2.2 ≤ 2))) (fun (u : Int × Int × Int) t => va_P G vwCl (mW ad y vThrown vN vC vNow vHaze vCold vHot u.1 u.2.1 u.2.2 vTrc vTurb vLeft vLoad vWater vTrips vMissed vBRow vBSum vCell vDirt vAim vErr vCor vBrk vTop vLm vRows vCols vDown vRight vBound vStrain vPrice vFirm vSums vRays vFalls vSom vHad) t.heap) A
set_option maxHeartbeats 4000000 in
set_option maxRecDepth 100000 in
theorem c_X8_pipes (l : Launch) (G : va_G) (y : Nat → ClassId) (ad : Nat → Nat) (sz : Nat) (vThrown vN vC vNow vHaze vCold vHot vPipe vDeg vThaw vTrc vTurb vLeft vLoad vWater vTrips vMissed vBRow vBSum : Int) (vCell vDirt vAim vErr vCor vBrk vTop vLm vRows vCols vDown vRight vBound vStrain vPrice vFirm vSums vRays vFalls vSom vHad : Int → Int) (units : Int) (hPipe : 0 ≤ vPipe ∧ vPipe ≤ 2) (hDeg : 0 ≤ vDeg ∧ vDeg ≤ 40 ∧ (vPipe = 1 → 20 ≤ vDeg)) (hThaw : 0 ≤ vThaw ∧ vThaw ≤ 3 ∧ (vPipe = 2 → vThaw ≤ 2)) (hTrc : 0 ≤ vTrc ∧ vTrc ≤ 1) (hu : 0 ≤ units ∧ units ≤ 1000) : Met l yX8_pipes wsX8_pipes ({ frames := 1, cells := 0, slots := 0, locals := 22 }) (va_Pc [.ref (ad 0), zi units] (HPre G (tyL y) (mW ad y vThrown vN vC vNow vHaze vCold vHot vPipe vDeg vThaw vTrc vTurb vLeft vLoad vWater vTrips vMissed vBRow vBSum vCell vDirt vAim vErr vCor vBrk vTop vLm vRows vCols vDown vRight vBound vStrain vPrice vFirm vSums vRays vFalls vSom vHad) sz)) (Q_X8_pipes G y ad vThrown vN vC vNow vHaze vCold vHot vPipe vDeg vThaw vTrc vTurb vLeft vLoad vWater vTrips vMissed vBRow vBSum vCell vDirt vAim vErr vCor vBrk vTop vLm vRows vCols vDown vRight vBound vStrain vPrice vFirm vSums vRays vFalls vSom vHad units (va_A (mW ad y vThrown vN vC vNow vHaze vCold vHot vPipe vDeg vThaw vTrc vTurb vLeft vLoad vWater vTrips vMissed vBRow vBSum vCell vDirt vAim vErr vCor vBrk vTop vLm vRows vCols vDown vRight vBound vStrain vPrice vFirm vSums vRays vFalls vSom vHad) sz)) 0 0 (va_A (mW ad y vThrown vN vC vNow vHaze vCold vHot vPipe vDeg vThaw vTrc vTurb vLeft vLoad vWater vTrips vMissed vBRow vBSum vCell vDirt vAim vErr vCor vBrk vTop vLm vRows vCols vDown vRight vBound vStrain vPrice vFirm vSums vRays vFalls vSom vHad) sz) := by
  refine hz_ofW (Qf := Q_X8_pipes G y ad vThrown vN vC vNow vHaze vCold vHot vPipe vDeg vThaw vTrc vTurb vLeft vLoad vWater vTrips vMissed vBRow vBSum vCell vDirt vAim vErr vCor vBrk vTop vLm vRows vCols vDown vRight vBound vStrain vPrice vFirm vSums vRays vFalls vSom vHad units) (cc := cX8_pipes) (maxL := 3) (ret := none) (by decide) rfl (Nat.le_of_ble_eq_true rfl) ?_
  intro p e s m below meth c A ls hx hb hr hts hown hin hlocks hml hP hK hA hD hS hl
  have hown : s.vm.findClass RX8 = some m.cls := hown
  have hl : lv_has ls 3 [(0, .ref (ad 0)), (1, zi units)] := hl
  have hinwsX80 : ∀ w ∈ wsX80, w ∈ wsX8_pipes := fun _ h => List.mem_cons_of_mem _ (List.mem_append_right _ (h))
  have qh := hdZ_rng (v := vDeg + 5) (a := 0) (b := 40) (by omega)
  refine lv_aload_n hx hb dX8_pipes_0 rfl (lv_at hl 0 rfl) ?_
  refine va_get (D := G) (ci := 9) (v := zi vPipe) (C := RX8) (T := TX8) (N := 40) hx hb hts hinwsX80 hown hK hP 0 rfl rfl 24 (by decide) (hts (.fieldLink RX8 181 "HeliokeepModel" "pipe" "I") (List.mem_of_getElem? (i := 1) rfl)) (fun _ h9 => h9) rfl dX8_pipes_1 ?_
  refine hz_iconst hx hb dX8_pipes_4 ?_
  refine hz_icmp_ne (tgt := 76) hx hb dX8_pipes_5 (by decide) (by omega) (fun c1 => ?_) (fun c1 => ?_)
  · refine lv_aload_n hx hb dX8_pipes_76 rfl (lv_at hl 0 rfl) ?_
    refine va_get (D := G) (ci := 9) (v := zi vPipe) (C := RX8) (T := TX8) (N := 40) hx hb hts hinwsX80 hown hK hP 0 rfl rfl 24 (by decide) (hts (.fieldLink RX8 181 "HeliokeepModel" "pipe" "I") (List.mem_of_getElem? (i := 1) rfl)) (fun _ h9 => h9) rfl dX8_pipes_77 ?_
    refine hz_iconst hx hb dX8_pipes_80 ?_
    refine hz_icmp_ne (tgt := 156) hx hb dX8_pipes_81 (by decide) (by omega) (fun c2 => ?_) (fun c2 => ?_)
    · exact W.vret hx hb hr (fun t ht hW => ⟨⟨(vPipe, vDeg, vThaw), rfl, ⟨(show vPipe = npZ vPipe vDeg vThaw vTrc units from by unfold npZ dgZ dwZ; omega), (show vDeg = ndZ vPipe vDeg vThaw vTrc units from by unfold ndZ dgZ dwZ; omega), (show vThaw = ntZ vPipe vThaw vTrc from by unfold ntZ; omega), (show 0 ≤ vPipe ∧ vPipe ≤ 2 from by omega), (show 0 ≤ vDeg ∧ vDeg ≤ 40 ∧ (vPipe = 1 → 20 ≤ vDeg) from by omega), (show 0 ≤ vThaw ∧ vThaw ≤ 3 ∧ (vPipe = 2 → vThaw ≤ 2) from by omega)⟩, hz_at hP ht⟩, hS.F ht⟩) hS.2.2 dX8_pipes_156
    · refine lv_iload_n hx hb dX8_pipes_84 rfl (lv_at hl 1 rfl) ?_
      refine hz_if_le (tgt := 103) hx hb dX8_pipes_85 (by decide) (by omega) (fun c3 => ?_) (fun c3 => ?_)
      · refine lv_aload_n hx hb dX8_pipes_103 rfl (lv_at hl 0 rfl) ?_
        refine va_get (D := G) (ci := 9) (v := zi vDeg) (C := RX8) (T := TX8) (N := 40) hx hb hts hinwsX80 hown hK hP 0 rfl rfl 25 (by decide) (hts (.fieldLink RX8 184 "HeliokeepModel" "degrees" "I") (List.mem_of_getElem? (i := 4) rfl)) (fun _ h9 => h9) rfl dX8_pipes_104 ?_
        refine hz_iconst hx hb dX8_pipes_107 ?_
        refine hz_isub hx hb dX8_pipes_108 ?_
        refine lv_istore_n (lv' := [(2, zi (vDeg - 2)), (0, .ref (ad 0)), (1, zi units)]) hx hb dX8_pipes_109 rfl hl (by decide) rfl (fun ls hl => ?_)
        refine lv_aload_n hx hb dX8_pipes_110 rfl (lv_at hl 1 rfl) ?_
        refine lv_aload_n hx hb dX8_pipes_111 rfl (lv_at hl 1 rfl) ?_
        refine va_get (D := G) (ci := 9) (v := zi vTrc) (C := RX8) (T := TX8) (N := 40) hx hb hts hinwsX80 hown hK hP 0 rfl rfl 27 (by decide) (hts (.fieldLink RX8 187 "HeliokeepModel" "isTraced" "Z") (List.mem_of_getElem? (i := 2) rfl)) (fun _ h9 => h9) rfl dX8_pipes_112 ?_
        refine hz_if_eq (tgt := 129) hx hb dX8_pipes_115 (by decide) (by omega) (fun c4 => ?_) (fun c4 => ?_)
        · refine lv_iload_n hx hb dX8_pipes_129 rfl (lv_at hl 0 rfl) ?_
          refine va_put (D := G) (ci := 9) (v := zi (vDeg - 2)) (ty := .int) (C := RX8) (T := TX8) (N := 40) hx hb hts hinwsX80 tyX8 tyX8_ok nmX8 hown hK hP hD hS 0 rfl rfl 25 (by decide) (hts (.fieldLink RX8 184 "HeliokeepModel" "degrees" "I") (List.mem_of_getElem? (i := 4) rfl)) (fun _ h9 => h9) rfl (by decide +kernel) rfl rfl (Nat.le_of_ble_eq_true rfl) dX8_pipes_130 (fun H locs hP hD hS => ?_)
          have hP : va_P G vwCl (mW ad y vThrown vN vC vNow vHaze vCold vHot vPipe (vDeg - 2) vThaw vTrc vTurb vLeft vLoad vWater vTrips vMissed vBRow vBSum vCell vDirt vAim vErr vCor vBrk vTop vLm vRows vCols vDown vRight vBound vStrain vPrice vFirm vSums vRays vFalls vSom vHad) H := hP
          have hD : va_D A (mW ad y vThrown vN vC vNow vHaze vCold vHot vPipe (vDeg - 2) vThaw vTrc vTurb vLeft vLoad vWater vTrips vMissed vBRow vBSum vCell vDirt vAim vErr vCor vBrk vTop vLm vRows vCols vDown vRight vBound vStrain vPrice vFirm vSums vRays vFalls vSom vHad) := hD
          refine lv_aload_n hx hb dX8_pipes_133 rfl (lv_at hl 1 rfl) ?_
          refine lv_aload_n hx hb dX8_pipes_134 rfl (lv_at hl 1 rfl) ?_
          refine va_get (D := G) (ci := 9) (v := zi (vDeg - 2)) (C := RX8) (T := TX8) (N := 40) hx hb hts hinwsX80 hown hK hP 0 rfl rfl 25 (by decide) (hts (.fieldLink RX8 184 "HeliokeepModel" "degrees" "I") (List.mem_of_getElem? (i := 4) rfl)) (fun _ h9 => h9) rfl dX8_pipes_135 ?_
          refine hz_bipush hx hb dX8_pipes_138 (by decide) ?_
          refine hz_icmp_ge (tgt := 147) hx hb dX8_pipes_140 (by decide) (by omega) (fun c5 => ?_) (fun c5 => ?_)
          · refine hz_iconst hx hb dX8_pipes_147 ?_
            refine va_put (D := G) (ci := 9) (v := zi 1) (ty := .int) (C := RX8) (T := TX8) (N := 40) hx hb hts hinwsX80 tyX8 tyX8_ok nmX8 hown hK hP hD hS 0 rfl rfl 24 (by decide) (hts (.fieldLink RX8 181 "HeliokeepModel" "pipe" "I") (List.mem_of_getElem? (i := 1) rfl)) (fun _ h9 => h9) rfl (by decide +kernel) rfl rfl (Nat.le_of_ble_eq_true rfl) dX8_pipes_148 (fun H locs hP hD hS => ?_)
            have hP : va_P G vwCl (mW ad y vThrown vN vC vNow vHaze vCold vHot 1 (vDeg - 2) vThaw vTrc vTurb vLeft vLoad vWater vTrips vMissed vBRow vBSum vCell vDirt vAim vErr vCor vBrk vTop vLm vRows vCols vDown vRight vBound vStrain vPrice vFirm vSums vRays vFalls vSom vHad) H := hP
            have hD : va_D A (mW ad y vThrown vN vC vNow vHaze vCold vHot 1 (vDeg - 2) vThaw vTrc vTurb vLeft vLoad vWater vTrips vMissed vBRow vBSum vCell vDirt vAim vErr vCor vBrk vTop vLm vRows vCols vDown vRight vBound vStrain vPrice vFirm vSums vRays vFalls vSom vHad) := hD
            refine lv_aload_n hx hb dX8_pipes_151 rfl (lv_at hl 1 rfl) ?_
            refine hz_iconst hx hb dX8_pipes_152 ?_
            refine va_put (D := G) (ci := 9) (v := zi 0) (ty := .int) (C := RX8) (T := TX8) (N := 40) hx hb hts hinwsX80 tyX8 tyX8_ok nmX8 hown hK hP hD hS 0 rfl rfl 26 (by decide) (hts (.fieldLink RX8 206 "HeliokeepModel" "thaw" "I") (List.mem_of_getElem? (i := 3) rfl)) (fun _ h9 => h9) rfl (by decide +kernel) rfl rfl (Nat.le_of_ble_eq_true rfl) dX8_pipes_153 (fun H locs hP hD hS => ?_)
            have hP : va_P G vwCl (mW ad y vThrown vN vC vNow vHaze vCold vHot 1 (vDeg - 2) 0 vTrc vTurb vLeft vLoad vWater vTrips vMissed vBRow vBSum vCell vDirt vAim vErr vCor vBrk vTop vLm vRows vCols vDown vRight vBound vStrain vPrice vFirm vSums vRays vFalls vSom vHad) H := hP
            have hD : va_D A (mW ad y vThrown vN vC vNow vHaze vCold vHot 1 (vDeg - 2) 0 vTrc vTurb vLeft vLoad vWater vTrips vMissed vBRow vBSum vCell vDirt vAim vErr vCor vBrk vTop vLm vRows vCols vDown vRight vBound vStrain vPrice vFirm vSums vRays vFalls vSom vHad) := hD
            exact W.vret hx hb hr (fun t ht hW => ⟨⟨(1, (vDeg - 2), 0), rfl, ⟨(show (1 : Int) = npZ vPipe vDeg vThaw vTrc units from by unfold npZ dgZ dwZ; omega), (show (vDeg - 2) = ndZ vPipe vDeg vThaw vTrc units from by unfold ndZ dgZ dwZ; omega), (show (0 : Int) = ntZ vPipe vThaw vTrc from by unfold ntZ; omega), (show 0 ≤ (1 : Int) ∧ (1 : Int) ≤ 2 from by omega), (show 0 ≤ (vDeg - 2) ∧ (vDeg - 2) ≤ 40 ∧ ((1 : Int) = 1 → 20 ≤ (vDeg - 2)) from by omega), (show 0 ≤ (0 : Int) ∧ (0 : Int) ≤ 3 ∧ ((1 : Int) = 2 → (0 : Int) ≤ 2) from by omega)⟩, hz_at hP ht⟩, hS.F ht⟩) hS.2.2 dX8_pipes_156
          · refine hz_iconst hx hb dX8_pipes_143 ?_
            refine lv_goto (tgt := 148) hx hb dX8_pipes_144 (by decide) ?_
            refine va_put (D := G) (ci := 9) (v := zi 2) (ty := .int) (C := RX8) (T := TX8) (N := 40) hx hb hts hinwsX80 tyX8 tyX8_ok nmX8 hown hK hP hD hS 0 rfl rfl 24 (by decide) (hts (.fieldLink RX8 181 "HeliokeepModel" "pipe" "I") (List.mem_of_getElem? (i := 1) rfl)) (fun _ h9 => h9) rfl (by decide +kernel) rfl rfl (Nat.le_of_ble_eq_true rfl) dX8_pipes_148 (fun H locs hP hD hS => ?_)
            have hP : va_P G vwCl (mW ad y vThrown vN vC vNow vHaze vCold vHot 2 (vDeg - 2) vThaw vTrc vTurb vLeft vLoad vWater vTrips vMissed vBRow vBSum vCell vDirt vAim vErr vCor vBrk vTop vLm vRows vCols vDown vRight vBound vStrain vPrice vFirm vSums vRays vFalls vSom vHad) H := hP
            have hD : va_D A (mW ad y vThrown vN vC vNow vHaze vCold vHot 2 (vDeg - 2) vThaw vTrc vTurb vLeft vLoad vWater vTrips vMissed vBRow vBSum vCell vDirt vAim vErr vCor vBrk vTop vLm vRows vCols vDown vRight vBound vStrain vPrice vFirm vSums vRays vFalls vSom vHad) := hD
            refine lv_aload_n hx hb dX8_pipes_151 rfl (lv_at hl 1 rfl) ?_
            refine hz_iconst hx hb dX8_pipes_152 ?_
            refine va_put (D := G) (ci := 9) (v := zi 0) (ty := .int) (C := RX8) (T := TX8) (N := 40) hx hb hts hinwsX80 tyX8 tyX8_ok nmX8 hown hK hP hD hS 0 rfl rfl 26 (by decide) (hts (.fieldLink RX8 206 "HeliokeepModel" "thaw" "I") (List.mem_of_getElem? (i := 3) rfl)) (fun _ h9 => h9) rfl (by decide +kernel) rfl rfl (Nat.le_of_ble_eq_true rfl) dX8_pipes_153 (fun H locs hP hD hS => ?_)
            have hP : va_P G vwCl (mW ad y vThrown vN vC vNow vHaze vCold vHot 2 (vDeg - 2) 0 vTrc vTurb vLeft vLoad vWater vTrips vMissed vBRow vBSum vCell vDirt vAim vErr vCor vBrk vTop vLm vRows vCols vDown vRight vBound vStrain vPrice vFirm vSums vRays vFalls vSom vHad) H := hP
            have hD : va_D A (mW ad y vThrown vN vC vNow vHaze vCold vHot 2 (vDeg - 2) 0 vTrc vTurb vLeft vLoad vWater vTrips vMissed vBRow vBSum vCell vDirt vAim vErr vCor vBrk vTop vLm vRows vCols vDown vRight vBound vStrain vPrice vFirm vSums vRays vFalls vSom vHad) := hD
            exact W.vret hx hb hr (fun t ht hW => ⟨⟨(2, (vDeg - 2), 0), rfl, ⟨(show (2 : Int) = npZ vPipe vDeg vThaw vTrc units from by unfold npZ dgZ dwZ; omega), (show (vDeg - 2) = ndZ vPipe vDeg vThaw vTrc units from by unfold ndZ dgZ dwZ; omega), (show (0 : Int) = ntZ vPipe vThaw vTrc from by unfold ntZ; omega), (show 0 ≤ (2 : Int) ∧ (2 : Int) ≤ 2 from by omega), (show 0 ≤ (vDeg - 2) ∧ (vDeg - 2) ≤ 40 ∧ ((2 : Int) = 1 → 20 ≤ (vDeg - 2)) from by omega), (show 0 ≤ (0 : Int) ∧ (0 : Int) ≤ 3 ∧ ((2 : Int) = 2 → (0 : Int) ≤ 2) from by omega)⟩, hz_at hP ht⟩, hS.F ht⟩) hS.2.2 dX8_pipes_156
        · refine lv_iload_n hx hb dX8_pipes_118 rfl (lv_at hl 0 rfl) ?_
          refine hz_bipush hx hb dX8_pipes_119 (by decide) ?_
          refine hz_icmp_ge (tgt := 129) hx hb dX8_pipes_121 (by decide) (by omega) (fun c6 => ?_) (fun c6 => ?_)
          · refine lv_iload_n hx hb dX8_pipes_129 rfl (lv_at hl 0 rfl) ?_
            refine va_put (D := G) (ci := 9) (v := zi (vDeg - 2)) (ty := .int) (C := RX8) (T := TX8) (N := 40) hx hb hts hinwsX80 tyX8 tyX8_ok nmX8 hown hK hP hD hS 0 rfl rfl 25 (by decide) (hts (.fieldLink RX8 184 "HeliokeepModel" "degrees" "I") (List.mem_of_getElem? (i := 4) rfl)) (fun _ h9 => h9) rfl (by decide +kernel) rfl rfl (Nat.le_of_ble_eq_true rfl) dX8_pipes_130 (fun H locs hP hD hS => ?_)
            have hP : va_P G vwCl (mW ad y vThrown vN vC vNow vHaze vCold vHot vPipe (vDeg - 2) vThaw vTrc vTurb vLeft vLoad vWater vTrips vMissed vBRow vBSum vCell vDirt vAim vErr vCor vBrk vTop vLm vRows vCols vDown vRight vBound vStrain vPrice vFirm vSums vRays vFalls vSom vHad) H := hP
            have hD : va_D A (mW ad y vThrown vN vC vNow vHaze vCold vHot vPipe (vDeg - 2) vThaw vTrc vTurb vLeft vLoad vWater vTrips vMissed vBRow vBSum vCell vDirt vAim vErr vCor vBrk vTop vLm vRows vCols vDown vRight vBound vStrain vPrice vFirm vSums vRays vFalls vSom vHad) := hD
            refine lv_aload_n hx hb dX8_pipes_133 rfl (lv_at hl 1 rfl) ?_
            refine lv_aload_n hx hb dX8_pipes_134 rfl (lv_at hl 1 rfl) ?_
            refine va_get (D := G) (ci := 9) (v := zi (vDeg - 2)) (C := RX8) (T := TX8) (N := 40) hx hb hts hinwsX80 hown hK hP 0 rfl rfl 25 (by decide) (hts (.fieldLink RX8 184 "HeliokeepModel" "degrees" "I") (List.mem_of_getElem? (i := 4) rfl)) (fun _ h9 => h9) rfl dX8_pipes_135 ?_
            refine hz_bipush hx hb dX8_pipes_138 (by decide) ?_
            refine hz_icmp_ge (tgt := 147) hx hb dX8_pipes_140 (by decide) (by omega) (fun c7 => ?_) (fun c7 => ?_)
            · refine hz_iconst hx hb dX8_pipes_147 ?_
              refine va_put (D := G) (ci := 9) (v := zi 1) (ty := .int) (C := RX8) (T := TX8) (N := 40) hx hb hts hinwsX80 tyX8 tyX8_ok nmX8 hown hK hP hD hS 0 rfl rfl 24 (by decide) (hts (.fieldLink RX8 181 "HeliokeepModel" "pipe" "I") (List.mem_of_getElem? (i := 1) rfl)) (fun _ h9 => h9) rfl (by decide +kernel) rfl rfl (Nat.le_of_ble_eq_true rfl) dX8_pipes_148 (fun H locs hP hD hS => ?_)
              have hP : va_P G vwCl (mW ad y vThrown vN vC vNow vHaze vCold vHot 1 (vDeg - 2) vThaw vTrc vTurb vLeft vLoad vWater vTrips vMissed vBRow vBSum vCell vDirt vAim vErr vCor vBrk vTop vLm vRows vCols vDown vRight vBound vStrain vPrice vFirm vSums vRays vFalls vSom vHad) H := hP
              have hD : va_D A (mW ad y vThrown vN vC vNow vHaze vCold vHot 1 (vDeg - 2) vThaw vTrc vTurb vLeft vLoad vWater vTrips vMissed vBRow vBSum vCell vDirt vAim vErr vCor vBrk vTop vLm vRows vCols vDown vRight vBound vStrain vPrice vFirm vSums vRays vFalls vSom vHad) := hD
              refine lv_aload_n hx hb dX8_pipes_151 rfl (lv_at hl 1 rfl) ?_
              refine hz_iconst hx hb dX8_pipes_152 ?_
              refine va_put (D := G) (ci := 9) (v := zi 0) (ty := .int) (C := RX8) (T := TX8) (N := 40) hx hb hts hinwsX80 tyX8 tyX8_ok nmX8 hown hK hP hD hS 0 rfl rfl 26 (by decide) (hts (.fieldLink RX8 206 "HeliokeepModel" "thaw" "I") (List.mem_of_getElem? (i := 3) rfl)) (fun _ h9 => h9) rfl (by decide +kernel) rfl rfl (Nat.le_of_ble_eq_true rfl) dX8_pipes_153 (fun H locs hP hD hS => ?_)
              have hP : va_P G vwCl (mW ad y vThrown vN vC vNow vHaze vCold vHot 1 (vDeg - 2) 0 vTrc vTurb vLeft vLoad vWater vTrips vMissed vBRow vBSum vCell vDirt vAim vErr vCor vBrk vTop vLm vRows vCols vDown vRight vBound vStrain vPrice vFirm vSums vRays vFalls vSom vHad) H := hP
              have hD : va_D A (mW ad y vThrown vN vC vNow vHaze vCold vHot 1 (vDeg - 2) 0 vTrc vTurb vLeft vLoad vWater vTrips vMissed vBRow vBSum vCell vDirt vAim vErr vCor vBrk vTop vLm vRows vCols vDown vRight vBound vStrain vPrice vFirm vSums vRays vFalls vSom vHad) := hD
              exact W.vret hx hb hr (fun t ht hW => ⟨⟨(1, (vDeg - 2), 0), rfl, ⟨(show (1 : Int) = npZ vPipe vDeg vThaw vTrc units from by unfold npZ dgZ dwZ; omega), (show (vDeg - 2) = ndZ vPipe vDeg vThaw vTrc units from by unfold ndZ dgZ dwZ; omega), (show (0 : Int) = ntZ vPipe vThaw vTrc from by unfold ntZ; omega), (show 0 ≤ (1 : Int) ∧ (1 : Int) ≤ 2 from by omega), (show 0 ≤ (vDeg - 2) ∧ (vDeg - 2) ≤ 40 ∧ ((1 : Int) = 1 → 20 ≤ (vDeg - 2)) from by omega), (show 0 ≤ (0 : Int) ∧ (0 : Int) ≤ 3 ∧ ((1 : Int) = 2 → (0 : Int) ≤ 2) from by omega)⟩, hz_at hP ht⟩, hS.F ht⟩) hS.2.2 dX8_pipes_156
            · refine hz_iconst hx hb dX8_pipes_143 ?_
              refine lv_goto (tgt := 148) hx hb dX8_pipes_144 (by decide) ?_
              refine va_put (D := G) (ci := 9) (v := zi 2) (ty := .int) (C := RX8) (T := TX8) (N := 40) hx hb hts hinwsX80 tyX8 tyX8_ok nmX8 hown hK hP hD hS 0 rfl rfl 24 (by decide) (hts (.fieldLink RX8 181 "HeliokeepModel" "pipe" "I") (List.mem_of_getElem? (i := 1) rfl)) (fun _ h9 => h9) rfl (by decide +kernel) rfl rfl (Nat.le_of_ble_eq_true rfl) dX8_pipes_148 (fun H locs hP hD hS => ?_)
              have hP : va_P G vwCl (mW ad y vThrown vN vC vNow vHaze vCold vHot 2 (vDeg - 2) vThaw vTrc vTurb vLeft vLoad vWater vTrips vMissed vBRow vBSum vCell vDirt vAim vErr vCor vBrk vTop vLm vRows vCols vDown vRight vBound vStrain vPrice vFirm vSums vRays vFalls vSom vHad) H := hP
              have hD : va_D A (mW ad y vThrown vN vC vNow vHaze vCold vHot 2 (vDeg - 2) vThaw vTrc vTurb vLeft vLoad vWater vTrips vMissed vBRow vBSum vCell vDirt vAim vErr vCor vBrk vTop vLm vRows vCols vDown vRight vBound vStrain vPrice vFirm vSums vRays vFalls vSom vHad) := hD
              refine lv_aload_n hx hb dX8_pipes_151 rfl (lv_at hl 1 rfl) ?_
              refine hz_iconst hx hb dX8_pipes_152 ?_
              refine va_put (D := G) (ci := 9) (v := zi 0) (ty := .int) (C := RX8) (T := TX8) (N := 40) hx hb hts hinwsX80 tyX8 tyX8_ok nmX8 hown hK hP hD hS 0 rfl rfl 26 (by decide) (hts (.fieldLink RX8 206 "HeliokeepModel" "thaw" "I") (List.mem_of_getElem? (i := 3) rfl)) (fun _ h9 => h9) rfl (by decide +kernel) rfl rfl (Nat.le_of_ble_eq_true rfl) dX8_pipes_153 (fun H locs hP hD hS => ?_)
              have hP : va_P G vwCl (mW ad y vThrown vN vC vNow vHaze vCold vHot 2 (vDeg - 2) 0 vTrc vTurb vLeft vLoad vWater vTrips vMissed vBRow vBSum vCell vDirt vAim vErr vCor vBrk vTop vLm vRows vCols vDown vRight vBound vStrain vPrice vFirm vSums vRays vFalls vSom vHad) H := hP
              have hD : va_D A (mW ad y vThrown vN vC vNow vHaze vCold vHot 2 (vDeg - 2) 0 vTrc vTurb vLeft vLoad vWater vTrips vMissed vBRow vBSum vCell vDirt vAim vErr vCor vBrk vTop vLm vRows vCols vDown vRight vBound vStrain vPrice vFirm vSums vRays vFalls vSom vHad) := hD
              exact W.vret hx hb hr (fun t ht hW => ⟨⟨(2, (vDeg - 2), 0), rfl, ⟨(show (2 : Int) = npZ vPipe vDeg vThaw vTrc units from by unfold npZ dgZ dwZ; omega), (show (vDeg - 2) = ndZ vPipe vDeg vThaw vTrc units from by unfold ndZ dgZ dwZ; omega), (show (0 : Int) = ntZ vPipe vThaw vTrc from by unfold ntZ; omega), (show 0 ≤ (2 : Int) ∧ (2 : Int) ≤ 2 from by omega), (show 0 ≤ (vDeg - 2) ∧ (vDeg - 2) ≤ 40 ∧ ((2 : Int) = 1 → 20 ≤ (vDeg - 2)) from by omega), (show 0 ≤ (0 : Int) ∧ (0 : Int) ≤ 3 ∧ ((2 : Int) = 2 → (0 : Int) ≤ 2) from by omega)⟩, hz_at hP ht⟩, hS.F ht⟩) hS.2.2 dX8_pipes_156
          · refine hz_bipush hx hb dX8_pipes_124 (by decide) ?_
            refine lv_goto (tgt := 130) hx hb dX8_pipes_126 (by decide) ?_
            refine va_put (D := G) (ci := 9) (v := zi 22) (ty := .int) (C := RX8) (T := TX8) (N := 40) hx hb hts hinwsX80 tyX8 tyX8_ok nmX8 hown hK hP hD hS 0 rfl rfl 25 (by decide) (hts (.fieldLink RX8 184 "HeliokeepModel" "degrees" "I") (List.mem_of_getElem? (i := 4) rfl)) (fun _ h9 => h9) rfl (by decide +kernel) rfl rfl (Nat.le_of_ble_eq_true rfl) dX8_pipes_130 (fun H locs hP hD hS => ?_)
            have hP : va_P G vwCl (mW ad y vThrown vN vC vNow vHaze vCold vHot vPipe 22 vThaw vTrc vTurb vLeft vLoad vWater vTrips vMissed vBRow vBSum vCell vDirt vAim vErr vCor vBrk vTop vLm vRows vCols vDown vRight vBound vStrain vPrice vFirm vSums vRays vFalls vSom vHad) H := hP
            have hD : va_D A (mW ad y vThrown vN vC vNow vHaze vCold vHot vPipe 22 vThaw vTrc vTurb vLeft vLoad vWater vTrips vMissed vBRow vBSum vCell vDirt vAim vErr vCor vBrk vTop vLm vRows vCols vDown vRight vBound vStrain vPrice vFirm vSums vRays vFalls vSom vHad) := hD
            refine lv_aload_n hx hb dX8_pipes_133 rfl (lv_at hl 1 rfl) ?_
            refine lv_aload_n hx hb dX8_pipes_134 rfl (lv_at hl 1 rfl) ?_
            refine va_get (D := G) (ci := 9) (v := zi 22) (C := RX8) (T := TX8) (N := 40) hx hb hts hinwsX80 hown hK hP 0 rfl rfl 25 (by decide) (hts (.fieldLink RX8 184 "HeliokeepModel" "degrees" "I") (List.mem_of_getElem? (i := 4) rfl)) (fun _ h9 => h9) rfl dX8_pipes_135 ?_
            refine hz_bipush hx hb dX8_pipes_138 (by decide) ?_
            refine hz_icmp_ge (tgt := 147) hx hb dX8_pipes_140 (by decide) (by omega) (fun _ => ?_) (fun q => absurd q (by omega))
            refine hz_iconst hx hb dX8_pipes_147 ?_
            refine va_put (D := G) (ci := 9) (v := zi 1) (ty := .int) (C := RX8) (T := TX8) (N := 40) hx hb hts hinwsX80 tyX8 tyX8_ok nmX8 hown hK hP hD hS 0 rfl rfl 24 (by decide) (hts (.fieldLink RX8 181 "HeliokeepModel" "pipe" "I") (List.mem_of_getElem? (i := 1) rfl)) (fun _ h9 => h9) rfl (by decide +kernel) rfl rfl (Nat.le_of_ble_eq_true rfl) dX8_pipes_148 (fun H locs hP hD hS => ?_)
            have hP : va_P G vwCl (mW ad y vThrown vN vC vNow vHaze vCold vHot 1 22 vThaw vTrc vTurb vLeft vLoad vWater vTrips vMissed vBRow vBSum vCell vDirt vAim vErr vCor vBrk vTop vLm vRows vCols vDown vRight vBound vStrain vPrice vFirm vSums vRays vFalls vSom vHad) H := hP
            have hD : va_D A (mW ad y vThrown vN vC vNow vHaze vCold vHot 1 22 vThaw vTrc vTurb vLeft vLoad vWater vTrips vMissed vBRow vBSum vCell vDirt vAim vErr vCor vBrk vTop vLm vRows vCols vDown vRight vBound vStrain vPrice vFirm vSums vRays vFalls vSom vHad) := hD
            refine lv_aload_n hx hb dX8_pipes_151 rfl (lv_at hl 1 rfl) ?_
            refine hz_iconst hx hb dX8_pipes_152 ?_
            refine va_put (D := G) (ci := 9) (v := zi 0) (ty := .int) (C := RX8) (T := TX8) (N := 40) hx hb hts hinwsX80 tyX8 tyX8_ok nmX8 hown hK hP hD hS 0 rfl rfl 26 (by decide) (hts (.fieldLink RX8 206 "HeliokeepModel" "thaw" "I") (List.mem_of_getElem? (i := 3) rfl)) (fun _ h9 => h9) rfl (by decide +kernel) rfl rfl (Nat.le_of_ble_eq_true rfl) dX8_pipes_153 (fun H locs hP hD hS => ?_)
            have hP : va_P G vwCl (mW ad y vThrown vN vC vNow vHaze vCold vHot 1 22 0 vTrc vTurb vLeft vLoad vWater vTrips vMissed vBRow vBSum vCell vDirt vAim vErr vCor vBrk vTop vLm vRows vCols vDown vRight vBound vStrain vPrice vFirm vSums vRays vFalls vSom vHad) H := hP
            have hD : va_D A (mW ad y vThrown vN vC vNow vHaze vCold vHot 1 22 0 vTrc vTurb vLeft vLoad vWater vTrips vMissed vBRow vBSum vCell vDirt vAim vErr vCor vBrk vTop vLm vRows vCols vDown vRight vBound vStrain vPrice vFirm vSums vRays vFalls vSom vHad) := hD
            exact W.vret hx hb hr (fun t ht hW => ⟨⟨(1, 22, 0), rfl, ⟨(show (1 : Int) = npZ vPipe vDeg vThaw vTrc units from by unfold npZ dgZ dwZ; omega), (show (22 : Int) = ndZ vPipe vDeg vThaw vTrc units from by unfold ndZ dgZ dwZ; omega), (show (0 : Int) = ntZ vPipe vThaw vTrc from by unfold ntZ; omega), (show 0 ≤ (1 : Int) ∧ (1 : Int) ≤ 2 from by omega), (show 0 ≤ (22 : Int) ∧ (22 : Int) ≤ 40 ∧ ((1 : Int) = 1 → 20 ≤ (22 : Int)) from by omega), (show 0 ≤ (0 : Int) ∧ (0 : Int) ≤ 3 ∧ ((1 : Int) = 2 → (0 : Int) ≤ 2) from by omega)⟩, hz_at hP ht⟩, hS.F ht⟩) hS.2.2 dX8_pipes_156
      · refine lv_aload_n hx hb dX8_pipes_88 rfl (lv_at hl 0 rfl) ?_
        refine va_get (D := G) (ci := 9) (v := zi vDeg) (C := RX8) (T := TX8) (N := 40) hx hb hts hinwsX80 hown hK hP 0 rfl rfl 25 (by decide) (hts (.fieldLink RX8 184 "HeliokeepModel" "degrees" "I") (List.mem_of_getElem? (i := 4) rfl)) (fun _ h9 => h9) rfl dX8_pipes_89 ?_
        refine hz_iconst hx hb dX8_pipes_92 ?_
        refine hz_iadd hx hb dX8_pipes_93 ?_
        refine hz_iconst hx hb dX8_pipes_94 ?_
        refine hz_bipush hx hb dX8_pipes_95 (by decide) ?_
        refine hz_callSi (As := [zi (vDeg + 5), zi 0, zi 40]) (rest := []) ⟨hx, hb, hml, hown, hts⟩ (c_X8_held l (vDeg + 5) 0 40 (by omega) (by omega) (by omega)) (va_cwS 3 hts gX8_pipes_X8_held rfl rfl rfl (by decide +kernel) ⟨Nat.le_of_ble_eq_true rfl, Nat.le_of_ble_eq_true rfl⟩) rfl hl.1 rfl (Nat.le_of_ble_eq_true rfl) dX8_pipes_97 ⟨Nat.zero_le _, Nat.zero_le _⟩ ?_
        refine lv_goto (tgt := 109) hx hb dX8_pipes_100 (by decide) ?_
        refine lv_istore_n (lv' := [(2, zi (hdZ (vDeg + 5) 0 40)), (0, .ref (ad 0)), (1, zi units)]) hx hb dX8_pipes_109 rfl hl (by decide) rfl (fun ls hl => ?_)
        refine lv_aload_n hx hb dX8_pipes_110 rfl (lv_at hl 1 rfl) ?_
        refine lv_aload_n hx hb dX8_pipes_111 rfl (lv_at hl 1 rfl) ?_
        refine va_get (D := G) (ci := 9) (v := zi vTrc) (C := RX8) (T := TX8) (N := 40) hx hb hts hinwsX80 hown hK hP 0 rfl rfl 27 (by decide) (hts (.fieldLink RX8 187 "HeliokeepModel" "isTraced" "Z") (List.mem_of_getElem? (i := 2) rfl)) (fun _ h9 => h9) rfl dX8_pipes_112 ?_
        refine hz_if_eq (tgt := 129) hx hb dX8_pipes_115 (by decide) (by omega) (fun c8 => ?_) (fun c8 => ?_)
        · refine lv_iload_n hx hb dX8_pipes_129 rfl (lv_at hl 0 rfl) ?_
          refine va_put (D := G) (ci := 9) (v := zi (hdZ (vDeg + 5) 0 40)) (ty := .int) (C := RX8) (T := TX8) (N := 40) hx hb hts hinwsX80 tyX8 tyX8_ok nmX8 hown hK hP hD hS 0 rfl rfl 25 (by decide) (hts (.fieldLink RX8 184 "HeliokeepModel" "degrees" "I") (List.mem_of_getElem? (i := 4) rfl)) (fun _ h9 => h9) rfl (by decide +kernel) rfl rfl (Nat.le_of_ble_eq_true rfl) dX8_pipes_130 (fun H locs hP hD hS => ?_)
          have hP : va_P G vwCl (mW ad y vThrown vN vC vNow vHaze vCold vHot vPipe (hdZ (vDeg + 5) 0 40) vThaw vTrc vTurb vLeft vLoad vWater vTrips vMissed vBRow vBSum vCell vDirt vAim vErr vCor vBrk vTop vLm vRows vCols vDown vRight vBound vStrain vPrice vFirm vSums vRays vFalls vSom vHad) H := hP
          have hD : va_D A (mW ad y vThrown vN vC vNow vHaze vCold vHot vPipe (hdZ (vDeg + 5) 0 40) vThaw vTrc vTurb vLeft vLoad vWater vTrips vMissed vBRow vBSum vCell vDirt vAim vErr vCor vBrk vTop vLm vRows vCols vDown vRight vBound vStrain vPrice vFirm vSums vRays vFalls vSom vHad) := hD
          refine lv_aload_n hx hb dX8_pipes_133 rfl (lv_at hl 1 rfl) ?_
          refine lv_aload_n hx hb dX8_pipes_134 rfl (lv_at hl 1 rfl) ?_
          refine va_get (D := G) (ci := 9) (v := zi (hdZ (vDeg + 5) 0 40)) (C := RX8) (T := TX8) (N := 40) hx hb hts hinwsX80 hown hK hP 0 rfl rfl 25 (by decide) (hts (.fieldLink RX8 184 "HeliokeepModel" "degrees" "I") (List.mem_of_getElem? (i := 4) rfl)) (fun _ h9 => h9) rfl dX8_pipes_135 ?_
          refine hz_bipush hx hb dX8_pipes_138 (by decide) ?_
          refine hz_icmp_ge (tgt := 147) hx hb dX8_pipes_140 (by decide) (by omega) (fun c9 => ?_) (fun c9 => ?_)
          · refine hz_iconst hx hb dX8_pipes_147 ?_
            refine va_put (D := G) (ci := 9) (v := zi 1) (ty := .int) (C := RX8) (T := TX8) (N := 40) hx hb hts hinwsX80 tyX8 tyX8_ok nmX8 hown hK hP hD hS 0 rfl rfl 24 (by decide) (hts (.fieldLink RX8 181 "HeliokeepModel" "pipe" "I") (List.mem_of_getElem? (i := 1) rfl)) (fun _ h9 => h9) rfl (by decide +kernel) rfl rfl (Nat.le_of_ble_eq_true rfl) dX8_pipes_148 (fun H locs hP hD hS => ?_)
            have hP : va_P G vwCl (mW ad y vThrown vN vC vNow vHaze vCold vHot 1 (hdZ (vDeg + 5) 0 40) vThaw vTrc vTurb vLeft vLoad vWater vTrips vMissed vBRow vBSum vCell vDirt vAim vErr vCor vBrk vTop vLm vRows vCols vDown vRight vBound vStrain vPrice vFirm vSums vRays vFalls vSom vHad) H := hP
            have hD : va_D A (mW ad y vThrown vN vC vNow vHaze vCold vHot 1 (hdZ (vDeg + 5) 0 40) vThaw vTrc vTurb vLeft vLoad vWater vTrips vMissed vBRow vBSum vCell vDirt vAim vErr vCor vBrk vTop vLm vRows vCols vDown vRight vBound vStrain vPrice vFirm vSums vRays vFalls vSom vHad) := hD
            refine lv_aload_n hx hb dX8_pipes_151 rfl (lv_at hl 1 rfl) ?_
            refine hz_iconst hx hb dX8_pipes_152 ?_
            refine va_put (D := G) (ci := 9) (v := zi 0) (ty := .int) (C := RX8) (T := TX8) (N := 40) hx hb hts hinwsX80 tyX8 tyX8_ok nmX8 hown hK hP hD hS 0 rfl rfl 26 (by decide) (hts (.fieldLink RX8 206 "HeliokeepModel" "thaw" "I") (List.mem_of_getElem? (i := 3) rfl)) (fun _ h9 => h9) rfl (by decide +kernel) rfl rfl (Nat.le_of_ble_eq_true rfl) dX8_pipes_153 (fun H locs hP hD hS => ?_)
            have hP : va_P G vwCl (mW ad y vThrown vN vC vNow vHaze vCold vHot 1 (hdZ (vDeg + 5) 0 40) 0 vTrc vTurb vLeft vLoad vWater vTrips vMissed vBRow vBSum vCell vDirt vAim vErr vCor vBrk vTop vLm vRows vCols vDown vRight vBound vStrain vPrice vFirm vSums vRays vFalls vSom vHad) H := hP
            have hD : va_D A (mW ad y vThrown vN vC vNow vHaze vCold vHot 1 (hdZ (vDeg + 5) 0 40) 0 vTrc vTurb vLeft vLoad vWater vTrips vMissed vBRow vBSum vCell vDirt vAim vErr vCor vBrk vTop vLm vRows vCols vDown vRight vBound vStrain vPrice vFirm vSums vRays vFalls vSom vHad) := hD
            exact W.vret hx hb hr (fun t ht hW => ⟨⟨(1, (hdZ (vDeg + 5) 0 40), 0), rfl, ⟨(show (1 : Int) = npZ vPipe vDeg vThaw vTrc units from by unfold npZ dgZ dwZ; omega), (show (hdZ (vDeg + 5) 0 40) = ndZ vPipe vDeg vThaw vTrc units from by unfold ndZ dgZ dwZ; omega), (show (0 : Int) = ntZ vPipe vThaw vTrc from by unfold ntZ; omega), (show 0 ≤ (1 : Int) ∧ (1 : Int) ≤ 2 from by omega), (show 0 ≤ (hdZ (vDeg + 5) 0 40) ∧ (hdZ (vDeg + 5) 0 40) ≤ 40 ∧ ((1 : Int) = 1 → 20 ≤ (hdZ (vDeg + 5) 0 40)) from by omega), (show 0 ≤ (0 : Int) ∧ (0 : Int) ≤ 3 ∧ ((1 : Int) = 2 → (0 : Int) ≤ 2) from by omega)⟩, hz_at hP ht⟩, hS.F ht⟩) hS.2.2 dX8_pipes_156
          · refine hz_iconst hx hb dX8_pipes_143 ?_
            refine lv_goto (tgt := 148) hx hb dX8_pipes_144 (by decide) ?_
            refine va_put (D := G) (ci := 9) (v := zi 2) (ty := .int) (C := RX8) (T := TX8) (N := 40) hx hb hts hinwsX80 tyX8 tyX8_ok nmX8 hown hK hP hD hS 0 rfl rfl 24 (by decide) (hts (.fieldLink RX8 181 "HeliokeepModel" "pipe" "I") (List.mem_of_getElem? (i := 1) rfl)) (fun _ h9 => h9) rfl (by decide +kernel) rfl rfl (Nat.le_of_ble_eq_true rfl) dX8_pipes_148 (fun H locs hP hD hS => ?_)
            have hP : va_P G vwCl (mW ad y vThrown vN vC vNow vHaze vCold vHot 2 (hdZ (vDeg + 5) 0 40) vThaw vTrc vTurb vLeft vLoad vWater vTrips vMissed vBRow vBSum vCell vDirt vAim vErr vCor vBrk vTop vLm vRows vCols vDown vRight vBound vStrain vPrice vFirm vSums vRays vFalls vSom vHad) H := hP
            have hD : va_D A (mW ad y vThrown vN vC vNow vHaze vCold vHot 2 (hdZ (vDeg + 5) 0 40) vThaw vTrc vTurb vLeft vLoad vWater vTrips vMissed vBRow vBSum vCell vDirt vAim vErr vCor vBrk vTop vLm vRows vCols vDown vRight vBound vStrain vPrice vFirm vSums vRays vFalls vSom vHad) := hD
            refine lv_aload_n hx hb dX8_pipes_151 rfl (lv_at hl 1 rfl) ?_
            refine hz_iconst hx hb dX8_pipes_152 ?_
            refine va_put (D := G) (ci := 9) (v := zi 0) (ty := .int) (C := RX8) (T := TX8) (N := 40) hx hb hts hinwsX80 tyX8 tyX8_ok nmX8 hown hK hP hD hS 0 rfl rfl 26 (by decide) (hts (.fieldLink RX8 206 "HeliokeepModel" "thaw" "I") (List.mem_of_getElem? (i := 3) rfl)) (fun _ h9 => h9) rfl (by decide +kernel) rfl rfl (Nat.le_of_ble_eq_true rfl) dX8_pipes_153 (fun H locs hP hD hS => ?_)
            have hP : va_P G vwCl (mW ad y vThrown vN vC vNow vHaze vCold vHot 2 (hdZ (vDeg + 5) 0 40) 0 vTrc vTurb vLeft vLoad vWater vTrips vMissed vBRow vBSum vCell vDirt vAim vErr vCor vBrk vTop vLm vRows vCols vDown vRight vBound vStrain vPrice vFirm vSums vRays vFalls vSom vHad) H := hP
            have hD : va_D A (mW ad y vThrown vN vC vNow vHaze vCold vHot 2 (hdZ (vDeg + 5) 0 40) 0 vTrc vTurb vLeft vLoad vWater vTrips vMissed vBRow vBSum vCell vDirt vAim vErr vCor vBrk vTop vLm vRows vCols vDown vRight vBound vStrain vPrice vFirm vSums vRays vFalls vSom vHad) := hD
            exact W.vret hx hb hr (fun t ht hW => ⟨⟨(2, (hdZ (vDeg + 5) 0 40), 0), rfl, ⟨(show (2 : Int) = npZ vPipe vDeg vThaw vTrc units from by unfold npZ dgZ dwZ; omega), (show (hdZ (vDeg + 5) 0 40) = ndZ vPipe vDeg vThaw vTrc units from by unfold ndZ dgZ dwZ; omega), (show (0 : Int) = ntZ vPipe vThaw vTrc from by unfold ntZ; omega), (show 0 ≤ (2 : Int) ∧ (2 : Int) ≤ 2 from by omega), (show 0 ≤ (hdZ (vDeg + 5) 0 40) ∧ (hdZ (vDeg + 5) 0 40) ≤ 40 ∧ ((2 : Int) = 1 → 20 ≤ (hdZ (vDeg + 5) 0 40)) from by omega), (show 0 ≤ (0 : Int) ∧ (0 : Int) ≤ 3 ∧ ((2 : Int) = 2 → (0 : Int) ≤ 2) from by omega)⟩, hz_at hP ht⟩, hS.F ht⟩) hS.2.2 dX8_pipes_156
        · refine lv_iload_n hx hb dX8_pipes_118 rfl (lv_at hl 0 rfl) ?_
          refine hz_bipush hx hb dX8_pipes_119 (by decide) ?_
          refine hz_icmp_ge (tgt := 129) hx hb dX8_pipes_121 (by decide) (by omega) (fun c10 => ?_) (fun c10 => ?_)
          · refine lv_iload_n hx hb dX8_pipes_129 rfl (lv_at hl 0 rfl) ?_
            refine va_put (D := G) (ci := 9) (v := zi (hdZ (vDeg + 5) 0 40)) (ty := .int) (C := RX8) (T := TX8) (N := 40) hx hb hts hinwsX80 tyX8 tyX8_ok nmX8 hown hK hP hD hS 0 rfl rfl 25 (by decide) (hts (.fieldLink RX8 184 "HeliokeepModel" "degrees" "I") (List.mem_of_getElem? (i := 4) rfl)) (fun _ h9 => h9) rfl (by decide +kernel) rfl rfl (Nat.le_of_ble_eq_true rfl) dX8_pipes_130 (fun H locs hP hD hS => ?_)
            have hP : va_P G vwCl (mW ad y vThrown vN vC vNow vHaze vCold vHot vPipe (hdZ (vDeg + 5) 0 40) vThaw vTrc vTurb vLeft vLoad vWater vTrips vMissed vBRow vBSum vCell vDirt vAim vErr vCor vBrk vTop vLm vRows vCols vDown vRight vBound vStrain vPrice vFirm vSums vRays vFalls vSom vHad) H := hP
            have hD : va_D A (mW ad y vThrown vN vC vNow vHaze vCold vHot vPipe (hdZ (vDeg + 5) 0 40) vThaw vTrc vTurb vLeft vLoad vWater vTrips vMissed vBRow vBSum vCell vDirt vAim vErr vCor vBrk vTop vLm vRows vCols vDown vRight vBound vStrain vPrice vFirm vSums vRays vFalls vSom vHad) := hD
            refine lv_aload_n hx hb dX8_pipes_133 rfl (lv_at hl 1 rfl) ?_
            refine lv_aload_n hx hb dX8_pipes_134 rfl (lv_at hl 1 rfl) ?_
            refine va_get (D := G) (ci := 9) (v := zi (hdZ (vDeg + 5) 0 40)) (C := RX8) (T := TX8) (N := 40) hx hb hts hinwsX80 hown hK hP 0 rfl rfl 25 (by decide) (hts (.fieldLink RX8 184 "HeliokeepModel" "degrees" "I") (List.mem_of_getElem? (i := 4) rfl)) (fun _ h9 => h9) rfl dX8_pipes_135 ?_
            refine hz_bipush hx hb dX8_pipes_138 (by decide) ?_
            refine hz_icmp_ge (tgt := 147) hx hb dX8_pipes_140 (by decide) (by omega) (fun c11 => ?_) (fun c11 => ?_)
            · refine hz_iconst hx hb dX8_pipes_147 ?_
              refine va_put (D := G) (ci := 9) (v := zi 1) (ty := .int) (C := RX8) (T := TX8) (N := 40) hx hb hts hinwsX80 tyX8 tyX8_ok nmX8 hown hK hP hD hS 0 rfl rfl 24 (by decide) (hts (.fieldLink RX8 181 "HeliokeepModel" "pipe" "I") (List.mem_of_getElem? (i := 1) rfl)) (fun _ h9 => h9) rfl (by decide +kernel) rfl rfl (Nat.le_of_ble_eq_true rfl) dX8_pipes_148 (fun H locs hP hD hS => ?_)
              have hP : va_P G vwCl (mW ad y vThrown vN vC vNow vHaze vCold vHot 1 (hdZ (vDeg + 5) 0 40) vThaw vTrc vTurb vLeft vLoad vWater vTrips vMissed vBRow vBSum vCell vDirt vAim vErr vCor vBrk vTop vLm vRows vCols vDown vRight vBound vStrain vPrice vFirm vSums vRays vFalls vSom vHad) H := hP
              have hD : va_D A (mW ad y vThrown vN vC vNow vHaze vCold vHot 1 (hdZ (vDeg + 5) 0 40) vThaw vTrc vTurb vLeft vLoad vWater vTrips vMissed vBRow vBSum vCell vDirt vAim vErr vCor vBrk vTop vLm vRows vCols vDown vRight vBound vStrain vPrice vFirm vSums vRays vFalls vSom vHad) := hD
              refine lv_aload_n hx hb dX8_pipes_151 rfl (lv_at hl 1 rfl) ?_
              refine hz_iconst hx hb dX8_pipes_152 ?_
              refine va_put (D := G) (ci := 9) (v := zi 0) (ty := .int) (C := RX8) (T := TX8) (N := 40) hx hb hts hinwsX80 tyX8 tyX8_ok nmX8 hown hK hP hD hS 0 rfl rfl 26 (by decide) (hts (.fieldLink RX8 206 "HeliokeepModel" "thaw" "I") (List.mem_of_getElem? (i := 3) rfl)) (fun _ h9 => h9) rfl (by decide +kernel) rfl rfl (Nat.le_of_ble_eq_true rfl) dX8_pipes_153 (fun H locs hP hD hS => ?_)
              have hP : va_P G vwCl (mW ad y vThrown vN vC vNow vHaze vCold vHot 1 (hdZ (vDeg + 5) 0 40) 0 vTrc vTurb vLeft vLoad vWater vTrips vMissed vBRow vBSum vCell vDirt vAim vErr vCor vBrk vTop vLm vRows vCols vDown vRight vBound vStrain vPrice vFirm vSums vRays vFalls vSom vHad) H := hP
              have hD : va_D A (mW ad y vThrown vN vC vNow vHaze vCold vHot 1 (hdZ (vDeg + 5) 0 40) 0 vTrc vTurb vLeft vLoad vWater vTrips vMissed vBRow vBSum vCell vDirt vAim vErr vCor vBrk vTop vLm vRows vCols vDown vRight vBound vStrain vPrice vFirm vSums vRays vFalls vSom vHad) := hD
              exact W.vret hx hb hr (fun t ht hW => ⟨⟨(1, (hdZ (vDeg + 5) 0 40), 0), rfl, ⟨(show (1 : Int) = npZ vPipe vDeg vThaw vTrc units from by unfold npZ dgZ dwZ; omega), (show (hdZ (vDeg + 5) 0 40) = ndZ vPipe vDeg vThaw vTrc units from by unfold ndZ dgZ dwZ; omega), (show (0 : Int) = ntZ vPipe vThaw vTrc from by unfold ntZ; omega), (show 0 ≤ (1 : Int) ∧ (1 : Int) ≤ 2 from by omega), (show 0 ≤ (hdZ (vDeg + 5) 0 40) ∧ (hdZ (vDeg + 5) 0 40) ≤ 40 ∧ ((1 : Int) = 1 → 20 ≤ (hdZ (vDeg + 5) 0 40)) from by omega), (show 0 ≤ (0 : Int) ∧ (0 : Int) ≤ 3 ∧ ((1 : Int) = 2 → (0 : Int) ≤ 2) from by omega)⟩, hz_at hP ht⟩, hS.F ht⟩) hS.2.2 dX8_pipes_156
            · refine hz_iconst hx hb dX8_pipes_143 ?_
              refine lv_goto (tgt := 148) hx hb dX8_pipes_144 (by decide) ?_
              refine va_put (D := G) (ci := 9) (v := zi 2) (ty := .int) (C := RX8) (T := TX8) (N := 40) hx hb hts hinwsX80 tyX8 tyX8_ok nmX8 hown hK hP hD hS 0 rfl rfl 24 (by decide) (hts (.fieldLink RX8 181 "HeliokeepModel" "pipe" "I") (List.mem_of_getElem? (i := 1) rfl)) (fun _ h9 => h9) rfl (by decide +kernel) rfl rfl (Nat.le_of_ble_eq_true rfl) dX8_pipes_148 (fun H locs hP hD hS => ?_)
              have hP : va_P G vwCl (mW ad y vThrown vN vC vNow vHaze vCold vHot 2 (hdZ (vDeg + 5) 0 40) vThaw vTrc vTurb vLeft vLoad vWater vTrips vMissed vBRow vBSum vCell vDirt vAim vErr vCor vBrk vTop vLm vRows vCols vDown vRight vBound vStrain vPrice vFirm vSums vRays vFalls vSom vHad) H := hP
              have hD : va_D A (mW ad y vThrown vN vC vNow vHaze vCold vHot 2 (hdZ (vDeg + 5) 0 40) vThaw vTrc vTurb vLeft vLoad vWater vTrips vMissed vBRow vBSum vCell vDirt vAim vErr vCor vBrk vTop vLm vRows vCols vDown vRight vBound vStrain vPrice vFirm vSums vRays vFalls vSom vHad) := hD
              refine lv_aload_n hx hb dX8_pipes_151 rfl (lv_at hl 1 rfl) ?_
              refine hz_iconst hx hb dX8_pipes_152 ?_
              refine va_put (D := G) (ci := 9) (v := zi 0) (ty := .int) (C := RX8) (T := TX8) (N := 40) hx hb hts hinwsX80 tyX8 tyX8_ok nmX8 hown hK hP hD hS 0 rfl rfl 26 (by decide) (hts (.fieldLink RX8 206 "HeliokeepModel" "thaw" "I") (List.mem_of_getElem? (i := 3) rfl)) (fun _ h9 => h9) rfl (by decide +kernel) rfl rfl (Nat.le_of_ble_eq_true rfl) dX8_pipes_153 (fun H locs hP hD hS => ?_)
              have hP : va_P G vwCl (mW ad y vThrown vN vC vNow vHaze vCold vHot 2 (hdZ (vDeg + 5) 0 40) 0 vTrc vTurb vLeft vLoad vWater vTrips vMissed vBRow vBSum vCell vDirt vAim vErr vCor vBrk vTop vLm vRows vCols vDown vRight vBound vStrain vPrice vFirm vSums vRays vFalls vSom vHad) H := hP
              have hD : va_D A (mW ad y vThrown vN vC vNow vHaze vCold vHot 2 (hdZ (vDeg + 5) 0 40) 0 vTrc vTurb vLeft vLoad vWater vTrips vMissed vBRow vBSum vCell vDirt vAim vErr vCor vBrk vTop vLm vRows vCols vDown vRight vBound vStrain vPrice vFirm vSums vRays vFalls vSom vHad) := hD
              exact W.vret hx hb hr (fun t ht hW => ⟨⟨(2, (hdZ (vDeg + 5) 0 40), 0), rfl, ⟨(show (2 : Int) = npZ vPipe vDeg vThaw vTrc units from by unfold npZ dgZ dwZ; omega), (show (hdZ (vDeg + 5) 0 40) = ndZ vPipe vDeg vThaw vTrc units from by unfold ndZ dgZ dwZ; omega), (show (0 : Int) = ntZ vPipe vThaw vTrc from by unfold ntZ; omega), (show 0 ≤ (2 : Int) ∧ (2 : Int) ≤ 2 from by omega), (show 0 ≤ (hdZ (vDeg + 5) 0 40) ∧ (hdZ (vDeg + 5) 0 40) ≤ 40 ∧ ((2 : Int) = 1 → 20 ≤ (hdZ (vDeg + 5) 0 40)) from by omega), (show 0 ≤ (0 : Int) ∧ (0 : Int) ≤ 3 ∧ ((2 : Int) = 2 → (0 : Int) ≤ 2) from by omega)⟩, hz_at hP ht⟩, hS.F ht⟩) hS.2.2 dX8_pipes_156
          · refine hz_bipush hx hb dX8_pipes_124 (by decide) ?_
            refine lv_goto (tgt := 130) hx hb dX8_pipes_126 (by decide) ?_
            refine va_put (D := G) (ci := 9) (v := zi 22) (ty := .int) (C := RX8) (T := TX8) (N := 40) hx hb hts hinwsX80 tyX8 tyX8_ok nmX8 hown hK hP hD hS 0 rfl rfl 25 (by decide) (hts (.fieldLink RX8 184 "HeliokeepModel" "degrees" "I") (List.mem_of_getElem? (i := 4) rfl)) (fun _ h9 => h9) rfl (by decide +kernel) rfl rfl (Nat.le_of_ble_eq_true rfl) dX8_pipes_130 (fun H locs hP hD hS => ?_)
            have hP : va_P G vwCl (mW ad y vThrown vN vC vNow vHaze vCold vHot vPipe 22 vThaw vTrc vTurb vLeft vLoad vWater vTrips vMissed vBRow vBSum vCell vDirt vAim vErr vCor vBrk vTop vLm vRows vCols vDown vRight vBound vStrain vPrice vFirm vSums vRays vFalls vSom vHad) H := hP
            have hD : va_D A (mW ad y vThrown vN vC vNow vHaze vCold vHot vPipe 22 vThaw vTrc vTurb vLeft vLoad vWater vTrips vMissed vBRow vBSum vCell vDirt vAim vErr vCor vBrk vTop vLm vRows vCols vDown vRight vBound vStrain vPrice vFirm vSums vRays vFalls vSom vHad) := hD
            refine lv_aload_n hx hb dX8_pipes_133 rfl (lv_at hl 1 rfl) ?_
            refine lv_aload_n hx hb dX8_pipes_134 rfl (lv_at hl 1 rfl) ?_
            refine va_get (D := G) (ci := 9) (v := zi 22) (C := RX8) (T := TX8) (N := 40) hx hb hts hinwsX80 hown hK hP 0 rfl rfl 25 (by decide) (hts (.fieldLink RX8 184 "HeliokeepModel" "degrees" "I") (List.mem_of_getElem? (i := 4) rfl)) (fun _ h9 => h9) rfl dX8_pipes_135 ?_
            refine hz_bipush hx hb dX8_pipes_138 (by decide) ?_
            refine hz_icmp_ge (tgt := 147) hx hb dX8_pipes_140 (by decide) (by omega) (fun _ => ?_) (fun q => absurd q (by omega))
            refine hz_iconst hx hb dX8_pipes_147 ?_
            refine va_put (D := G) (ci := 9) (v := zi 1) (ty := .int) (C := RX8) (T := TX8) (N := 40) hx hb hts hinwsX80 tyX8 tyX8_ok nmX8 hown hK hP hD hS 0 rfl rfl 24 (by decide) (hts (.fieldLink RX8 181 "HeliokeepModel" "pipe" "I") (List.mem_of_getElem? (i := 1) rfl)) (fun _ h9 => h9) rfl (by decide +kernel) rfl rfl (Nat.le_of_ble_eq_true rfl) dX8_pipes_148 (fun H locs hP hD hS => ?_)
            have hP : va_P G vwCl (mW ad y vThrown vN vC vNow vHaze vCold vHot 1 22 vThaw vTrc vTurb vLeft vLoad vWater vTrips vMissed vBRow vBSum vCell vDirt vAim vErr vCor vBrk vTop vLm vRows vCols vDown vRight vBound vStrain vPrice vFirm vSums vRays vFalls vSom vHad) H := hP
            have hD : va_D A (mW ad y vThrown vN vC vNow vHaze vCold vHot 1 22 vThaw vTrc vTurb vLeft vLoad vWater vTrips vMissed vBRow vBSum vCell vDirt vAim vErr vCor vBrk vTop vLm vRows vCols vDown vRight vBound vStrain vPrice vFirm vSums vRays vFalls vSom vHad) := hD
            refine lv_aload_n hx hb dX8_pipes_151 rfl (lv_at hl 1 rfl) ?_
            refine hz_iconst hx hb dX8_pipes_152 ?_
            refine va_put (D := G) (ci := 9) (v := zi 0) (ty := .int) (C := RX8) (T := TX8) (N := 40) hx hb hts hinwsX80 tyX8 tyX8_ok nmX8 hown hK hP hD hS 0 rfl rfl 26 (by decide) (hts (.fieldLink RX8 206 "HeliokeepModel" "thaw" "I") (List.mem_of_getElem? (i := 3) rfl)) (fun _ h9 => h9) rfl (by decide +kernel) rfl rfl (Nat.le_of_ble_eq_true rfl) dX8_pipes_153 (fun H locs hP hD hS => ?_)
            have hP : va_P G vwCl (mW ad y vThrown vN vC vNow vHaze vCold vHot 1 22 0 vTrc vTurb vLeft vLoad vWater vTrips vMissed vBRow vBSum vCell vDirt vAim vErr vCor vBrk vTop vLm vRows vCols vDown vRight vBound vStrain vPrice vFirm vSums vRays vFalls vSom vHad) H := hP
            have hD : va_D A (mW ad y vThrown vN vC vNow vHaze vCold vHot 1 22 0 vTrc vTurb vLeft vLoad vWater vTrips vMissed vBRow vBSum vCell vDirt vAim vErr vCor vBrk vTop vLm vRows vCols vDown vRight vBound vStrain vPrice vFirm vSums vRays vFalls vSom vHad) := hD
            exact W.vret hx hb hr (fun t ht hW => ⟨⟨(1, 22, 0), rfl, ⟨(show (1 : Int) = npZ vPipe vDeg vThaw vTrc units from by unfold npZ dgZ dwZ; omega), (show (22 : Int) = ndZ vPipe vDeg vThaw vTrc units from by unfold ndZ dgZ dwZ; omega), (show (0 : Int) = ntZ vPipe vThaw vTrc from by unfold ntZ; omega), (show 0 ≤ (1 : Int) ∧ (1 : Int) ≤ 2 from by omega), (show 0 ≤ (22 : Int) ∧ (22 : Int) ≤ 40 ∧ ((1 : Int) = 1 → 20 ≤ (22 : Int)) from by omega), (show 0 ≤ (0 : Int) ∧ (0 : Int) ≤ 3 ∧ ((1 : Int) = 2 → (0 : Int) ≤ 2) from by omega)⟩, hz_at hP ht⟩, hS.F ht⟩) hS.2.2 dX8_pipes_156
  · refine lv_aload_n hx hb dX8_pipes_8 rfl (lv_at hl 0 rfl) ?_
    refine lv_aload_n hx hb dX8_pipes_9 rfl (lv_at hl 0 rfl) ?_
    refine va_get (D := G) (ci := 9) (v := zi vTrc) (C := RX8) (T := TX8) (N := 40) hx hb hts hinwsX80 hown hK hP 0 rfl rfl 27 (by decide) (hts (.fieldLink RX8 187 "HeliokeepModel" "isTraced" "Z") (List.mem_of_getElem? (i := 2) rfl)) (fun _ h9 => h9) rfl dX8_pipes_10 ?_
    refine hz_if_eq (tgt := 25) hx hb dX8_pipes_13 (by decide) (by omega) (fun c12 => ?_) (fun c12 => ?_)
    · refine hz_iconst hx hb dX8_pipes_25 ?_
      refine va_put (D := G) (ci := 9) (v := zi 0) (ty := .int) (C := RX8) (T := TX8) (N := 40) hx hb hts hinwsX80 tyX8 tyX8_ok nmX8 hown hK hP hD hS 0 rfl rfl 26 (by decide) (hts (.fieldLink RX8 206 "HeliokeepModel" "thaw" "I") (List.mem_of_getElem? (i := 3) rfl)) (fun _ h9 => h9) rfl (by decide +kernel) rfl rfl (Nat.le_of_ble_eq_true rfl) dX8_pipes_26 (fun H locs hP hD hS => ?_)
      have hP : va_P G vwCl (mW ad y vThrown vN vC vNow vHaze vCold vHot vPipe vDeg 0 vTrc vTurb vLeft vLoad vWater vTrips vMissed vBRow vBSum vCell vDirt vAim vErr vCor vBrk vTop vLm vRows vCols vDown vRight vBound vStrain vPrice vFirm vSums vRays vFalls vSom vHad) H := hP
      have hD : va_D A (mW ad y vThrown vN vC vNow vHaze vCold vHot vPipe vDeg 0 vTrc vTurb vLeft vLoad vWater vTrips vMissed vBRow vBSum vCell vDirt vAim vErr vCor vBrk vTop vLm vRows vCols vDown vRight vBound vStrain vPrice vFirm vSums vRays vFalls vSom vHad) := hD
      refine lv_aload_n hx hb dX8_pipes_29 rfl (lv_at hl 0 rfl) ?_
      refine va_get (D := G) (ci := 9) (v := zi 0) (C := RX8) (T := TX8) (N := 40) hx hb hts hinwsX80 hown hK hP 0 rfl rfl 26 (by decide) (hts (.fieldLink RX8 206 "HeliokeepModel" "thaw" "I") (List.mem_of_getElem? (i := 3) rfl)) (fun _ h9 => h9) rfl dX8_pipes_30 ?_
      refine hz_iconst hx hb dX8_pipes_33 ?_
      refine hz_icmp_ne (tgt := 41) hx hb dX8_pipes_34 (by decide) (by omega) (fun _ => ?_) (fun q => absurd q (by omega))
      refine hz_iconst hx hb dX8_pipes_41 ?_
      refine lv_istore_n (lv' := [(2, zi 0), (0, .ref (ad 0)), (1, zi units)]) hx hb dX8_pipes_42 rfl hl (by decide) rfl (fun ls hl => ?_)
      refine lv_aload_n hx hb dX8_pipes_43 rfl (lv_at hl 1 rfl) ?_
      refine lv_iload_n hx hb dX8_pipes_44 rfl (lv_at hl 0 rfl) ?_
      refine hz_if_eq (tgt := 52) hx hb dX8_pipes_45 (by decide) (by omega) (fun _ => ?_) (fun q => absurd q (by omega))
      refine hz_iconst hx hb dX8_pipes_52 ?_
      refine va_put (D := G) (ci := 9) (v := zi 2) (ty := .int) (C := RX8) (T := TX8) (N := 40) hx hb hts hinwsX80 tyX8 tyX8_ok nmX8 hown hK hP hD hS 0 rfl rfl 24 (by decide) (hts (.fieldLink RX8 181 "HeliokeepModel" "pipe" "I") (List.mem_of_getElem? (i := 1) rfl)) (fun _ h9 => h9) rfl (by decide +kernel) rfl rfl (Nat.le_of_ble_eq_true rfl) dX8_pipes_53 (fun H locs hP hD hS => ?_)
      have hP : va_P G vwCl (mW ad y vThrown vN vC vNow vHaze vCold vHot 2 vDeg 0 vTrc vTurb vLeft vLoad vWater vTrips vMissed vBRow vBSum vCell vDirt vAim vErr vCor vBrk vTop vLm vRows vCols vDown vRight vBound vStrain vPrice vFirm vSums vRays vFalls vSom vHad) H := hP
      have hD : va_D A (mW ad y vThrown vN vC vNow vHaze vCold vHot 2 vDeg 0 vTrc vTurb vLeft vLoad vWater vTrips vMissed vBRow vBSum vCell vDirt vAim vErr vCor vBrk vTop vLm vRows vCols vDown vRight vBound vStrain vPrice vFirm vSums vRays vFalls vSom vHad) := hD
      refine lv_aload_n hx hb dX8_pipes_56 rfl (lv_at hl 1 rfl) ?_
      refine lv_iload_n hx hb dX8_pipes_57 rfl (lv_at hl 0 rfl) ?_
      refine hz_if_eq (tgt := 66) hx hb dX8_pipes_58 (by decide) (by omega) (fun _ => ?_) (fun q => absurd q (by omega))
      refine lv_aload_n hx hb dX8_pipes_66 rfl (lv_at hl 1 rfl) ?_
      refine va_get (D := G) (ci := 9) (v := zi vDeg) (C := RX8) (T := TX8) (N := 40) hx hb hts hinwsX80 hown hK hP 0 rfl rfl 25 (by decide) (hts (.fieldLink RX8 184 "HeliokeepModel" "degrees" "I") (List.mem_of_getElem? (i := 4) rfl)) (fun _ h9 => h9) rfl dX8_pipes_67 ?_
      refine va_put (D := G) (ci := 9) (v := zi vDeg) (ty := .int) (C := RX8) (T := TX8) (N := 40) hx hb hts hinwsX80 tyX8 tyX8_ok nmX8 hown hK hP hD hS 0 rfl rfl 25 (by decide) (hts (.fieldLink RX8 184 "HeliokeepModel" "degrees" "I") (List.mem_of_getElem? (i := 4) rfl)) (fun _ h9 => h9) rfl (by decide +kernel) rfl rfl (Nat.le_of_ble_eq_true rfl) dX8_pipes_70 (fun H locs hP hD hS => ?_)
      have hP : va_P G vwCl (mW ad y vThrown vN vC vNow vHaze vCold vHot 2 vDeg 0 vTrc vTurb vLeft vLoad vWater vTrips vMissed vBRow vBSum vCell vDirt vAim vErr vCor vBrk vTop vLm vRows vCols vDown vRight vBound vStrain vPrice vFirm vSums vRays vFalls vSom vHad) H := hP
      have hD : va_D A (mW ad y vThrown vN vC vNow vHaze vCold vHot 2 vDeg 0 vTrc vTurb vLeft vLoad vWater vTrips vMissed vBRow vBSum vCell vDirt vAim vErr vCor vBrk vTop vLm vRows vCols vDown vRight vBound vStrain vPrice vFirm vSums vRays vFalls vSom vHad) := hD
      refine lv_goto (tgt := 156) hx hb dX8_pipes_73 (by decide) ?_
      exact W.vret hx hb hr (fun t ht hW => ⟨⟨(2, vDeg, 0), rfl, ⟨(show (2 : Int) = npZ vPipe vDeg vThaw vTrc units from by unfold npZ dgZ dwZ; omega), (show vDeg = ndZ vPipe vDeg vThaw vTrc units from by unfold ndZ dgZ dwZ; omega), (show (0 : Int) = ntZ vPipe vThaw vTrc from by unfold ntZ; omega), (show 0 ≤ (2 : Int) ∧ (2 : Int) ≤ 2 from by omega), (show 0 ≤ vDeg ∧ vDeg ≤ 40 ∧ ((2 : Int) = 1 → 20 ≤ vDeg) from by omega), (show 0 ≤ (0 : Int) ∧ (0 : Int) ≤ 3 ∧ ((2 : Int) = 2 → (0 : Int) ≤ 2) from by omega)⟩, hz_at hP ht⟩, hS.F ht⟩) hS.2.2 dX8_pipes_156
    · refine lv_aload_n hx hb dX8_pipes_16 rfl (lv_at hl 0 rfl) ?_
      refine va_get (D := G) (ci := 9) (v := zi vThaw) (C := RX8) (T := TX8) (N := 40) hx hb hts hinwsX80 hown hK hP 0 rfl rfl 26 (by decide) (hts (.fieldLink RX8 206 "HeliokeepModel" "thaw" "I") (List.mem_of_getElem? (i := 3) rfl)) (fun _ h9 => h9) rfl dX8_pipes_17 ?_
      refine hz_iconst hx hb dX8_pipes_20 ?_
      refine hz_iadd hx hb dX8_pipes_21 ?_
      refine lv_goto (tgt := 26) hx hb dX8_pipes_22 (by decide) ?_
      refine va_put (D := G) (ci := 9) (v := zi (vThaw + 1)) (ty := .int) (C := RX8) (T := TX8) (N := 40) hx hb hts hinwsX80 tyX8 tyX8_ok nmX8 hown hK hP hD hS 0 rfl rfl 26 (by decide) (hts (.fieldLink RX8 206 "HeliokeepModel" "thaw" "I") (List.mem_of_getElem? (i := 3) rfl)) (fun _ h9 => h9) rfl (by decide +kernel) rfl rfl (Nat.le_of_ble_eq_true rfl) dX8_pipes_26 (fun H locs hP hD hS => ?_)
      have hP : va_P G vwCl (mW ad y vThrown vN vC vNow vHaze vCold vHot vPipe vDeg (vThaw + 1) vTrc vTurb vLeft vLoad vWater vTrips vMissed vBRow vBSum vCell vDirt vAim vErr vCor vBrk vTop vLm vRows vCols vDown vRight vBound vStrain vPrice vFirm vSums vRays vFalls vSom vHad) H := hP
      have hD : va_D A (mW ad y vThrown vN vC vNow vHaze vCold vHot vPipe vDeg (vThaw + 1) vTrc vTurb vLeft vLoad vWater vTrips vMissed vBRow vBSum vCell vDirt vAim vErr vCor vBrk vTop vLm vRows vCols vDown vRight vBound vStrain vPrice vFirm vSums vRays vFalls vSom vHad) := hD
      refine lv_aload_n hx hb dX8_pipes_29 rfl (lv_at hl 0 rfl) ?_
      refine va_get (D := G) (ci := 9) (v := zi (vThaw + 1)) (C := RX8) (T := TX8) (N := 40) hx hb hts hinwsX80 hown hK hP 0 rfl rfl 26 (by decide) (hts (.fieldLink RX8 206 "HeliokeepModel" "thaw" "I") (List.mem_of_getElem? (i := 3) rfl)) (fun _ h9 => h9) rfl dX8_pipes_30 ?_
      refine hz_iconst hx hb dX8_pipes_33 ?_
      refine hz_icmp_ne (tgt := 41) hx hb dX8_pipes_34 (by decide) (by omega) (fun c13 => ?_) (fun c13 => ?_)
      · refine hz_iconst hx hb dX8_pipes_41 ?_
        refine lv_istore_n (lv' := [(2, zi 0), (0, .ref (ad 0)), (1, zi units)]) hx hb dX8_pipes_42 rfl hl (by decide) rfl (fun ls hl => ?_)
        refine lv_aload_n hx hb dX8_pipes_43 rfl (lv_at hl 1 rfl) ?_
        refine lv_iload_n hx hb dX8_pipes_44 rfl (lv_at hl 0 rfl) ?_
        refine hz_if_eq (tgt := 52) hx hb dX8_pipes_45 (by decide) (by omega) (fun _ => ?_) (fun q => absurd q (by omega))
        refine hz_iconst hx hb dX8_pipes_52 ?_
        refine va_put (D := G) (ci := 9) (v := zi 2) (ty := .int) (C := RX8) (T := TX8) (N := 40) hx hb hts hinwsX80 tyX8 tyX8_ok nmX8 hown hK hP hD hS 0 rfl rfl 24 (by decide) (hts (.fieldLink RX8 181 "HeliokeepModel" "pipe" "I") (List.mem_of_getElem? (i := 1) rfl)) (fun _ h9 => h9) rfl (by decide +kernel) rfl rfl (Nat.le_of_ble_eq_true rfl) dX8_pipes_53 (fun H locs hP hD hS => ?_)
        have hP : va_P G vwCl (mW ad y vThrown vN vC vNow vHaze vCold vHot 2 vDeg (vThaw + 1) vTrc vTurb vLeft vLoad vWater vTrips vMissed vBRow vBSum vCell vDirt vAim vErr vCor vBrk vTop vLm vRows vCols vDown vRight vBound vStrain vPrice vFirm vSums vRays vFalls vSom vHad) H := hP
        have hD : va_D A (mW ad y vThrown vN vC vNow vHaze vCold vHot 2 vDeg (vThaw + 1) vTrc vTurb vLeft vLoad vWater vTrips vMissed vBRow vBSum vCell vDirt vAim vErr vCor vBrk vTop vLm vRows vCols vDown vRight vBound vStrain vPrice vFirm vSums vRays vFalls vSom vHad) := hD
        refine lv_aload_n hx hb dX8_pipes_56 rfl (lv_at hl 1 rfl) ?_
        refine lv_iload_n hx hb dX8_pipes_57 rfl (lv_at hl 0 rfl) ?_
        refine hz_if_eq (tgt := 66) hx hb dX8_pipes_58 (by decide) (by omega) (fun _ => ?_) (fun q => absurd q (by omega))
        refine lv_aload_n hx hb dX8_pipes_66 rfl (lv_at hl 1 rfl) ?_
        refine va_get (D := G) (ci := 9) (v := zi vDeg) (C := RX8) (T := TX8) (N := 40) hx hb hts hinwsX80 hown hK hP 0 rfl rfl 25 (by decide) (hts (.fieldLink RX8 184 "HeliokeepModel" "degrees" "I") (List.mem_of_getElem? (i := 4) rfl)) (fun _ h9 => h9) rfl dX8_pipes_67 ?_
        refine va_put (D := G) (ci := 9) (v := zi vDeg) (ty := .int) (C := RX8) (T := TX8) (N := 40) hx hb hts hinwsX80 tyX8 tyX8_ok nmX8 hown hK hP hD hS 0 rfl rfl 25 (by decide) (hts (.fieldLink RX8 184 "HeliokeepModel" "degrees" "I") (List.mem_of_getElem? (i := 4) rfl)) (fun _ h9 => h9) rfl (by decide +kernel) rfl rfl (Nat.le_of_ble_eq_true rfl) dX8_pipes_70 (fun H locs hP hD hS => ?_)
        have hP : va_P G vwCl (mW ad y vThrown vN vC vNow vHaze vCold vHot 2 vDeg (vThaw + 1) vTrc vTurb vLeft vLoad vWater vTrips vMissed vBRow vBSum vCell vDirt vAim vErr vCor vBrk vTop vLm vRows vCols vDown vRight vBound vStrain vPrice vFirm vSums vRays vFalls vSom vHad) H := hP
        have hD : va_D A (mW ad y vThrown vN vC vNow vHaze vCold vHot 2 vDeg (vThaw + 1) vTrc vTurb vLeft vLoad vWater vTrips vMissed vBRow vBSum vCell vDirt vAim vErr vCor vBrk vTop vLm vRows vCols vDown vRight vBound vStrain vPrice vFirm vSums vRays vFalls vSom vHad) := hD
        refine lv_goto (tgt := 156) hx hb dX8_pipes_73 (by decide) ?_
        exact W.vret hx hb hr (fun t ht hW => ⟨⟨(2, vDeg, (vThaw + 1)), rfl, ⟨(show (2 : Int) = npZ vPipe vDeg vThaw vTrc units from by unfold npZ dgZ dwZ; omega), (show vDeg = ndZ vPipe vDeg vThaw vTrc units from by unfold ndZ dgZ dwZ; omega), (show (vThaw + 1) = ntZ vPipe vThaw vTrc from by unfold ntZ; omega), (show 0 ≤ (2 : Int) ∧ (2 : Int) ≤ 2 from by omega), (show 0 ≤ vDeg ∧ vDeg ≤ 40 ∧ ((2 : Int) = 1 → 20 ≤ vDeg) from by omega), (show 0 ≤ (vThaw + 1) ∧ (vThaw + 1) ≤ 3 ∧ ((2 : Int) = 2 → (vThaw + 1) ≤ 2) from by omega)⟩, hz_at hP ht⟩, hS.F ht⟩) hS.2.2 dX8_pipes_156
      · refine hz_iconst hx hb dX8_pipes_37 ?_
        refine lv_goto (tgt := 42) hx hb dX8_pipes_38 (by decide) ?_
        refine lv_istore_n (lv' := [(2, zi 1), (0, .ref (ad 0)), (1, zi units)]) hx hb dX8_pipes_42 rfl hl (by decide) rfl (fun ls hl => ?_)
        refine lv_aload_n hx hb dX8_pipes_43 rfl (lv_at hl 1 rfl) ?_
        refine lv_iload_n hx hb dX8_pipes_44 rfl (lv_at hl 0 rfl) ?_
        refine hz_if_eq (tgt := 52) hx hb dX8_pipes_45 (by decide) (by omega) (fun q => absurd q (by omega)) (fun _ => ?_)
        refine hz_iconst hx hb dX8_pipes_48 ?_
        refine lv_goto (tgt := 53) hx hb dX8_pipes_49 (by decide) ?_
        refine va_put (D := G) (ci := 9) (v := zi 1) (ty := .int) (C := RX8) (T := TX8) (N := 40) hx hb hts hinwsX80 tyX8 tyX8_ok nmX8 hown hK hP hD hS 0 rfl rfl 24 (by decide) (hts (.fieldLink RX8 181 "HeliokeepModel" "pipe" "I") (List.mem_of_getElem? (i := 1) rfl)) (fun _ h9 => h9) rfl (by decide +kernel) rfl rfl (Nat.le_of_ble_eq_true rfl) dX8_pipes_53 (fun H locs hP hD hS => ?_)
        have hP : va_P G vwCl (mW ad y vThrown vN vC vNow vHaze vCold vHot 1 vDeg (vThaw + 1) vTrc vTurb vLeft vLoad vWater vTrips vMissed vBRow vBSum vCell vDirt vAim vErr vCor vBrk vTop vLm vRows vCols vDown vRight vBound vStrain vPrice vFirm vSums vRays vFalls vSom vHad) H := hP
        have hD : va_D A (mW ad y vThrown vN vC vNow vHaze vCold vHot 1 vDeg (vThaw + 1) vTrc vTurb vLeft vLoad vWater vTrips vMissed vBRow vBSum vCell vDirt vAim vErr vCor vBrk vTop vLm vRows vCols vDown vRight vBound vStrain vPrice vFirm vSums vRays vFalls vSom vHad) := hD
        refine lv_aload_n hx hb dX8_pipes_56 rfl (lv_at hl 1 rfl) ?_
        refine lv_iload_n hx hb dX8_pipes_57 rfl (lv_at hl 0 rfl) ?_
        refine hz_if_eq (tgt := 66) hx hb dX8_pipes_58 (by decide) (by omega) (fun q => absurd q (by omega)) (fun _ => ?_)
        refine hz_bipush hx hb dX8_pipes_61 (by decide) ?_
        refine lv_goto (tgt := 70) hx hb dX8_pipes_63 (by decide) ?_
        refine va_put (D := G) (ci := 9) (v := zi 22) (ty := .int) (C := RX8) (T := TX8) (N := 40) hx hb hts hinwsX80 tyX8 tyX8_ok nmX8 hown hK hP hD hS 0 rfl rfl 25 (by decide) (hts (.fieldLink RX8 184 "HeliokeepModel" "degrees" "I") (List.mem_of_getElem? (i := 4) rfl)) (fun _ h9 => h9) rfl (by decide +kernel) rfl rfl (Nat.le_of_ble_eq_true rfl) dX8_pipes_70 (fun H locs hP hD hS => ?_)
        have hP : va_P G vwCl (mW ad y vThrown vN vC vNow vHaze vCold vHot 1 22 (vThaw + 1) vTrc vTurb vLeft vLoad vWater vTrips vMissed vBRow vBSum vCell vDirt vAim vErr vCor vBrk vTop vLm vRows vCols vDown vRight vBound vStrain vPrice vFirm vSums vRays vFalls vSom vHad) H := hP
        have hD : va_D A (mW ad y vThrown vN vC vNow vHaze vCold vHot 1 22 (vThaw + 1) vTrc vTurb vLeft vLoad vWater vTrips vMissed vBRow vBSum vCell vDirt vAim vErr vCor vBrk vTop vLm vRows vCols vDown vRight vBound vStrain vPrice vFirm vSums vRays vFalls vSom vHad) := hD
        refine lv_goto (tgt := 156) hx hb dX8_pipes_73 (by decide) ?_
        exact W.vret hx hb hr (fun t ht hW => ⟨⟨(1, 22, (vThaw + 1)), rfl, ⟨(show (1 : Int) = npZ vPipe vDeg vThaw vTrc units from by unfold npZ dgZ dwZ; omega), (show (22 : Int) = ndZ vPipe vDeg vThaw vTrc units from by unfold ndZ dgZ dwZ; omega), (show (vThaw + 1) = ntZ vPipe vThaw vTrc from by unfold ntZ; omega), (show 0 ≤ (1 : Int) ∧ (1 : Int) ≤ 2 from by omega), (show 0 ≤ (22 : Int) ∧ (22 : Int) ≤ 40 ∧ ((1 : Int) = 1 → 20 ≤ (22 : Int)) from by omega), (show 0 ≤ (vThaw + 1) ∧ (vThaw + 1) ≤ 3 ∧ ((1 : Int) = 2 → (vThaw + 1) ≤ 2) from by omega)⟩, hz_at hP ht⟩, hS.F ht⟩) hS.2.2 dX8_pipes_156
abbrev Q_X8_turns (G : va_G) (y : Nat → ClassId) (ad : Nat → Nat) (vThrown vN vC vNow vHaze vCold vHot vPipe vDeg vThaw vTrc vTurb vLeft vLoad vWater vTrips vMissed vBRow vBSum : Int) (vCell vDirt vAim vErr vCor vBrk vTop vLm vRows vCols vDown vRight vBound vStrain vPrice vFirm vSums vRays vFalls vSom vHad : Int → Int)  (A : Nat → Prop) : Array Value → State → Outcome → State → Prop := va_Qi (fun (r : Int32) (u : Int × Int × Int × Int × Int × (Int → Int)) => r = zI (u.1) ∧ (u.1 = tuZ vTurb vLoad vHot * (10 - strZ vNow / 5)) ∧ (0 ≤ u.1 ∧ u.1 ≤ 200) ∧ (u.2.1 = vCold + tuZ vTurb vLoad vHot) ∧ (u.2.2.1 = vHot - tuZ vTurb vLoad vHot) ∧ (u.2.2.2.1 = nbZ vTurb vLeft) ∧ (u.2.2.2.2.1 = nlZ vTurb vLeft) ∧ (u.2.2.2.2.2 = adZ vSums 6 u.1) ∧ (0 ≤ u.2.1 ∧ 0 ≤ u.2.2.1 ∧ u.2.1 + u.2.2.1 ≤ 1000) ∧ (0 ≤ u.2.2.2.1 ∧ u.2.2.2.1 ≤ 2) ∧ (0 ≤ u.2.2.2.2.1 ∧ u.2.2.2.2.1 ≤ 2 ∧ (u.2.2.2.1 = 1 → 1 ≤ u.2.2.2.2.1))) (fun (u : Int × Int × Int × Int × Int × (Int → Int)) t => va_P G vwCl (mW ad y vThrown vN vC vNow vHaze u.2.1 u.2.2.1 vPipe vDeg vThaw vTrc u.2.2.2.1 u.2.2.2.2.1 vLoad vWater vTrips vMissed vBRow vBSum vCell vDirt vAim vErr vCor vBrk vTop vLm vRows vCols vDown vRight vBound vStrain vPrice vFirm u.2.2.2.2.2 vRays vFalls vSom vHad) t.heap) A
set_option maxHeartbeats 4000000 in
set_option maxRecDepth 100000 in
theorem c_X8_turns (l : Launch) (G : va_G) (y : Nat → ClassId) (ad : Nat → Nat) (sz : Nat) (vThrown vN vC vNow vHaze vCold vHot vPipe vDeg vThaw vTrc vTurb vLeft vLoad vWater vTrips vMissed vBRow vBSum : Int) (vCell vDirt vAim vErr vCor vBrk vTop vLm vRows vCols vDown vRight vBound vStrain vPrice vFirm vSums vRays vFalls vSom vHad : Int → Int)  (hNow : 0 ≤ vNow ∧ vNow ≤ 9999) (hSalt : 0 ≤ vCold ∧ 0 ≤ vHot ∧ vCold + vHot ≤ 1000) (hTurb : 0 ≤ vTurb ∧ vTurb ≤ 2) (hLeft : 0 ≤ vLeft ∧ vLeft ≤ 2 ∧ (vTurb = 1 → 1 ≤ vLeft)) (hLoad : 0 ≤ vLoad ∧ vLoad ≤ 20) : Met l yX8_turns wsX8_turns ({ frames := 1, cells := 0, slots := 0, locals := 20 }) (va_Pc [.ref (ad 0)] (HPre G (tyL y) (mW ad y vThrown vN vC vNow vHaze vCold vHot vPipe vDeg vThaw vTrc vTurb vLeft vLoad vWater vTrips vMissed vBRow vBSum vCell vDirt vAim vErr vCor vBrk vTop vLm vRows vCols vDown vRight vBound vStrain vPrice vFirm vSums vRays vFalls vSom vHad) sz)) (Q_X8_turns G y ad vThrown vN vC vNow vHaze vCold vHot vPipe vDeg vThaw vTrc vTurb vLeft vLoad vWater vTrips vMissed vBRow vBSum vCell vDirt vAim vErr vCor vBrk vTop vLm vRows vCols vDown vRight vBound vStrain vPrice vFirm vSums vRays vFalls vSom vHad (va_A (mW ad y vThrown vN vC vNow vHaze vCold vHot vPipe vDeg vThaw vTrc vTurb vLeft vLoad vWater vTrips vMissed vBRow vBSum vCell vDirt vAim vErr vCor vBrk vTop vLm vRows vCols vDown vRight vBound vStrain vPrice vFirm vSums vRays vFalls vSom vHad) sz)) 0 0 (va_A (mW ad y vThrown vN vC vNow vHaze vCold vHot vPipe vDeg vThaw vTrc vTurb vLeft vLoad vWater vTrips vMissed vBRow vBSum vCell vDirt vAim vErr vCor vBrk vTop vLm vRows vCols vDown vRight vBound vStrain vPrice vFirm vSums vRays vFalls vSom vHad) sz) := by
  refine hz_ofW (Qf := Q_X8_turns G y ad vThrown vN vC vNow vHaze vCold vHot vPipe vDeg vThaw vTrc vTurb vLeft vLoad vWater vTrips vMissed vBRow vBSum vCell vDirt vAim vErr vCor vBrk vTop vLm vRows vCols vDown vRight vBound vStrain vPrice vFirm vSums vRays vFalls vSom vHad) (cc := cX8_turns) (maxL := 3) (ret := (some .int)) (by decide) rfl (Nat.le_of_ble_eq_true rfl) ?_
  intro p e s m below meth c A ls hx hb hr hts hown hin hlocks hml hP hK hA hD hS hl
  have hown : s.vm.findClass RX8 = some m.cls := hown
  have hl : lv_has ls 3 [(0, .ref (ad 0))] := hl
  have hinwsX80 : ∀ w ∈ wsX80, w ∈ wsX8_turns := fun _ h => List.mem_cons_of_mem _ (List.mem_append_right _ (h))
  have qs := strZ_rng vNow
  have qm := mul_20 (u := tuZ vTurb vLoad vHot) (w := 10 - strZ vNow / 5) (by unfold tuZ; omega) (by omega)
  refine lv_aload_n hx hb dX8_turns_0 rfl (lv_at hl 0 rfl) ?_
  refine va_get (D := G) (ci := 9) (v := zi vTurb) (C := RX8) (T := TX8) (N := 40) hx hb hts hinwsX80 hown hK hP 0 rfl rfl 28 (by decide) (hts (.fieldLink RX8 194 "HeliokeepModel" "turbine" "I") (List.mem_of_getElem? (i := 1) rfl)) (fun _ h9 => h9) rfl dX8_turns_1 ?_
  refine hz_iconst hx hb dX8_turns_4 ?_
  refine hz_icmp_eq (tgt := 12) hx hb dX8_turns_5 (by decide) (by omega) (fun c1 => ?_) (fun c1 => ?_)
  · refine lv_aload_n hx hb dX8_turns_12 rfl (lv_at hl 0 rfl) ?_
    refine va_get (D := G) (ci := 9) (v := zi vLoad) (C := RX8) (T := TX8) (N := 40) hx hb hts hinwsX80 hown hK hP 0 rfl rfl 30 (by decide) (hts (.fieldLink RX8 191 "HeliokeepModel" "load" "I") (List.mem_of_getElem? (i := 2) rfl)) (fun _ h9 => h9) rfl dX8_turns_13 ?_
    refine lv_aload_n hx hb dX8_turns_16 rfl (lv_at hl 0 rfl) ?_
    refine va_get (D := G) (ci := 9) (v := zi vHot) (C := RX8) (T := TX8) (N := 40) hx hb hts hinwsX80 hown hK hP 0 rfl rfl 23 (by decide) (hts (.fieldLink RX8 178 "HeliokeepModel" "hot" "I") (List.mem_of_getElem? (i := 3) rfl)) (fun _ h9 => h9) rfl dX8_turns_17 ?_
    refine hz_icmp_ge (tgt := 30) hx hb dX8_turns_20 (by decide) (by omega) (fun c2 => ?_) (fun c2 => ?_)
    · refine lv_aload_n hx hb dX8_turns_30 rfl (lv_at hl 0 rfl) ?_
      refine va_get (D := G) (ci := 9) (v := zi vHot) (C := RX8) (T := TX8) (N := 40) hx hb hts hinwsX80 hown hK hP 0 rfl rfl 23 (by decide) (hts (.fieldLink RX8 178 "HeliokeepModel" "hot" "I") (List.mem_of_getElem? (i := 3) rfl)) (fun _ h9 => h9) rfl dX8_turns_31 ?_
      refine lv_istore_n (lv' := [(1, zi vHot), (0, .ref (ad 0))]) hx hb dX8_turns_34 rfl hl (by decide) rfl (fun ls hl => ?_)
      have eu : (vHot : Int) = tuZ vTurb vLoad vHot := by unfold tuZ; omega
      rw [← eu] at qm
      refine lv_aload_n hx hb dX8_turns_35 rfl (lv_at hl 1 rfl) ?_
      refine va_get (D := G) (ci := 9) (v := zi vTurb) (C := RX8) (T := TX8) (N := 40) hx hb hts hinwsX80 hown hK hP 0 rfl rfl 28 (by decide) (hts (.fieldLink RX8 194 "HeliokeepModel" "turbine" "I") (List.mem_of_getElem? (i := 1) rfl)) (fun _ h9 => h9) rfl dX8_turns_36 ?_
      refine hz_iconst hx hb dX8_turns_39 ?_
      refine hz_icmp_ne (tgt := 69) hx hb dX8_turns_40 (by decide) (by omega) (fun c3 => ?_) (fun c3 => ?_)
      · refine lv_aload_n hx hb dX8_turns_69 rfl (lv_at hl 1 rfl) ?_
        refine lv_dup hx hb dX8_turns_70 rfl ?_
        refine va_get (D := G) (ci := 9) (v := zi vHot) (C := RX8) (T := TX8) (N := 40) hx hb hts hinwsX80 hown hK hP 0 rfl rfl 23 (by decide) (hts (.fieldLink RX8 178 "HeliokeepModel" "hot" "I") (List.mem_of_getElem? (i := 3) rfl)) (fun _ h9 => h9) rfl dX8_turns_71 ?_
        refine lv_iload_n hx hb dX8_turns_74 rfl (lv_at hl 0 rfl) ?_
        refine hz_isub hx hb dX8_turns_75 ?_
        refine va_put (D := G) (ci := 9) (v := zi (vHot - vHot)) (ty := .int) (C := RX8) (T := TX8) (N := 40) hx hb hts hinwsX80 tyX8 tyX8_ok nmX8 hown hK hP hD hS 0 rfl rfl 23 (by decide) (hts (.fieldLink RX8 178 "HeliokeepModel" "hot" "I") (List.mem_of_getElem? (i := 3) rfl)) (fun _ h9 => h9) rfl (by decide +kernel) rfl rfl (Nat.le_of_ble_eq_true rfl) dX8_turns_76 (fun H locs hP hD hS => ?_)
        have hP : va_P G vwCl (mW ad y vThrown vN vC vNow vHaze vCold (vHot - vHot) vPipe vDeg vThaw vTrc vTurb vLeft vLoad vWater vTrips vMissed vBRow vBSum vCell vDirt vAim vErr vCor vBrk vTop vLm vRows vCols vDown vRight vBound vStrain vPrice vFirm vSums vRays vFalls vSom vHad) H := hP
        have hD : va_D A (mW ad y vThrown vN vC vNow vHaze vCold (vHot - vHot) vPipe vDeg vThaw vTrc vTurb vLeft vLoad vWater vTrips vMissed vBRow vBSum vCell vDirt vAim vErr vCor vBrk vTop vLm vRows vCols vDown vRight vBound vStrain vPrice vFirm vSums vRays vFalls vSom vHad) := hD
        refine lv_aload_n hx hb dX8_turns_79 rfl (lv_at hl 1 rfl) ?_
        refine lv_dup hx hb dX8_turns_80 rfl ?_
        refine va_get (D := G) (ci := 9) (v := zi vCold) (C := RX8) (T := TX8) (N := 40) hx hb hts hinwsX80 hown hK hP 0 rfl rfl 22 (by decide) (hts (.fieldLink RX8 63 "HeliokeepModel" "cold" "I") (List.mem_of_getElem? (i := 5) rfl)) (fun _ h9 => h9) rfl dX8_turns_81 ?_
        refine lv_iload_n hx hb dX8_turns_84 rfl (lv_at hl 0 rfl) ?_
        refine hz_iadd hx hb dX8_turns_85 ?_
        refine va_put (D := G) (ci := 9) (v := zi (vCold + vHot)) (ty := .int) (C := RX8) (T := TX8) (N := 40) hx hb hts hinwsX80 tyX8 tyX8_ok nmX8 hown hK hP hD hS 0 rfl rfl 22 (by decide) (hts (.fieldLink RX8 63 "HeliokeepModel" "cold" "I") (List.mem_of_getElem? (i := 5) rfl)) (fun _ h9 => h9) rfl (by decide +kernel) rfl rfl (Nat.le_of_ble_eq_true rfl) dX8_turns_86 (fun H locs hP hD hS => ?_)
        have hP : va_P G vwCl (mW ad y vThrown vN vC vNow vHaze (vCold + vHot) (vHot - vHot) vPipe vDeg vThaw vTrc vTurb vLeft vLoad vWater vTrips vMissed vBRow vBSum vCell vDirt vAim vErr vCor vBrk vTop vLm vRows vCols vDown vRight vBound vStrain vPrice vFirm vSums vRays vFalls vSom vHad) H := hP
        have hD : va_D A (mW ad y vThrown vN vC vNow vHaze (vCold + vHot) (vHot - vHot) vPipe vDeg vThaw vTrc vTurb vLeft vLoad vWater vTrips vMissed vBRow vBSum vCell vDirt vAim vErr vCor vBrk vTop vLm vRows vCols vDown vRight vBound vStrain vPrice vFirm vSums vRays vFalls vSom vHad) := hD
        refine lv_iload_n hx hb dX8_turns_89 rfl (lv_at hl 0 rfl) ?_
        refine hz_bipush hx hb dX8_turns_90 (by decide) ?_
        refine lv_aload_n hx hb dX8_turns_92 rfl (lv_at hl 1 rfl) ?_
        refine va_get (D := G) (ci := 9) (v := zi vNow) (C := RX8) (T := TX8) (N := 40) hx hb hts hinwsX80 hown hK hP 0 rfl rfl 20 (by decide) (hts (.fieldLink RX8 108 "HeliokeepModel" "now" "I") (List.mem_of_getElem? (i := 6) rfl)) (fun _ h9 => h9) rfl dX8_turns_93 ?_
        refine hz_callSi (As := [zi vNow]) (rest := [zi 10, zi vHot]) ⟨hx, hb, hml, hown, hts⟩ (c_X8_strength l vNow (by omega) (by omega)) (va_cwS 1 hts gX8_turns_X8_strength rfl rfl rfl (by decide +kernel) ⟨Nat.le_of_ble_eq_true rfl, Nat.le_of_ble_eq_true rfl⟩) rfl hl.1 rfl (Nat.le_of_ble_eq_true rfl) dX8_turns_96 ⟨Nat.zero_le _, Nat.zero_le _⟩ ?_
        refine hz_iconst hx hb dX8_turns_99 ?_
        refine hz_idiv hx hb dX8_turns_100 (by omega) ?_
        refine hz_isub hx hb dX8_turns_101 ?_
        refine hz_imul hx hb dX8_turns_102 ?_
        refine lv_istore_n (lv' := [(2, zi (vHot * (10 - ((strZ vNow) / 5)))), (1, zi vHot), (0, .ref (ad 0))]) hx hb dX8_turns_103 rfl hl (by decide) rfl (fun ls hl => ?_)
        refine lv_aload_n hx hb dX8_turns_104 rfl (lv_at hl 2 rfl) ?_
        refine va_get (D := G) (ci := 9) (v := .ref (ad 17)) (C := RX8) (T := TX8) (N := 40) hx hb hts hinwsX80 hown hK hP 0 rfl rfl 19 (by decide) (hts (.fieldLink RX8 59 "HeliokeepModel" "sums" "[J") (List.mem_of_getElem? (i := 7) rfl)) (fun _ h9 => h9) rfl dX8_turns_105 ?_
        refine hz_bipush hx hb dX8_turns_108 (by decide) ?_
        refine lv_dup2_11 hx hb dX8_turns_110 rfl rfl ?_
        refine hz_lald (f := vSums) hx hb hK hP 17 1 rfl rfl (Nat.le_of_ble_eq_true rfl) (by omega) dX8_turns_111 ?_
        refine lv_iload_n hx hb dX8_turns_112 rfl (lv_at hl 0 rfl) ?_
        refine hz_i2l hx hb dX8_turns_113 (by omega) ?_
        refine hz_ladd hx hb dX8_turns_114 ?_
        refine hz_last (f := vSums) hx hb hK hP hD hS 17 1 rfl rfl (Nat.le_of_ble_eq_true rfl) (by omega) dX8_turns_115 (fun H locs hP hD hS => ?_)
        have hP : va_P G vwCl (mW ad y vThrown vN vC vNow vHaze (vCold + vHot) (vHot - vHot) vPipe vDeg vThaw vTrc vTurb vLeft vLoad vWater vTrips vMissed vBRow vBSum vCell vDirt vAim vErr vCor vBrk vTop vLm vRows vCols vDown vRight vBound vStrain vPrice vFirm (upZ vSums 6 ((vSums 6) + (vHot * (10 - ((strZ vNow) / 5))))) vRays vFalls vSom vHad) H := hP
        have hD : va_D A (mW ad y vThrown vN vC vNow vHaze (vCold + vHot) (vHot - vHot) vPipe vDeg vThaw vTrc vTurb vLeft vLoad vWater vTrips vMissed vBRow vBSum vCell vDirt vAim vErr vCor vBrk vTop vLm vRows vCols vDown vRight vBound vStrain vPrice vFirm (upZ vSums 6 ((vSums 6) + (vHot * (10 - ((strZ vNow) / 5))))) vRays vFalls vSom vHad) := hD
        refine lv_iload_n hx hb dX8_turns_116 rfl (lv_at hl 0 rfl) ?_
        exact W.iret (v := zI (vHot * (10 - ((strZ vNow) / 5)))) hx hb hr (fun t ht hW => ⟨⟨zI (vHot * (10 - ((strZ vNow) / 5))), ((vHot * (10 - ((strZ vNow) / 5))), (vCold + vHot), (vHot - vHot), vTurb, vLeft, (upZ vSums 6 ((vSums 6) + (vHot * (10 - ((strZ vNow) / 5)))))), rfl, ⟨rfl, ⟨(show (vHot * (10 - ((strZ vNow) / 5))) = tuZ vTurb vLoad vHot * (10 - strZ vNow / 5) from by rw [← eu]), (show 0 ≤ (vHot * (10 - ((strZ vNow) / 5))) ∧ (vHot * (10 - ((strZ vNow) / 5))) ≤ 200 from qm), (show (vCold + vHot) = vCold + tuZ vTurb vLoad vHot from by omega), (show (vHot - vHot) = vHot - tuZ vTurb vLoad vHot from by omega), (show vTurb = nbZ vTurb vLeft from by unfold nbZ; omega), (show vLeft = nlZ vTurb vLeft from by unfold nlZ; omega), (show (upZ vSums 6 ((vSums 6) + (vHot * (10 - ((strZ vNow) / 5))))) = adZ vSums 6 (vHot * (10 - ((strZ vNow) / 5))) from rfl), (show 0 ≤ (vCold + vHot) ∧ 0 ≤ (vHot - vHot) ∧ (vCold + vHot) + (vHot - vHot) ≤ 1000 from by omega), (show 0 ≤ vTurb ∧ vTurb ≤ 2 from by omega), (show 0 ≤ vLeft ∧ vLeft ≤ 2 ∧ (vTurb = 1 → 1 ≤ vLeft) from by omega)⟩⟩, hz_at hP ht⟩, hS.F ht⟩) hS.2.2 dX8_turns_117
      · refine lv_aload_n hx hb dX8_turns_43 rfl (lv_at hl 1 rfl) ?_
        refine lv_dup hx hb dX8_turns_44 rfl ?_
        refine va_get (D := G) (ci := 9) (v := zi vLeft) (C := RX8) (T := TX8) (N := 40) hx hb hts hinwsX80 hown hK hP 0 rfl rfl 29 (by decide) (hts (.fieldLink RX8 197 "HeliokeepModel" "left" "I") (List.mem_of_getElem? (i := 4) rfl)) (fun _ h9 => h9) rfl dX8_turns_45 ?_
        refine hz_iconst hx hb dX8_turns_48 ?_
        refine hz_isub hx hb dX8_turns_49 ?_
        refine va_put (D := G) (ci := 9) (v := zi (vLeft - 1)) (ty := .int) (C := RX8) (T := TX8) (N := 40) hx hb hts hinwsX80 tyX8 tyX8_ok nmX8 hown hK hP hD hS 0 rfl rfl 29 (by decide) (hts (.fieldLink RX8 197 "HeliokeepModel" "left" "I") (List.mem_of_getElem? (i := 4) rfl)) (fun _ h9 => h9) rfl (by decide +kernel) rfl rfl (Nat.le_of_ble_eq_true rfl) dX8_turns_50 (fun H locs hP hD hS => ?_)
        have hP : va_P G vwCl (mW ad y vThrown vN vC vNow vHaze vCold vHot vPipe vDeg vThaw vTrc vTurb (vLeft - 1) vLoad vWater vTrips vMissed vBRow vBSum vCell vDirt vAim vErr vCor vBrk vTop vLm vRows vCols vDown vRight vBound vStrain vPrice vFirm vSums vRays vFalls vSom vHad) H := hP
        have hD : va_D A (mW ad y vThrown vN vC vNow vHaze vCold vHot vPipe vDeg vThaw vTrc vTurb (vLeft - 1) vLoad vWater vTrips vMissed vBRow vBSum vCell vDirt vAim vErr vCor vBrk vTop vLm vRows vCols vDown vRight vBound vStrain vPrice vFirm vSums vRays vFalls vSom vHad) := hD
        refine lv_aload_n hx hb dX8_turns_53 rfl (lv_at hl 1 rfl) ?_
        refine lv_aload_n hx hb dX8_turns_54 rfl (lv_at hl 1 rfl) ?_
        refine va_get (D := G) (ci := 9) (v := zi (vLeft - 1)) (C := RX8) (T := TX8) (N := 40) hx hb hts hinwsX80 hown hK hP 0 rfl rfl 29 (by decide) (hts (.fieldLink RX8 197 "HeliokeepModel" "left" "I") (List.mem_of_getElem? (i := 4) rfl)) (fun _ h9 => h9) rfl dX8_turns_55 ?_
        refine hz_if_ne (tgt := 65) hx hb dX8_turns_58 (by decide) (by omega) (fun c4 => ?_) (fun c4 => ?_)
        · refine hz_iconst hx hb dX8_turns_65 ?_
          refine va_put (D := G) (ci := 9) (v := zi 1) (ty := .int) (C := RX8) (T := TX8) (N := 40) hx hb hts hinwsX80 tyX8 tyX8_ok nmX8 hown hK hP hD hS 0 rfl rfl 28 (by decide) (hts (.fieldLink RX8 194 "HeliokeepModel" "turbine" "I") (List.mem_of_getElem? (i := 1) rfl)) (fun _ h9 => h9) rfl (by decide +kernel) rfl rfl (Nat.le_of_ble_eq_true rfl) dX8_turns_66 (fun H locs hP hD hS => ?_)
          have hP : va_P G vwCl (mW ad y vThrown vN vC vNow vHaze vCold vHot vPipe vDeg vThaw vTrc 1 (vLeft - 1) vLoad vWater vTrips vMissed vBRow vBSum vCell vDirt vAim vErr vCor vBrk vTop vLm vRows vCols vDown vRight vBound vStrain vPrice vFirm vSums vRays vFalls vSom vHad) H := hP
          have hD : va_D A (mW ad y vThrown vN vC vNow vHaze vCold vHot vPipe vDeg vThaw vTrc 1 (vLeft - 1) vLoad vWater vTrips vMissed vBRow vBSum vCell vDirt vAim vErr vCor vBrk vTop vLm vRows vCols vDown vRight vBound vStrain vPrice vFirm vSums vRays vFalls vSom vHad) := hD
          refine lv_aload_n hx hb dX8_turns_69 rfl (lv_at hl 1 rfl) ?_
          refine lv_dup hx hb dX8_turns_70 rfl ?_
          refine va_get (D := G) (ci := 9) (v := zi vHot) (C := RX8) (T := TX8) (N := 40) hx hb hts hinwsX80 hown hK hP 0 rfl rfl 23 (by decide) (hts (.fieldLink RX8 178 "HeliokeepModel" "hot" "I") (List.mem_of_getElem? (i := 3) rfl)) (fun _ h9 => h9) rfl dX8_turns_71 ?_
          refine lv_iload_n hx hb dX8_turns_74 rfl (lv_at hl 0 rfl) ?_
          refine hz_isub hx hb dX8_turns_75 ?_
          refine va_put (D := G) (ci := 9) (v := zi (vHot - vHot)) (ty := .int) (C := RX8) (T := TX8) (N := 40) hx hb hts hinwsX80 tyX8 tyX8_ok nmX8 hown hK hP hD hS 0 rfl rfl 23 (by decide) (hts (.fieldLink RX8 178 "HeliokeepModel" "hot" "I") (List.mem_of_getElem? (i := 3) rfl)) (fun _ h9 => h9) rfl (by decide +kernel) rfl rfl (Nat.le_of_ble_eq_true rfl) dX8_turns_76 (fun H locs hP hD hS => ?_)
          have hP : va_P G vwCl (mW ad y vThrown vN vC vNow vHaze vCold (vHot - vHot) vPipe vDeg vThaw vTrc 1 (vLeft - 1) vLoad vWater vTrips vMissed vBRow vBSum vCell vDirt vAim vErr vCor vBrk vTop vLm vRows vCols vDown vRight vBound vStrain vPrice vFirm vSums vRays vFalls vSom vHad) H := hP
          have hD : va_D A (mW ad y vThrown vN vC vNow vHaze vCold (vHot - vHot) vPipe vDeg vThaw vTrc 1 (vLeft - 1) vLoad vWater vTrips vMissed vBRow vBSum vCell vDirt vAim vErr vCor vBrk vTop vLm vRows vCols vDown vRight vBound vStrain vPrice vFirm vSums vRays vFalls vSom vHad) := hD
          refine lv_aload_n hx hb dX8_turns_79 rfl (lv_at hl 1 rfl) ?_
          refine lv_dup hx hb dX8_turns_80 rfl ?_
          refine va_get (D := G) (ci := 9) (v := zi vCold) (C := RX8) (T := TX8) (N := 40) hx hb hts hinwsX80 hown hK hP 0 rfl rfl 22 (by decide) (hts (.fieldLink RX8 63 "HeliokeepModel" "cold" "I") (List.mem_of_getElem? (i := 5) rfl)) (fun _ h9 => h9) rfl dX8_turns_81 ?_
          refine lv_iload_n hx hb dX8_turns_84 rfl (lv_at hl 0 rfl) ?_
          refine hz_iadd hx hb dX8_turns_85 ?_
          refine va_put (D := G) (ci := 9) (v := zi (vCold + vHot)) (ty := .int) (C := RX8) (T := TX8) (N := 40) hx hb hts hinwsX80 tyX8 tyX8_ok nmX8 hown hK hP hD hS 0 rfl rfl 22 (by decide) (hts (.fieldLink RX8 63 "HeliokeepModel" "cold" "I") (List.mem_of_getElem? (i := 5) rfl)) (fun _ h9 => h9) rfl (by decide +kernel) rfl rfl (Nat.le_of_ble_eq_true rfl) dX8_turns_86 (fun H locs hP hD hS => ?_)
          have hP : va_P G vwCl (mW ad y vThrown vN vC vNow vHaze (vCold + vHot) (vHot - vHot) vPipe vDeg vThaw vTrc 1 (vLeft - 1) vLoad vWater vTrips vMissed vBRow vBSum vCell vDirt vAim vErr vCor vBrk vTop vLm vRows vCols vDown vRight vBound vStrain vPrice vFirm vSums vRays vFalls vSom vHad) H := hP
          have hD : va_D A (mW ad y vThrown vN vC vNow vHaze (vCold + vHot) (vHot - vHot) vPipe vDeg vThaw vTrc 1 (vLeft - 1) vLoad vWater vTrips vMissed vBRow vBSum vCell vDirt vAim vErr vCor vBrk vTop vLm vRows vCols vDown vRight vBound vStrain vPrice vFirm vSums vRays vFalls vSom vHad) := hD
          refine lv_iload_n hx hb dX8_turns_89 rfl (lv_at hl 0 rfl) ?_
          refine hz_bipush hx hb dX8_turns_90 (by decide) ?_
          refine lv_aload_n hx hb dX8_turns_92 rfl (lv_at hl 1 rfl) ?_
          refine va_get (D := G) (ci := 9) (v := zi vNow) (C := RX8) (T := TX8) (N := 40) hx hb hts hinwsX80 hown hK hP 0 rfl rfl 20 (by decide) (hts (.fieldLink RX8 108 "HeliokeepModel" "now" "I") (List.mem_of_getElem? (i := 6) rfl)) (fun _ h9 => h9) rfl dX8_turns_93 ?_
          refine hz_callSi (As := [zi vNow]) (rest := [zi 10, zi vHot]) ⟨hx, hb, hml, hown, hts⟩ (c_X8_strength l vNow (by omega) (by omega)) (va_cwS 1 hts gX8_turns_X8_strength rfl rfl rfl (by decide +kernel) ⟨Nat.le_of_ble_eq_true rfl, Nat.le_of_ble_eq_true rfl⟩) rfl hl.1 rfl (Nat.le_of_ble_eq_true rfl) dX8_turns_96 ⟨Nat.zero_le _, Nat.zero_le _⟩ ?_
          refine hz_iconst hx hb dX8_turns_99 ?_
          refine hz_idiv hx hb dX8_turns_100 (by omega) ?_
          refine hz_isub hx hb dX8_turns_101 ?_
          refine hz_imul hx hb dX8_turns_102 ?_
          refine lv_istore_n (lv' := [(2, zi (vHot * (10 - ((strZ vNow) / 5)))), (1, zi vHot), (0, .ref (ad 0))]) hx hb dX8_turns_103 rfl hl (by decide) rfl (fun ls hl => ?_)
          refine lv_aload_n hx hb dX8_turns_104 rfl (lv_at hl 2 rfl) ?_
          refine va_get (D := G) (ci := 9) (v := .ref (ad 17)) (C := RX8) (T := TX8) (N := 40) hx hb hts hinwsX80 hown hK hP 0 rfl rfl 19 (by decide) (hts (.fieldLink RX8 59 "HeliokeepModel" "sums" "[J") (List.mem_of_getElem? (i := 7) rfl)) (fun _ h9 => h9) rfl dX8_turns_105 ?_
          refine hz_bipush hx hb dX8_turns_108 (by decide) ?_
          refine lv_dup2_11 hx hb dX8_turns_110 rfl rfl ?_
          refine hz_lald (f := vSums) hx hb hK hP 17 1 rfl rfl (Nat.le_of_ble_eq_true rfl) (by omega) dX8_turns_111 ?_
          refine lv_iload_n hx hb dX8_turns_112 rfl (lv_at hl 0 rfl) ?_
          refine hz_i2l hx hb dX8_turns_113 (by omega) ?_
          refine hz_ladd hx hb dX8_turns_114 ?_
          refine hz_last (f := vSums) hx hb hK hP hD hS 17 1 rfl rfl (Nat.le_of_ble_eq_true rfl) (by omega) dX8_turns_115 (fun H locs hP hD hS => ?_)
          have hP : va_P G vwCl (mW ad y vThrown vN vC vNow vHaze (vCold + vHot) (vHot - vHot) vPipe vDeg vThaw vTrc 1 (vLeft - 1) vLoad vWater vTrips vMissed vBRow vBSum vCell vDirt vAim vErr vCor vBrk vTop vLm vRows vCols vDown vRight vBound vStrain vPrice vFirm (upZ vSums 6 ((vSums 6) + (vHot * (10 - ((strZ vNow) / 5))))) vRays vFalls vSom vHad) H := hP
          have hD : va_D A (mW ad y vThrown vN vC vNow vHaze (vCold + vHot) (vHot - vHot) vPipe vDeg vThaw vTrc 1 (vLeft - 1) vLoad vWater vTrips vMissed vBRow vBSum vCell vDirt vAim vErr vCor vBrk vTop vLm vRows vCols vDown vRight vBound vStrain vPrice vFirm (upZ vSums 6 ((vSums 6) + (vHot * (10 - ((strZ vNow) / 5))))) vRays vFalls vSom vHad) := hD
          refine lv_iload_n hx hb dX8_turns_116 rfl (lv_at hl 0 rfl) ?_
          exact W.iret (v := zI (vHot * (10 - ((strZ vNow) / 5)))) hx hb hr (fun t ht hW => ⟨⟨zI (vHot * (10 - ((strZ vNow) / 5))), ((vHot * (10 - ((strZ vNow) / 5))), (vCold + vHot), (vHot - vHot), 1, (vLeft - 1), (upZ vSums 6 ((vSums 6) + (vHot * (10 - ((strZ vNow) / 5)))))), rfl, ⟨rfl, ⟨(show (vHot * (10 - ((strZ vNow) / 5))) = tuZ vTurb vLoad vHot * (10 - strZ vNow / 5) from by rw [← eu]), (show 0 ≤ (vHot * (10 - ((strZ vNow) / 5))) ∧ (vHot * (10 - ((strZ vNow) / 5))) ≤ 200 from qm), (show (vCold + vHot) = vCold + tuZ vTurb vLoad vHot from by omega), (show (vHot - vHot) = vHot - tuZ vTurb vLoad vHot from by omega), (show (1 : Int) = nbZ vTurb vLeft from by unfold nbZ; omega), (show (vLeft - 1) = nlZ vTurb vLeft from by unfold nlZ; omega), (show (upZ vSums 6 ((vSums 6) + (vHot * (10 - ((strZ vNow) / 5))))) = adZ vSums 6 (vHot * (10 - ((strZ vNow) / 5))) from rfl), (show 0 ≤ (vCold + vHot) ∧ 0 ≤ (vHot - vHot) ∧ (vCold + vHot) + (vHot - vHot) ≤ 1000 from by omega), (show 0 ≤ (1 : Int) ∧ (1 : Int) ≤ 2 from by omega), (show 0 ≤ (vLeft - 1) ∧ (vLeft - 1) ≤ 2 ∧ ((1 : Int) = 1 → 1 ≤ (vLeft - 1)) from by omega)⟩⟩, hz_at hP ht⟩, hS.F ht⟩) hS.2.2 dX8_turns_117
        · refine hz_iconst hx hb dX8_turns_61 ?_
          refine lv_goto (tgt := 66) hx hb dX8_turns_62 (by decide) ?_
          refine va_put (D := G) (ci := 9) (v := zi 2) (ty := .int) (C := RX8) (T := TX8) (N := 40) hx hb hts hinwsX80 tyX8 tyX8_ok nmX8 hown hK hP hD hS 0 rfl rfl 28 (by decide) (hts (.fieldLink RX8 194 "HeliokeepModel" "turbine" "I") (List.mem_of_getElem? (i := 1) rfl)) (fun _ h9 => h9) rfl (by decide +kernel) rfl rfl (Nat.le_of_ble_eq_true rfl) dX8_turns_66 (fun H locs hP hD hS => ?_)
          have hP : va_P G vwCl (mW ad y vThrown vN vC vNow vHaze vCold vHot vPipe vDeg vThaw vTrc 2 (vLeft - 1) vLoad vWater vTrips vMissed vBRow vBSum vCell vDirt vAim vErr vCor vBrk vTop vLm vRows vCols vDown vRight vBound vStrain vPrice vFirm vSums vRays vFalls vSom vHad) H := hP
          have hD : va_D A (mW ad y vThrown vN vC vNow vHaze vCold vHot vPipe vDeg vThaw vTrc 2 (vLeft - 1) vLoad vWater vTrips vMissed vBRow vBSum vCell vDirt vAim vErr vCor vBrk vTop vLm vRows vCols vDown vRight vBound vStrain vPrice vFirm vSums vRays vFalls vSom vHad) := hD
          refine lv_aload_n hx hb dX8_turns_69 rfl (lv_at hl 1 rfl) ?_
          refine lv_dup hx hb dX8_turns_70 rfl ?_
          refine va_get (D := G) (ci := 9) (v := zi vHot) (C := RX8) (T := TX8) (N := 40) hx hb hts hinwsX80 hown hK hP 0 rfl rfl 23 (by decide) (hts (.fieldLink RX8 178 "HeliokeepModel" "hot" "I") (List.mem_of_getElem? (i := 3) rfl)) (fun _ h9 => h9) rfl dX8_turns_71 ?_
          refine lv_iload_n hx hb dX8_turns_74 rfl (lv_at hl 0 rfl) ?_
          refine hz_isub hx hb dX8_turns_75 ?_
          refine va_put (D := G) (ci := 9) (v := zi (vHot - vHot)) (ty := .int) (C := RX8) (T := TX8) (N := 40) hx hb hts hinwsX80 tyX8 tyX8_ok nmX8 hown hK hP hD hS 0 rfl rfl 23 (by decide) (hts (.fieldLink RX8 178 "HeliokeepModel" "hot" "I") (List.mem_of_getElem? (i := 3) rfl)) (fun _ h9 => h9) rfl (by decide +kernel) rfl rfl (Nat.le_of_ble_eq_true rfl) dX8_turns_76 (fun H locs hP hD hS => ?_)
          have hP : va_P G vwCl (mW ad y vThrown vN vC vNow vHaze vCold (vHot - vHot) vPipe vDeg vThaw vTrc 2 (vLeft - 1) vLoad vWater vTrips vMissed vBRow vBSum vCell vDirt vAim vErr vCor vBrk vTop vLm vRows vCols vDown vRight vBound vStrain vPrice vFirm vSums vRays vFalls vSom vHad) H := hP
          have hD : va_D A (mW ad y vThrown vN vC vNow vHaze vCold (vHot - vHot) vPipe vDeg vThaw vTrc 2 (vLeft - 1) vLoad vWater vTrips vMissed vBRow vBSum vCell vDirt vAim vErr vCor vBrk vTop vLm vRows vCols vDown vRight vBound vStrain vPrice vFirm vSums vRays vFalls vSom vHad) := hD
          refine lv_aload_n hx hb dX8_turns_79 rfl (lv_at hl 1 rfl) ?_
          refine lv_dup hx hb dX8_turns_80 rfl ?_
          refine va_get (D := G) (ci := 9) (v := zi vCold) (C := RX8) (T := TX8) (N := 40) hx hb hts hinwsX80 hown hK hP 0 rfl rfl 22 (by decide) (hts (.fieldLink RX8 63 "HeliokeepModel" "cold" "I") (List.mem_of_getElem? (i := 5) rfl)) (fun _ h9 => h9) rfl dX8_turns_81 ?_
          refine lv_iload_n hx hb dX8_turns_84 rfl (lv_at hl 0 rfl) ?_
          refine hz_iadd hx hb dX8_turns_85 ?_
          refine va_put (D := G) (ci := 9) (v := zi (vCold + vHot)) (ty := .int) (C := RX8) (T := TX8) (N := 40) hx hb hts hinwsX80 tyX8 tyX8_ok nmX8 hown hK hP hD hS 0 rfl rfl 22 (by decide) (hts (.fieldLink RX8 63 "HeliokeepModel" "cold" "I") (List.mem_of_getElem? (i := 5) rfl)) (fun _ h9 => h9) rfl (by decide +kernel) rfl rfl (Nat.le_of_ble_eq_true rfl) dX8_turns_86 (fun H locs hP hD hS => ?_)
          have hP : va_P G vwCl (mW ad y vThrown vN vC vNow vHaze (vCold + vHot) (vHot - vHot) vPipe vDeg vThaw vTrc 2 (vLeft - 1) vLoad vWater vTrips vMissed vBRow vBSum vCell vDirt vAim vErr vCor vBrk vTop vLm vRows vCols vDown vRight vBound vStrain vPrice vFirm vSums vRays vFalls vSom vHad) H := hP
          have hD : va_D A (mW ad y vThrown vN vC vNow vHaze (vCold + vHot) (vHot - vHot) vPipe vDeg vThaw vTrc 2 (vLeft - 1) vLoad vWater vTrips vMissed vBRow vBSum vCell vDirt vAim vErr vCor vBrk vTop vLm vRows vCols vDown vRight vBound vStrain vPrice vFirm vSums vRays vFalls vSom vHad) := hD
          refine lv_iload_n hx hb dX8_turns_89 rfl (lv_at hl 0 rfl) ?_
          refine hz_bipush hx hb dX8_turns_90 (by decide) ?_
          refine lv_aload_n hx hb dX8_turns_92 rfl (lv_at hl 1 rfl) ?_
          refine va_get (D := G) (ci := 9) (v := zi vNow) (C := RX8) (T := TX8) (N := 40) hx hb hts hinwsX80 hown hK hP 0 rfl rfl 20 (by decide) (hts (.fieldLink RX8 108 "HeliokeepModel" "now" "I") (List.mem_of_getElem? (i := 6) rfl)) (fun _ h9 => h9) rfl dX8_turns_93 ?_
          refine hz_callSi (As := [zi vNow]) (rest := [zi 10, zi vHot]) ⟨hx, hb, hml, hown, hts⟩ (c_X8_strength l vNow (by omega) (by omega)) (va_cwS 1 hts gX8_turns_X8_strength rfl rfl rfl (by decide +kernel) ⟨Nat.le_of_ble_eq_true rfl, Nat.le_of_ble_eq_true rfl⟩) rfl hl.1 rfl (Nat.le_of_ble_eq_true rfl) dX8_turns_96 ⟨Nat.zero_le _, Nat.zero_le _⟩ ?_
          refine hz_iconst hx hb dX8_turns_99 ?_
          refine hz_idiv hx hb dX8_turns_100 (by omega) ?_
          refine hz_isub hx hb dX8_turns_101 ?_
          refine hz_imul hx hb dX8_turns_102 ?_
          refine lv_istore_n (lv' := [(2, zi (vHot * (10 - ((strZ vNow) / 5)))), (1, zi vHot), (0, .ref (ad 0))]) hx hb dX8_turns_103 rfl hl (by decide) rfl (fun ls hl => ?_)
          refine lv_aload_n hx hb dX8_turns_104 rfl (lv_at hl 2 rfl) ?_
          refine va_get (D := G) (ci := 9) (v := .ref (ad 17)) (C := RX8) (T := TX8) (N := 40) hx hb hts hinwsX80 hown hK hP 0 rfl rfl 19 (by decide) (hts (.fieldLink RX8 59 "HeliokeepModel" "sums" "[J") (List.mem_of_getElem? (i := 7) rfl)) (fun _ h9 => h9) rfl dX8_turns_105 ?_
          refine hz_bipush hx hb dX8_turns_108 (by decide) ?_
          refine lv_dup2_11 hx hb dX8_turns_110 rfl rfl ?_
          refine hz_lald (f := vSums) hx hb hK hP 17 1 rfl rfl (Nat.le_of_ble_eq_true rfl) (by omega) dX8_turns_111 ?_
          refine lv_iload_n hx hb dX8_turns_112 rfl (lv_at hl 0 rfl) ?_
          refine hz_i2l hx hb dX8_turns_113 (by omega) ?_
          refine hz_ladd hx hb dX8_turns_114 ?_
          refine hz_last (f := vSums) hx hb hK hP hD hS 17 1 rfl rfl (Nat.le_of_ble_eq_true rfl) (by omega) dX8_turns_115 (fun H locs hP hD hS => ?_)
          have hP : va_P G vwCl (mW ad y vThrown vN vC vNow vHaze (vCold + vHot) (vHot - vHot) vPipe vDeg vThaw vTrc 2 (vLeft - 1) vLoad vWater vTrips vMissed vBRow vBSum vCell vDirt vAim vErr vCor vBrk vTop vLm vRows vCols vDown vRight vBound vStrain vPrice vFirm (upZ vSums 6 ((vSums 6) + (vHot * (10 - ((strZ vNow) / 5))))) vRays vFalls vSom vHad) H := hP
          have hD : va_D A (mW ad y vThrown vN vC vNow vHaze (vCold + vHot) (vHot - vHot) vPipe vDeg vThaw vTrc 2 (vLeft - 1) vLoad vWater vTrips vMissed vBRow vBSum vCell vDirt vAim vErr vCor vBrk vTop vLm vRows vCols vDown vRight vBound vStrain vPrice vFirm (upZ vSums 6 ((vSums 6) + (vHot * (10 - ((strZ vNow) / 5))))) vRays vFalls vSom vHad) := hD
          refine lv_iload_n hx hb dX8_turns_116 rfl (lv_at hl 0 rfl) ?_
          exact W.iret (v := zI (vHot * (10 - ((strZ vNow) / 5)))) hx hb hr (fun t ht hW => ⟨⟨zI (vHot * (10 - ((strZ vNow) / 5))), ((vHot * (10 - ((strZ vNow) / 5))), (vCold + vHot), (vHot - vHot), 2, (vLeft - 1), (upZ vSums 6 ((vSums 6) + (vHot * (10 - ((strZ vNow) / 5)))))), rfl, ⟨rfl, ⟨(show (vHot * (10 - ((strZ vNow) / 5))) = tuZ vTurb vLoad vHot * (10 - strZ vNow / 5) from by rw [← eu]), (show 0 ≤ (vHot * (10 - ((strZ vNow) / 5))) ∧ (vHot * (10 - ((strZ vNow) / 5))) ≤ 200 from qm), (show (vCold + vHot) = vCold + tuZ vTurb vLoad vHot from by omega), (show (vHot - vHot) = vHot - tuZ vTurb vLoad vHot from by omega), (show (2 : Int) = nbZ vTurb vLeft from by unfold nbZ; omega), (show (vLeft - 1) = nlZ vTurb vLeft from by unfold nlZ; omega), (show (upZ vSums 6 ((vSums 6) + (vHot * (10 - ((strZ vNow) / 5))))) = adZ vSums 6 (vHot * (10 - ((strZ vNow) / 5))) from rfl), (show 0 ≤ (vCold + vHot) ∧ 0 ≤ (vHot - vHot) ∧ (vCold + vHot) + (vHot - vHot) ≤ 1000 from by omega), (show 0 ≤ (2 : Int) ∧ (2 : Int) ≤ 2 from by omega), (show 0 ≤ (vLeft - 1) ∧ (vLeft - 1) ≤ 2 ∧ ((2 : Int) = 1 → 1 ≤ (vLeft - 1)) from by omega)⟩⟩, hz_at hP ht⟩, hS.F ht⟩) hS.2.2 dX8_turns_117
    · refine lv_aload_n hx hb dX8_turns_23 rfl (lv_at hl 0 rfl) ?_
      refine va_get (D := G) (ci := 9) (v := zi vLoad) (C := RX8) (T := TX8) (N := 40) hx hb hts hinwsX80 hown hK hP 0 rfl rfl 30 (by decide) (hts (.fieldLink RX8 191 "HeliokeepModel" "load" "I") (List.mem_of_getElem? (i := 2) rfl)) (fun _ h9 => h9) rfl dX8_turns_24 ?_
      refine lv_goto (tgt := 34) hx hb dX8_turns_27 (by decide) ?_
      refine lv_istore_n (lv' := [(1, zi vLoad), (0, .ref (ad 0))]) hx hb dX8_turns_34 rfl hl (by decide) rfl (fun ls hl => ?_)
      have eu : (vLoad : Int) = tuZ vTurb vLoad vHot := by unfold tuZ; omega
      rw [← eu] at qm
      refine lv_aload_n hx hb dX8_turns_35 rfl (lv_at hl 1 rfl) ?_
      refine va_get (D := G) (ci := 9) (v := zi vTurb) (C := RX8) (T := TX8) (N := 40) hx hb hts hinwsX80 hown hK hP 0 rfl rfl 28 (by decide) (hts (.fieldLink RX8 194 "HeliokeepModel" "turbine" "I") (List.mem_of_getElem? (i := 1) rfl)) (fun _ h9 => h9) rfl dX8_turns_36 ?_
      refine hz_iconst hx hb dX8_turns_39 ?_
      refine hz_icmp_ne (tgt := 69) hx hb dX8_turns_40 (by decide) (by omega) (fun c5 => ?_) (fun c5 => ?_)
      · refine lv_aload_n hx hb dX8_turns_69 rfl (lv_at hl 1 rfl) ?_
        refine lv_dup hx hb dX8_turns_70 rfl ?_
        refine va_get (D := G) (ci := 9) (v := zi vHot) (C := RX8) (T := TX8) (N := 40) hx hb hts hinwsX80 hown hK hP 0 rfl rfl 23 (by decide) (hts (.fieldLink RX8 178 "HeliokeepModel" "hot" "I") (List.mem_of_getElem? (i := 3) rfl)) (fun _ h9 => h9) rfl dX8_turns_71 ?_
        refine lv_iload_n hx hb dX8_turns_74 rfl (lv_at hl 0 rfl) ?_
        refine hz_isub hx hb dX8_turns_75 ?_
        refine va_put (D := G) (ci := 9) (v := zi (vHot - vLoad)) (ty := .int) (C := RX8) (T := TX8) (N := 40) hx hb hts hinwsX80 tyX8 tyX8_ok nmX8 hown hK hP hD hS 0 rfl rfl 23 (by decide) (hts (.fieldLink RX8 178 "HeliokeepModel" "hot" "I") (List.mem_of_getElem? (i := 3) rfl)) (fun _ h9 => h9) rfl (by decide +kernel) rfl rfl (Nat.le_of_ble_eq_true rfl) dX8_turns_76 (fun H locs hP hD hS => ?_)
        have hP : va_P G vwCl (mW ad y vThrown vN vC vNow vHaze vCold (vHot - vLoad) vPipe vDeg vThaw vTrc vTurb vLeft vLoad vWater vTrips vMissed vBRow vBSum vCell vDirt vAim vErr vCor vBrk vTop vLm vRows vCols vDown vRight vBound vStrain vPrice vFirm vSums vRays vFalls vSom vHad) H := hP
        have hD : va_D A (mW ad y vThrown vN vC vNow vHaze vCold (vHot - vLoad) vPipe vDeg vThaw vTrc vTurb vLeft vLoad vWater vTrips vMissed vBRow vBSum vCell vDirt vAim vErr vCor vBrk vTop vLm vRows vCols vDown vRight vBound vStrain vPrice vFirm vSums vRays vFalls vSom vHad) := hD
        refine lv_aload_n hx hb dX8_turns_79 rfl (lv_at hl 1 rfl) ?_
        refine lv_dup hx hb dX8_turns_80 rfl ?_
        refine va_get (D := G) (ci := 9) (v := zi vCold) (C := RX8) (T := TX8) (N := 40) hx hb hts hinwsX80 hown hK hP 0 rfl rfl 22 (by decide) (hts (.fieldLink RX8 63 "HeliokeepModel" "cold" "I") (List.mem_of_getElem? (i := 5) rfl)) (fun _ h9 => h9) rfl dX8_turns_81 ?_
        refine lv_iload_n hx hb dX8_turns_84 rfl (lv_at hl 0 rfl) ?_
        refine hz_iadd hx hb dX8_turns_85 ?_
        refine va_put (D := G) (ci := 9) (v := zi (vCold + vLoad)) (ty := .int) (C := RX8) (T := TX8) (N := 40) hx hb hts hinwsX80 tyX8 tyX8_ok nmX8 hown hK hP hD hS 0 rfl rfl 22 (by decide) (hts (.fieldLink RX8 63 "HeliokeepModel" "cold" "I") (List.mem_of_getElem? (i := 5) rfl)) (fun _ h9 => h9) rfl (by decide +kernel) rfl rfl (Nat.le_of_ble_eq_true rfl) dX8_turns_86 (fun H locs hP hD hS => ?_)
        have hP : va_P G vwCl (mW ad y vThrown vN vC vNow vHaze (vCold + vLoad) (vHot - vLoad) vPipe vDeg vThaw vTrc vTurb vLeft vLoad vWater vTrips vMissed vBRow vBSum vCell vDirt vAim vErr vCor vBrk vTop vLm vRows vCols vDown vRight vBound vStrain vPrice vFirm vSums vRays vFalls vSom vHad) H := hP
        have hD : va_D A (mW ad y vThrown vN vC vNow vHaze (vCold + vLoad) (vHot - vLoad) vPipe vDeg vThaw vTrc vTurb vLeft vLoad vWater vTrips vMissed vBRow vBSum vCell vDirt vAim vErr vCor vBrk vTop vLm vRows vCols vDown vRight vBound vStrain vPrice vFirm vSums vRays vFalls vSom vHad) := hD
        refine lv_iload_n hx hb dX8_turns_89 rfl (lv_at hl 0 rfl) ?_
        refine hz_bipush hx hb dX8_turns_90 (by decide) ?_
        refine lv_aload_n hx hb dX8_turns_92 rfl (lv_at hl 1 rfl) ?_
        refine va_get (D := G) (ci := 9) (v := zi vNow) (C := RX8) (T := TX8) (N := 40) hx hb hts hinwsX80 hown hK hP 0 rfl rfl 20 (by decide) (hts (.fieldLink RX8 108 "HeliokeepModel" "now" "I") (List.mem_of_getElem? (i := 6) rfl)) (fun _ h9 => h9) rfl dX8_turns_93 ?_
        refine hz_callSi (As := [zi vNow]) (rest := [zi 10, zi vLoad]) ⟨hx, hb, hml, hown, hts⟩ (c_X8_strength l vNow (by omega) (by omega)) (va_cwS 1 hts gX8_turns_X8_strength rfl rfl rfl (by decide +kernel) ⟨Nat.le_of_ble_eq_true rfl, Nat.le_of_ble_eq_true rfl⟩) rfl hl.1 rfl (Nat.le_of_ble_eq_true rfl) dX8_turns_96 ⟨Nat.zero_le _, Nat.zero_le _⟩ ?_
        refine hz_iconst hx hb dX8_turns_99 ?_
        refine hz_idiv hx hb dX8_turns_100 (by omega) ?_
        refine hz_isub hx hb dX8_turns_101 ?_
        refine hz_imul hx hb dX8_turns_102 ?_
        refine lv_istore_n (lv' := [(2, zi (vLoad * (10 - ((strZ vNow) / 5)))), (1, zi vLoad), (0, .ref (ad 0))]) hx hb dX8_turns_103 rfl hl (by decide) rfl (fun ls hl => ?_)
        refine lv_aload_n hx hb dX8_turns_104 rfl (lv_at hl 2 rfl) ?_
        refine va_get (D := G) (ci := 9) (v := .ref (ad 17)) (C := RX8) (T := TX8) (N := 40) hx hb hts hinwsX80 hown hK hP 0 rfl rfl 19 (by decide) (hts (.fieldLink RX8 59 "HeliokeepModel" "sums" "[J") (List.mem_of_getElem? (i := 7) rfl)) (fun _ h9 => h9) rfl dX8_turns_105 ?_
        refine hz_bipush hx hb dX8_turns_108 (by decide) ?_
        refine lv_dup2_11 hx hb dX8_turns_110 rfl rfl ?_
        refine hz_lald (f := vSums) hx hb hK hP 17 1 rfl rfl (Nat.le_of_ble_eq_true rfl) (by omega) dX8_turns_111 ?_
        refine lv_iload_n hx hb dX8_turns_112 rfl (lv_at hl 0 rfl) ?_
        refine hz_i2l hx hb dX8_turns_113 (by omega) ?_
        refine hz_ladd hx hb dX8_turns_114 ?_
        refine hz_last (f := vSums) hx hb hK hP hD hS 17 1 rfl rfl (Nat.le_of_ble_eq_true rfl) (by omega) dX8_turns_115 (fun H locs hP hD hS => ?_)
        have hP : va_P G vwCl (mW ad y vThrown vN vC vNow vHaze (vCold + vLoad) (vHot - vLoad) vPipe vDeg vThaw vTrc vTurb vLeft vLoad vWater vTrips vMissed vBRow vBSum vCell vDirt vAim vErr vCor vBrk vTop vLm vRows vCols vDown vRight vBound vStrain vPrice vFirm (upZ vSums 6 ((vSums 6) + (vLoad * (10 - ((strZ vNow) / 5))))) vRays vFalls vSom vHad) H := hP
        have hD : va_D A (mW ad y vThrown vN vC vNow vHaze (vCold + vLoad) (vHot - vLoad) vPipe vDeg vThaw vTrc vTurb vLeft vLoad vWater vTrips vMissed vBRow vBSum vCell vDirt vAim vErr vCor vBrk vTop vLm vRows vCols vDown vRight vBound vStrain vPrice vFirm (upZ vSums 6 ((vSums 6) + (vLoad * (10 - ((strZ vNow) / 5))))) vRays vFalls vSom vHad) := hD
        refine lv_iload_n hx hb dX8_turns_116 rfl (lv_at hl 0 rfl) ?_
        exact W.iret (v := zI (vLoad * (10 - ((strZ vNow) / 5)))) hx hb hr (fun t ht hW => ⟨⟨zI (vLoad * (10 - ((strZ vNow) / 5))), ((vLoad * (10 - ((strZ vNow) / 5))), (vCold + vLoad), (vHot - vLoad), vTurb, vLeft, (upZ vSums 6 ((vSums 6) + (vLoad * (10 - ((strZ vNow) / 5)))))), rfl, ⟨rfl, ⟨(show (vLoad * (10 - ((strZ vNow) / 5))) = tuZ vTurb vLoad vHot * (10 - strZ vNow / 5) from by rw [← eu]), (show 0 ≤ (vLoad * (10 - ((strZ vNow) / 5))) ∧ (vLoad * (10 - ((strZ vNow) / 5))) ≤ 200 from qm), (show (vCold + vLoad) = vCold + tuZ vTurb vLoad vHot from by omega), (show (vHot - vLoad) = vHot - tuZ vTurb vLoad vHot from by omega), (show vTurb = nbZ vTurb vLeft from by unfold nbZ; omega), (show vLeft = nlZ vTurb vLeft from by unfold nlZ; omega), (show (upZ vSums 6 ((vSums 6) + (vLoad * (10 - ((strZ vNow) / 5))))) = adZ vSums 6 (vLoad * (10 - ((strZ vNow) / 5))) from rfl), (show 0 ≤ (vCold + vLoad) ∧ 0 ≤ (vHot - vLoad) ∧ (vCold + vLoad) + (vHot - vLoad) ≤ 1000 from by omega), (show 0 ≤ vTurb ∧ vTurb ≤ 2 from by omega), (show 0 ≤ vLeft ∧ vLeft ≤ 2 ∧ (vTurb = 1 → 1 ≤ vLeft) from by omega)⟩⟩, hz_at hP ht⟩, hS.F ht⟩) hS.2.2 dX8_turns_117
      · refine lv_aload_n hx hb dX8_turns_43 rfl (lv_at hl 1 rfl) ?_
        refine lv_dup hx hb dX8_turns_44 rfl ?_
        refine va_get (D := G) (ci := 9) (v := zi vLeft) (C := RX8) (T := TX8) (N := 40) hx hb hts hinwsX80 hown hK hP 0 rfl rfl 29 (by decide) (hts (.fieldLink RX8 197 "HeliokeepModel" "left" "I") (List.mem_of_getElem? (i := 4) rfl)) (fun _ h9 => h9) rfl dX8_turns_45 ?_
        refine hz_iconst hx hb dX8_turns_48 ?_
        refine hz_isub hx hb dX8_turns_49 ?_
        refine va_put (D := G) (ci := 9) (v := zi (vLeft - 1)) (ty := .int) (C := RX8) (T := TX8) (N := 40) hx hb hts hinwsX80 tyX8 tyX8_ok nmX8 hown hK hP hD hS 0 rfl rfl 29 (by decide) (hts (.fieldLink RX8 197 "HeliokeepModel" "left" "I") (List.mem_of_getElem? (i := 4) rfl)) (fun _ h9 => h9) rfl (by decide +kernel) rfl rfl (Nat.le_of_ble_eq_true rfl) dX8_turns_50 (fun H locs hP hD hS => ?_)
        have hP : va_P G vwCl (mW ad y vThrown vN vC vNow vHaze vCold vHot vPipe vDeg vThaw vTrc vTurb (vLeft - 1) vLoad vWater vTrips vMissed vBRow vBSum vCell vDirt vAim vErr vCor vBrk vTop vLm vRows vCols vDown vRight vBound vStrain vPrice vFirm vSums vRays vFalls vSom vHad) H := hP
        have hD : va_D A (mW ad y vThrown vN vC vNow vHaze vCold vHot vPipe vDeg vThaw vTrc vTurb (vLeft - 1) vLoad vWater vTrips vMissed vBRow vBSum vCell vDirt vAim vErr vCor vBrk vTop vLm vRows vCols vDown vRight vBound vStrain vPrice vFirm vSums vRays vFalls vSom vHad) := hD
        refine lv_aload_n hx hb dX8_turns_53 rfl (lv_at hl 1 rfl) ?_
        refine lv_aload_n hx hb dX8_turns_54 rfl (lv_at hl 1 rfl) ?_
        refine va_get (D := G) (ci := 9) (v := zi (vLeft - 1)) (C := RX8) (T := TX8) (N := 40) hx hb hts hinwsX80 hown hK hP 0 rfl rfl 29 (by decide) (hts (.fieldLink RX8 197 "HeliokeepModel" "left" "I") (List.mem_of_getElem? (i := 4) rfl)) (fun _ h9 => h9) rfl dX8_turns_55 ?_
        refine hz_if_ne (tgt := 65) hx hb dX8_turns_58 (by decide) (by omega) (fun c6 => ?_) (fun c6 => ?_)
        · refine hz_iconst hx hb dX8_turns_65 ?_
          refine va_put (D := G) (ci := 9) (v := zi 1) (ty := .int) (C := RX8) (T := TX8) (N := 40) hx hb hts hinwsX80 tyX8 tyX8_ok nmX8 hown hK hP hD hS 0 rfl rfl 28 (by decide) (hts (.fieldLink RX8 194 "HeliokeepModel" "turbine" "I") (List.mem_of_getElem? (i := 1) rfl)) (fun _ h9 => h9) rfl (by decide +kernel) rfl rfl (Nat.le_of_ble_eq_true rfl) dX8_turns_66 (fun H locs hP hD hS => ?_)
          have hP : va_P G vwCl (mW ad y vThrown vN vC vNow vHaze vCold vHot vPipe vDeg vThaw vTrc 1 (vLeft - 1) vLoad vWater vTrips vMissed vBRow vBSum vCell vDirt vAim vErr vCor vBrk vTop vLm vRows vCols vDown vRight vBound vStrain vPrice vFirm vSums vRays vFalls vSom vHad) H := hP
          have hD : va_D A (mW ad y vThrown vN vC vNow vHaze vCold vHot vPipe vDeg vThaw vTrc 1 (vLeft - 1) vLoad vWater vTrips vMissed vBRow vBSum vCell vDirt vAim vErr vCor vBrk vTop vLm vRows vCols vDown vRight vBound vStrain vPrice vFirm vSums vRays vFalls vSom vHad) := hD
          refine lv_aload_n hx hb dX8_turns_69 rfl (lv_at hl 1 rfl) ?_
          refine lv_dup hx hb dX8_turns_70 rfl ?_
          refine va_get (D := G) (ci := 9) (v := zi vHot) (C := RX8) (T := TX8) (N := 40) hx hb hts hinwsX80 hown hK hP 0 rfl rfl 23 (by decide) (hts (.fieldLink RX8 178 "HeliokeepModel" "hot" "I") (List.mem_of_getElem? (i := 3) rfl)) (fun _ h9 => h9) rfl dX8_turns_71 ?_
          refine lv_iload_n hx hb dX8_turns_74 rfl (lv_at hl 0 rfl) ?_
          refine hz_isub hx hb dX8_turns_75 ?_
          refine va_put (D := G) (ci := 9) (v := zi (vHot - vLoad)) (ty := .int) (C := RX8) (T := TX8) (N := 40) hx hb hts hinwsX80 tyX8 tyX8_ok nmX8 hown hK hP hD hS 0 rfl rfl 23 (by decide) (hts (.fieldLink RX8 178 "HeliokeepModel" "hot" "I") (List.mem_of_getElem? (i := 3) rfl)) (fun _ h9 => h9) rfl (by decide +kernel) rfl rfl (Nat.le_of_ble_eq_true rfl) dX8_turns_76 (fun H locs hP hD hS => ?_)
          have hP : va_P G vwCl (mW ad y vThrown vN vC vNow vHaze vCold (vHot - vLoad) vPipe vDeg vThaw vTrc 1 (vLeft - 1) vLoad vWater vTrips vMissed vBRow vBSum vCell vDirt vAim vErr vCor vBrk vTop vLm vRows vCols vDown vRight vBound vStrain vPrice vFirm vSums vRays vFalls vSom vHad) H := hP
          have hD : va_D A (mW ad y vThrown vN vC vNow vHaze vCold (vHot - vLoad) vPipe vDeg vThaw vTrc 1 (vLeft - 1) vLoad vWater vTrips vMissed vBRow vBSum vCell vDirt vAim vErr vCor vBrk vTop vLm vRows vCols vDown vRight vBound vStrain vPrice vFirm vSums vRays vFalls vSom vHad) := hD
          refine lv_aload_n hx hb dX8_turns_79 rfl (lv_at hl 1 rfl) ?_
          refine lv_dup hx hb dX8_turns_80 rfl ?_
          refine va_get (D := G) (ci := 9) (v := zi vCold) (C := RX8) (T := TX8) (N := 40) hx hb hts hinwsX80 hown hK hP 0 rfl rfl 22 (by decide) (hts (.fieldLink RX8 63 "HeliokeepModel" "cold" "I") (List.mem_of_getElem? (i := 5) rfl)) (fun _ h9 => h9) rfl dX8_turns_81 ?_
          refine lv_iload_n hx hb dX8_turns_84 rfl (lv_at hl 0 rfl) ?_
          refine hz_iadd hx hb dX8_turns_85 ?_
          refine va_put (D := G) (ci := 9) (v := zi (vCold + vLoad)) (ty := .int) (C := RX8) (T := TX8) (N := 40) hx hb hts hinwsX80 tyX8 tyX8_ok nmX8 hown hK hP hD hS 0 rfl rfl 22 (by decide) (hts (.fieldLink RX8 63 "HeliokeepModel" "cold" "I") (List.mem_of_getElem? (i := 5) rfl)) (fun _ h9 => h9) rfl (by decide +kernel) rfl rfl (Nat.le_of_ble_eq_true rfl) dX8_turns_86 (fun H locs hP hD hS => ?_)
          have hP : va_P G vwCl (mW ad y vThrown vN vC vNow vHaze (vCold + vLoad) (vHot - vLoad) vPipe vDeg vThaw vTrc 1 (vLeft - 1) vLoad vWater vTrips vMissed vBRow vBSum vCell vDirt vAim vErr vCor vBrk vTop vLm vRows vCols vDown vRight vBound vStrain vPrice vFirm vSums vRays vFalls vSom vHad) H := hP
          have hD : va_D A (mW ad y vThrown vN vC vNow vHaze (vCold + vLoad) (vHot - vLoad) vPipe vDeg vThaw vTrc 1 (vLeft - 1) vLoad vWater vTrips vMissed vBRow vBSum vCell vDirt vAim vErr vCor vBrk vTop vLm vRows vCols vDown vRight vBound vStrain vPrice vFirm vSums vRays vFalls vSom vHad) := hD
          refine lv_iload_n hx hb dX8_turns_89 rfl (lv_at hl 0 rfl) ?_
          refine hz_bipush hx hb dX8_turns_90 (by decide) ?_
          refine lv_aload_n hx hb dX8_turns_92 rfl (lv_at hl 1 rfl) ?_
          refine va_get (D := G) (ci := 9) (v := zi vNow) (C := RX8) (T := TX8) (N := 40) hx hb hts hinwsX80 hown hK hP 0 rfl rfl 20 (by decide) (hts (.fieldLink RX8 108 "HeliokeepModel" "now" "I") (List.mem_of_getElem? (i := 6) rfl)) (fun _ h9 => h9) rfl dX8_turns_93 ?_
          refine hz_callSi (As := [zi vNow]) (rest := [zi 10, zi vLoad]) ⟨hx, hb, hml, hown, hts⟩ (c_X8_strength l vNow (by omega) (by omega)) (va_cwS 1 hts gX8_turns_X8_strength rfl rfl rfl (by decide +kernel) ⟨Nat.le_of_ble_eq_true rfl, Nat.le_of_ble_eq_true rfl⟩) rfl hl.1 rfl (Nat.le_of_ble_eq_true rfl) dX8_turns_96 ⟨Nat.zero_le _, Nat.zero_le _⟩ ?_
          refine hz_iconst hx hb dX8_turns_99 ?_
          refine hz_idiv hx hb dX8_turns_100 (by omega) ?_
          refine hz_isub hx hb dX8_turns_101 ?_
          refine hz_imul hx hb dX8_turns_102 ?_
          refine lv_istore_n (lv' := [(2, zi (vLoad * (10 - ((strZ vNow) / 5)))), (1, zi vLoad), (0, .ref (ad 0))]) hx hb dX8_turns_103 rfl hl (by decide) rfl (fun ls hl => ?_)
          refine lv_aload_n hx hb dX8_turns_104 rfl (lv_at hl 2 rfl) ?_
          refine va_get (D := G) (ci := 9) (v := .ref (ad 17)) (C := RX8) (T := TX8) (N := 40) hx hb hts hinwsX80 hown hK hP 0 rfl rfl 19 (by decide) (hts (.fieldLink RX8 59 "HeliokeepModel" "sums" "[J") (List.mem_of_getElem? (i := 7) rfl)) (fun _ h9 => h9) rfl dX8_turns_105 ?_
          refine hz_bipush hx hb dX8_turns_108 (by decide) ?_
          refine lv_dup2_11 hx hb dX8_turns_110 rfl rfl ?_
          refine hz_lald (f := vSums) hx hb hK hP 17 1 rfl rfl (Nat.le_of_ble_eq_true rfl) (by omega) dX8_turns_111 ?_
          refine lv_iload_n hx hb dX8_turns_112 rfl (lv_at hl 0 rfl) ?_
          refine hz_i2l hx hb dX8_turns_113 (by omega) ?_
          refine hz_ladd hx hb dX8_turns_114 ?_
          refine hz_last (f := vSums) hx hb hK hP hD hS 17 1 rfl rfl (Nat.le_of_ble_eq_true rfl) (by omega) dX8_turns_115 (fun H locs hP hD hS => ?_)
          have hP : va_P G vwCl (mW ad y vThrown vN vC vNow vHaze (vCold + vLoad) (vHot - vLoad) vPipe vDeg vThaw vTrc 1 (vLeft - 1) vLoad vWater vTrips vMissed vBRow vBSum vCell vDirt vAim vErr vCor vBrk vTop vLm vRows vCols vDown vRight vBound vStrain vPrice vFirm (upZ vSums 6 ((vSums 6) + (vLoad * (10 - ((strZ vNow) / 5))))) vRays vFalls vSom vHad) H := hP
          have hD : va_D A (mW ad y vThrown vN vC vNow vHaze (vCold + vLoad) (vHot - vLoad) vPipe vDeg vThaw vTrc 1 (vLeft - 1) vLoad vWater vTrips vMissed vBRow vBSum vCell vDirt vAim vErr vCor vBrk vTop vLm vRows vCols vDown vRight vBound vStrain vPrice vFirm (upZ vSums 6 ((vSums 6) + (vLoad * (10 - ((strZ vNow) / 5))))) vRays vFalls vSom vHad) := hD
          refine lv_iload_n hx hb dX8_turns_116 rfl (lv_at hl 0 rfl) ?_
          exact W.iret (v := zI (vLoad * (10 - ((strZ vNow) / 5)))) hx hb hr (fun t ht hW => ⟨⟨zI (vLoad * (10 - ((strZ vNow) / 5))), ((vLoad * (10 - ((strZ vNow) / 5))), (vCold + vLoad), (vHot - vLoad), 1, (vLeft - 1), (upZ vSums 6 ((vSums 6) + (vLoad * (10 - ((strZ vNow) / 5)))))), rfl, ⟨rfl, ⟨(show (vLoad * (10 - ((strZ vNow) / 5))) = tuZ vTurb vLoad vHot * (10 - strZ vNow / 5) from by rw [← eu]), (show 0 ≤ (vLoad * (10 - ((strZ vNow) / 5))) ∧ (vLoad * (10 - ((strZ vNow) / 5))) ≤ 200 from qm), (show (vCold + vLoad) = vCold + tuZ vTurb vLoad vHot from by omega), (show (vHot - vLoad) = vHot - tuZ vTurb vLoad vHot from by omega), (show (1 : Int) = nbZ vTurb vLeft from by unfold nbZ; omega), (show (vLeft - 1) = nlZ vTurb vLeft from by unfold nlZ; omega), (show (upZ vSums 6 ((vSums 6) + (vLoad * (10 - ((strZ vNow) / 5))))) = adZ vSums 6 (vLoad * (10 - ((strZ vNow) / 5))) from rfl), (show 0 ≤ (vCold + vLoad) ∧ 0 ≤ (vHot - vLoad) ∧ (vCold + vLoad) + (vHot - vLoad) ≤ 1000 from by omega), (show 0 ≤ (1 : Int) ∧ (1 : Int) ≤ 2 from by omega), (show 0 ≤ (vLeft - 1) ∧ (vLeft - 1) ≤ 2 ∧ ((1 : Int) = 1 → 1 ≤ (vLeft - 1)) from by omega)⟩⟩, hz_at hP ht⟩, hS.F ht⟩) hS.2.2 dX8_turns_117
        · refine hz_iconst hx hb dX8_turns_61 ?_
          refine lv_goto (tgt := 66) hx hb dX8_turns_62 (by decide) ?_
          refine va_put (D := G) (ci := 9) (v := zi 2) (ty := .int) (C := RX8) (T := TX8) (N := 40) hx hb hts hinwsX80 tyX8 tyX8_ok nmX8 hown hK hP hD hS 0 rfl rfl 28 (by decide) (hts (.fieldLink RX8 194 "HeliokeepModel" "turbine" "I") (List.mem_of_getElem? (i := 1) rfl)) (fun _ h9 => h9) rfl (by decide +kernel) rfl rfl (Nat.le_of_ble_eq_true rfl) dX8_turns_66 (fun H locs hP hD hS => ?_)
          have hP : va_P G vwCl (mW ad y vThrown vN vC vNow vHaze vCold vHot vPipe vDeg vThaw vTrc 2 (vLeft - 1) vLoad vWater vTrips vMissed vBRow vBSum vCell vDirt vAim vErr vCor vBrk vTop vLm vRows vCols vDown vRight vBound vStrain vPrice vFirm vSums vRays vFalls vSom vHad) H := hP
          have hD : va_D A (mW ad y vThrown vN vC vNow vHaze vCold vHot vPipe vDeg vThaw vTrc 2 (vLeft - 1) vLoad vWater vTrips vMissed vBRow vBSum vCell vDirt vAim vErr vCor vBrk vTop vLm vRows vCols vDown vRight vBound vStrain vPrice vFirm vSums vRays vFalls vSom vHad) := hD
          refine lv_aload_n hx hb dX8_turns_69 rfl (lv_at hl 1 rfl) ?_
          refine lv_dup hx hb dX8_turns_70 rfl ?_
          refine va_get (D := G) (ci := 9) (v := zi vHot) (C := RX8) (T := TX8) (N := 40) hx hb hts hinwsX80 hown hK hP 0 rfl rfl 23 (by decide) (hts (.fieldLink RX8 178 "HeliokeepModel" "hot" "I") (List.mem_of_getElem? (i := 3) rfl)) (fun _ h9 => h9) rfl dX8_turns_71 ?_
          refine lv_iload_n hx hb dX8_turns_74 rfl (lv_at hl 0 rfl) ?_
          refine hz_isub hx hb dX8_turns_75 ?_
          refine va_put (D := G) (ci := 9) (v := zi (vHot - vLoad)) (ty := .int) (C := RX8) (T := TX8) (N := 40) hx hb hts hinwsX80 tyX8 tyX8_ok nmX8 hown hK hP hD hS 0 rfl rfl 23 (by decide) (hts (.fieldLink RX8 178 "HeliokeepModel" "hot" "I") (List.mem_of_getElem? (i := 3) rfl)) (fun _ h9 => h9) rfl (by decide +kernel) rfl rfl (Nat.le_of_ble_eq_true rfl) dX8_turns_76 (fun H locs hP hD hS => ?_)
          have hP : va_P G vwCl (mW ad y vThrown vN vC vNow vHaze vCold (vHot - vLoad) vPipe vDeg vThaw vTrc 2 (vLeft - 1) vLoad vWater vTrips vMissed vBRow vBSum vCell vDirt vAim vErr vCor vBrk vTop vLm vRows vCols vDown vRight vBound vStrain vPrice vFirm vSums vRays vFalls vSom vHad) H := hP
          have hD : va_D A (mW ad y vThrown vN vC vNow vHaze vCold (vHot - vLoad) vPipe vDeg vThaw vTrc 2 (vLeft - 1) vLoad vWater vTrips vMissed vBRow vBSum vCell vDirt vAim vErr vCor vBrk vTop vLm vRows vCols vDown vRight vBound vStrain vPrice vFirm vSums vRays vFalls vSom vHad) := hD
          refine lv_aload_n hx hb dX8_turns_79 rfl (lv_at hl 1 rfl) ?_
          refine lv_dup hx hb dX8_turns_80 rfl ?_
          refine va_get (D := G) (ci := 9) (v := zi vCold) (C := RX8) (T := TX8) (N := 40) hx hb hts hinwsX80 hown hK hP 0 rfl rfl 22 (by decide) (hts (.fieldLink RX8 63 "HeliokeepModel" "cold" "I") (List.mem_of_getElem? (i := 5) rfl)) (fun _ h9 => h9) rfl dX8_turns_81 ?_
          refine lv_iload_n hx hb dX8_turns_84 rfl (lv_at hl 0 rfl) ?_
          refine hz_iadd hx hb dX8_turns_85 ?_
          refine va_put (D := G) (ci := 9) (v := zi (vCold + vLoad)) (ty := .int) (C := RX8) (T := TX8) (N := 40) hx hb hts hinwsX80 tyX8 tyX8_ok nmX8 hown hK hP hD hS 0 rfl rfl 22 (by decide) (hts (.fieldLink RX8 63 "HeliokeepModel" "cold" "I") (List.mem_of_getElem? (i := 5) rfl)) (fun _ h9 => h9) rfl (by decide +kernel) rfl rfl (Nat.le_of_ble_eq_true rfl) dX8_turns_86 (fun H locs hP hD hS => ?_)
          have hP : va_P G vwCl (mW ad y vThrown vN vC vNow vHaze (vCold + vLoad) (vHot - vLoad) vPipe vDeg vThaw vTrc 2 (vLeft - 1) vLoad vWater vTrips vMissed vBRow vBSum vCell vDirt vAim vErr vCor vBrk vTop vLm vRows vCols vDown vRight vBound vStrain vPrice vFirm vSums vRays vFalls vSom vHad) H := hP
          have hD : va_D A (mW ad y vThrown vN vC vNow vHaze (vCold + vLoad) (vHot - vLoad) vPipe vDeg vThaw vTrc 2 (vLeft - 1) vLoad vWater vTrips vMissed vBRow vBSum vCell vDirt vAim vErr vCor vBrk vTop vLm vRows vCols vDown vRight vBound vStrain vPrice vFirm vSums vRays vFalls vSom vHad) := hD
          refine lv_iload_n hx hb dX8_turns_89 rfl (lv_at hl 0 rfl) ?_
          refine hz_bipush hx hb dX8_turns_90 (by decide) ?_
          refine lv_aload_n hx hb dX8_turns_92 rfl (lv_at hl 1 rfl) ?_
          refine va_get (D := G) (ci := 9) (v := zi vNow) (C := RX8) (T := TX8) (N := 40) hx hb hts hinwsX80 hown hK hP 0 rfl rfl 20 (by decide) (hts (.fieldLink RX8 108 "HeliokeepModel" "now" "I") (List.mem_of_getElem? (i := 6) rfl)) (fun _ h9 => h9) rfl dX8_turns_93 ?_
          refine hz_callSi (As := [zi vNow]) (rest := [zi 10, zi vLoad]) ⟨hx, hb, hml, hown, hts⟩ (c_X8_strength l vNow (by omega) (by omega)) (va_cwS 1 hts gX8_turns_X8_strength rfl rfl rfl (by decide +kernel) ⟨Nat.le_of_ble_eq_true rfl, Nat.le_of_ble_eq_true rfl⟩) rfl hl.1 rfl (Nat.le_of_ble_eq_true rfl) dX8_turns_96 ⟨Nat.zero_le _, Nat.zero_le _⟩ ?_
          refine hz_iconst hx hb dX8_turns_99 ?_
          refine hz_idiv hx hb dX8_turns_100 (by omega) ?_
          refine hz_isub hx hb dX8_turns_101 ?_
          refine hz_imul hx hb dX8_turns_102 ?_
          refine lv_istore_n (lv' := [(2, zi (vLoad * (10 - ((strZ vNow) / 5)))), (1, zi vLoad), (0, .ref (ad 0))]) hx hb dX8_turns_103 rfl hl (by decide) rfl (fun ls hl => ?_)
          refine lv_aload_n hx hb dX8_turns_104 rfl (lv_at hl 2 rfl) ?_
          refine va_get (D := G) (ci := 9) (v := .ref (ad 17)) (C := RX8) (T := TX8) (N := 40) hx hb hts hinwsX80 hown hK hP 0 rfl rfl 19 (by decide) (hts (.fieldLink RX8 59 "HeliokeepModel" "sums" "[J") (List.mem_of_getElem? (i := 7) rfl)) (fun _ h9 => h9) rfl dX8_turns_105 ?_
          refine hz_bipush hx hb dX8_turns_108 (by decide) ?_
          refine lv_dup2_11 hx hb dX8_turns_110 rfl rfl ?_
          refine hz_lald (f := vSums) hx hb hK hP 17 1 rfl rfl (Nat.le_of_ble_eq_true rfl) (by omega) dX8_turns_111 ?_
          refine lv_iload_n hx hb dX8_turns_112 rfl (lv_at hl 0 rfl) ?_
          refine hz_i2l hx hb dX8_turns_113 (by omega) ?_
          refine hz_ladd hx hb dX8_turns_114 ?_
          refine hz_last (f := vSums) hx hb hK hP hD hS 17 1 rfl rfl (Nat.le_of_ble_eq_true rfl) (by omega) dX8_turns_115 (fun H locs hP hD hS => ?_)
          have hP : va_P G vwCl (mW ad y vThrown vN vC vNow vHaze (vCold + vLoad) (vHot - vLoad) vPipe vDeg vThaw vTrc 2 (vLeft - 1) vLoad vWater vTrips vMissed vBRow vBSum vCell vDirt vAim vErr vCor vBrk vTop vLm vRows vCols vDown vRight vBound vStrain vPrice vFirm (upZ vSums 6 ((vSums 6) + (vLoad * (10 - ((strZ vNow) / 5))))) vRays vFalls vSom vHad) H := hP
          have hD : va_D A (mW ad y vThrown vN vC vNow vHaze (vCold + vLoad) (vHot - vLoad) vPipe vDeg vThaw vTrc 2 (vLeft - 1) vLoad vWater vTrips vMissed vBRow vBSum vCell vDirt vAim vErr vCor vBrk vTop vLm vRows vCols vDown vRight vBound vStrain vPrice vFirm (upZ vSums 6 ((vSums 6) + (vLoad * (10 - ((strZ vNow) / 5))))) vRays vFalls vSom vHad) := hD
          refine lv_iload_n hx hb dX8_turns_116 rfl (lv_at hl 0 rfl) ?_
          exact W.iret (v := zI (vLoad * (10 - ((strZ vNow) / 5)))) hx hb hr (fun t ht hW => ⟨⟨zI (vLoad * (10 - ((strZ vNow) / 5))), ((vLoad * (10 - ((strZ vNow) / 5))), (vCold + vLoad), (vHot - vLoad), 2, (vLeft - 1), (upZ vSums 6 ((vSums 6) + (vLoad * (10 - ((strZ vNow) / 5)))))), rfl, ⟨rfl, ⟨(show (vLoad * (10 - ((strZ vNow) / 5))) = tuZ vTurb vLoad vHot * (10 - strZ vNow / 5) from by rw [← eu]), (show 0 ≤ (vLoad * (10 - ((strZ vNow) / 5))) ∧ (vLoad * (10 - ((strZ vNow) / 5))) ≤ 200 from qm), (show (vCold + vLoad) = vCold + tuZ vTurb vLoad vHot from by omega), (show (vHot - vLoad) = vHot - tuZ vTurb vLoad vHot from by omega), (show (2 : Int) = nbZ vTurb vLeft from by unfold nbZ; omega), (show (vLeft - 1) = nlZ vTurb vLeft from by unfold nlZ; omega), (show (upZ vSums 6 ((vSums 6) + (vLoad * (10 - ((strZ vNow) / 5))))) = adZ vSums 6 (vLoad * (10 - ((strZ vNow) / 5))) from rfl), (show 0 ≤ (vCold + vLoad) ∧ 0 ≤ (vHot - vLoad) ∧ (vCold + vLoad) + (vHot - vLoad) ≤ 1000 from by omega), (show 0 ≤ (2 : Int) ∧ (2 : Int) ≤ 2 from by omega), (show 0 ≤ (vLeft - 1) ∧ (vLeft - 1) ≤ 2 ∧ ((2 : Int) = 1 → 1 ≤ (vLeft - 1)) from by omega)⟩⟩, hz_at hP ht⟩, hS.F ht⟩) hS.2.2 dX8_turns_117
  · refine hz_iconst hx hb dX8_turns_8 ?_
    refine lv_goto (tgt := 34) hx hb dX8_turns_9 (by decide) ?_
    refine lv_istore_n (lv' := [(1, zi 0), (0, .ref (ad 0))]) hx hb dX8_turns_34 rfl hl (by decide) rfl (fun ls hl => ?_)
    have eu : (0 : Int) = tuZ vTurb vLoad vHot := by unfold tuZ; omega
    rw [← eu] at qm
    refine lv_aload_n hx hb dX8_turns_35 rfl (lv_at hl 1 rfl) ?_
    refine va_get (D := G) (ci := 9) (v := zi vTurb) (C := RX8) (T := TX8) (N := 40) hx hb hts hinwsX80 hown hK hP 0 rfl rfl 28 (by decide) (hts (.fieldLink RX8 194 "HeliokeepModel" "turbine" "I") (List.mem_of_getElem? (i := 1) rfl)) (fun _ h9 => h9) rfl dX8_turns_36 ?_
    refine hz_iconst hx hb dX8_turns_39 ?_
    refine hz_icmp_ne (tgt := 69) hx hb dX8_turns_40 (by decide) (by omega) (fun c7 => ?_) (fun c7 => ?_)
    · refine lv_aload_n hx hb dX8_turns_69 rfl (lv_at hl 1 rfl) ?_
      refine lv_dup hx hb dX8_turns_70 rfl ?_
      refine va_get (D := G) (ci := 9) (v := zi vHot) (C := RX8) (T := TX8) (N := 40) hx hb hts hinwsX80 hown hK hP 0 rfl rfl 23 (by decide) (hts (.fieldLink RX8 178 "HeliokeepModel" "hot" "I") (List.mem_of_getElem? (i := 3) rfl)) (fun _ h9 => h9) rfl dX8_turns_71 ?_
      refine lv_iload_n hx hb dX8_turns_74 rfl (lv_at hl 0 rfl) ?_
      refine hz_isub hx hb dX8_turns_75 ?_
      refine va_put (D := G) (ci := 9) (v := zi (vHot - 0)) (ty := .int) (C := RX8) (T := TX8) (N := 40) hx hb hts hinwsX80 tyX8 tyX8_ok nmX8 hown hK hP hD hS 0 rfl rfl 23 (by decide) (hts (.fieldLink RX8 178 "HeliokeepModel" "hot" "I") (List.mem_of_getElem? (i := 3) rfl)) (fun _ h9 => h9) rfl (by decide +kernel) rfl rfl (Nat.le_of_ble_eq_true rfl) dX8_turns_76 (fun H locs hP hD hS => ?_)
      have hP : va_P G vwCl (mW ad y vThrown vN vC vNow vHaze vCold (vHot - 0) vPipe vDeg vThaw vTrc vTurb vLeft vLoad vWater vTrips vMissed vBRow vBSum vCell vDirt vAim vErr vCor vBrk vTop vLm vRows vCols vDown vRight vBound vStrain vPrice vFirm vSums vRays vFalls vSom vHad) H := hP
      have hD : va_D A (mW ad y vThrown vN vC vNow vHaze vCold (vHot - 0) vPipe vDeg vThaw vTrc vTurb vLeft vLoad vWater vTrips vMissed vBRow vBSum vCell vDirt vAim vErr vCor vBrk vTop vLm vRows vCols vDown vRight vBound vStrain vPrice vFirm vSums vRays vFalls vSom vHad) := hD
      refine lv_aload_n hx hb dX8_turns_79 rfl (lv_at hl 1 rfl) ?_
      refine lv_dup hx hb dX8_turns_80 rfl ?_
      refine va_get (D := G) (ci := 9) (v := zi vCold) (C := RX8) (T := TX8) (N := 40) hx hb hts hinwsX80 hown hK hP 0 rfl rfl 22 (by decide) (hts (.fieldLink RX8 63 "HeliokeepModel" "cold" "I") (List.mem_of_getElem? (i := 5) rfl)) (fun _ h9 => h9) rfl dX8_turns_81 ?_
      refine lv_iload_n hx hb dX8_turns_84 rfl (lv_at hl 0 rfl) ?_
      refine hz_iadd hx hb dX8_turns_85 ?_
      refine va_put (D := G) (ci := 9) (v := zi (vCold + 0)) (ty := .int) (C := RX8) (T := TX8) (N := 40) hx hb hts hinwsX80 tyX8 tyX8_ok nmX8 hown hK hP hD hS 0 rfl rfl 22 (by decide) (hts (.fieldLink RX8 63 "HeliokeepModel" "cold" "I") (List.mem_of_getElem? (i := 5) rfl)) (fun _ h9 => h9) rfl (by decide +kernel) rfl rfl (Nat.le_of_ble_eq_true rfl) dX8_turns_86 (fun H locs hP hD hS => ?_)
      have hP : va_P G vwCl (mW ad y vThrown vN vC vNow vHaze (vCold + 0) (vHot - 0) vPipe vDeg vThaw vTrc vTurb vLeft vLoad vWater vTrips vMissed vBRow vBSum vCell vDirt vAim vErr vCor vBrk vTop vLm vRows vCols vDown vRight vBound vStrain vPrice vFirm vSums vRays vFalls vSom vHad) H := hP
      have hD : va_D A (mW ad y vThrown vN vC vNow vHaze (vCold + 0) (vHot - 0) vPipe vDeg vThaw vTrc vTurb vLeft vLoad vWater vTrips vMissed vBRow vBSum vCell vDirt vAim vErr vCor vBrk vTop vLm vRows vCols vDown vRight vBound vStrain vPrice vFirm vSums vRays vFalls vSom vHad) := hD
      refine lv_iload_n hx hb dX8_turns_89 rfl (lv_at hl 0 rfl) ?_
      refine hz_bipush hx hb dX8_turns_90 (by decide) ?_
      refine lv_aload_n hx hb dX8_turns_92 rfl (lv_at hl 1 rfl) ?_
      refine va_get (D := G) (ci := 9) (v := zi vNow) (C := RX8) (T := TX8) (N := 40) hx hb hts hinwsX80 hown hK hP 0 rfl rfl 20 (by decide) (hts (.fieldLink RX8 108 "HeliokeepModel" "now" "I") (List.mem_of_getElem? (i := 6) rfl)) (fun _ h9 => h9) rfl dX8_turns_93 ?_
      refine hz_callSi (As := [zi vNow]) (rest := [zi 10, zi 0]) ⟨hx, hb, hml, hown, hts⟩ (c_X8_strength l vNow (by omega) (by omega)) (va_cwS 1 hts gX8_turns_X8_strength rfl rfl rfl (by decide +kernel) ⟨Nat.le_of_ble_eq_true rfl, Nat.le_of_ble_eq_true rfl⟩) rfl hl.1 rfl (Nat.le_of_ble_eq_true rfl) dX8_turns_96 ⟨Nat.zero_le _, Nat.zero_le _⟩ ?_
      refine hz_iconst hx hb dX8_turns_99 ?_
      refine hz_idiv hx hb dX8_turns_100 (by omega) ?_
      refine hz_isub hx hb dX8_turns_101 ?_
      refine hz_imul hx hb dX8_turns_102 ?_
      refine lv_istore_n (lv' := [(2, zi (0 * (10 - ((strZ vNow) / 5)))), (1, zi 0), (0, .ref (ad 0))]) hx hb dX8_turns_103 rfl hl (by decide) rfl (fun ls hl => ?_)
      refine lv_aload_n hx hb dX8_turns_104 rfl (lv_at hl 2 rfl) ?_
      refine va_get (D := G) (ci := 9) (v := .ref (ad 17)) (C := RX8) (T := TX8) (N := 40) hx hb hts hinwsX80 hown hK hP 0 rfl rfl 19 (by decide) (hts (.fieldLink RX8 59 "HeliokeepModel" "sums" "[J") (List.mem_of_getElem? (i := 7) rfl)) (fun _ h9 => h9) rfl dX8_turns_105 ?_
      refine hz_bipush hx hb dX8_turns_108 (by decide) ?_
      refine lv_dup2_11 hx hb dX8_turns_110 rfl rfl ?_
      refine hz_lald (f := vSums) hx hb hK hP 17 1 rfl rfl (Nat.le_of_ble_eq_true rfl) (by omega) dX8_turns_111 ?_
      refine lv_iload_n hx hb dX8_turns_112 rfl (lv_at hl 0 rfl) ?_
      refine hz_i2l hx hb dX8_turns_113 (by omega) ?_
      refine hz_ladd hx hb dX8_turns_114 ?_
      refine hz_last (f := vSums) hx hb hK hP hD hS 17 1 rfl rfl (Nat.le_of_ble_eq_true rfl) (by omega) dX8_turns_115 (fun H locs hP hD hS => ?_)
      have hP : va_P G vwCl (mW ad y vThrown vN vC vNow vHaze (vCold + 0) (vHot - 0) vPipe vDeg vThaw vTrc vTurb vLeft vLoad vWater vTrips vMissed vBRow vBSum vCell vDirt vAim vErr vCor vBrk vTop vLm vRows vCols vDown vRight vBound vStrain vPrice vFirm (upZ vSums 6 ((vSums 6) + (0 * (10 - ((strZ vNow) / 5))))) vRays vFalls vSom vHad) H := hP
      have hD : va_D A (mW ad y vThrown vN vC vNow vHaze (vCold + 0) (vHot - 0) vPipe vDeg vThaw vTrc vTurb vLeft vLoad vWater vTrips vMissed vBRow vBSum vCell vDirt vAim vErr vCor vBrk vTop vLm vRows vCols vDown vRight vBound vStrain vPrice vFirm (upZ vSums 6 ((vSums 6) + (0 * (10 - ((strZ vNow) / 5))))) vRays vFalls vSom vHad) := hD
      refine lv_iload_n hx hb dX8_turns_116 rfl (lv_at hl 0 rfl) ?_
      exact W.iret (v := zI (0 * (10 - ((strZ vNow) / 5)))) hx hb hr (fun t ht hW => ⟨⟨zI (0 * (10 - ((strZ vNow) / 5))), ((0 * (10 - ((strZ vNow) / 5))), (vCold + 0), (vHot - 0), vTurb, vLeft, (upZ vSums 6 ((vSums 6) + (0 * (10 - ((strZ vNow) / 5)))))), rfl, ⟨rfl, ⟨(show (0 * (10 - ((strZ vNow) / 5))) = tuZ vTurb vLoad vHot * (10 - strZ vNow / 5) from by rw [← eu]), (show 0 ≤ (0 * (10 - ((strZ vNow) / 5))) ∧ (0 * (10 - ((strZ vNow) / 5))) ≤ 200 from qm), (show (vCold + 0) = vCold + tuZ vTurb vLoad vHot from by omega), (show (vHot - 0) = vHot - tuZ vTurb vLoad vHot from by omega), (show vTurb = nbZ vTurb vLeft from by unfold nbZ; omega), (show vLeft = nlZ vTurb vLeft from by unfold nlZ; omega), (show (upZ vSums 6 ((vSums 6) + (0 * (10 - ((strZ vNow) / 5))))) = adZ vSums 6 (0 * (10 - ((strZ vNow) / 5))) from rfl), (show 0 ≤ (vCold + 0) ∧ 0 ≤ (vHot - 0) ∧ (vCold + 0) + (vHot - 0) ≤ 1000 from by omega), (show 0 ≤ vTurb ∧ vTurb ≤ 2 from by omega), (show 0 ≤ vLeft ∧ vLeft ≤ 2 ∧ (vTurb = 1 → 1 ≤ vLeft) from by omega)⟩⟩, hz_at hP ht⟩, hS.F ht⟩) hS.2.2 dX8_turns_117
    · refine lv_aload_n hx hb dX8_turns_43 rfl (lv_at hl 1 rfl) ?_
      refine lv_dup hx hb dX8_turns_44 rfl ?_
      refine va_get (D := G) (ci := 9) (v := zi vLeft) (C := RX8) (T := TX8) (N := 40) hx hb hts hinwsX80 hown hK hP 0 rfl rfl 29 (by decide) (hts (.fieldLink RX8 197 "HeliokeepModel" "left" "I") (List.mem_of_getElem? (i := 4) rfl)) (fun _ h9 => h9) rfl dX8_turns_45 ?_
      refine hz_iconst hx hb dX8_turns_48 ?_
      refine hz_isub hx hb dX8_turns_49 ?_
      refine va_put (D := G) (ci := 9) (v := zi (vLeft - 1)) (ty := .int) (C := RX8) (T := TX8) (N := 40) hx hb hts hinwsX80 tyX8 tyX8_ok nmX8 hown hK hP hD hS 0 rfl rfl 29 (by decide) (hts (.fieldLink RX8 197 "HeliokeepModel" "left" "I") (List.mem_of_getElem? (i := 4) rfl)) (fun _ h9 => h9) rfl (by decide +kernel) rfl rfl (Nat.le_of_ble_eq_true rfl) dX8_turns_50 (fun H locs hP hD hS => ?_)
      have hP : va_P G vwCl (mW ad y vThrown vN vC vNow vHaze vCold vHot vPipe vDeg vThaw vTrc vTurb (vLeft - 1) vLoad vWater vTrips vMissed vBRow vBSum vCell vDirt vAim vErr vCor vBrk vTop vLm vRows vCols vDown vRight vBound vStrain vPrice vFirm vSums vRays vFalls vSom vHad) H := hP
      have hD : va_D A (mW ad y vThrown vN vC vNow vHaze vCold vHot vPipe vDeg vThaw vTrc vTurb (vLeft - 1) vLoad vWater vTrips vMissed vBRow vBSum vCell vDirt vAim vErr vCor vBrk vTop vLm vRows vCols vDown vRight vBound vStrain vPrice vFirm vSums vRays vFalls vSom vHad) := hD
      refine lv_aload_n hx hb dX8_turns_53 rfl (lv_at hl 1 rfl) ?_
      refine lv_aload_n hx hb dX8_turns_54 rfl (lv_at hl 1 rfl) ?_
      refine va_get (D := G) (ci := 9) (v := zi (vLeft - 1)) (C := RX8) (T := TX8) (N := 40) hx hb hts hinwsX80 hown hK hP 0 rfl rfl 29 (by decide) (hts (.fieldLink RX8 197 "HeliokeepModel" "left" "I") (List.mem_of_getElem? (i := 4) rfl)) (fun _ h9 => h9) rfl dX8_turns_55 ?_
      refine hz_if_ne (tgt := 65) hx hb dX8_turns_58 (by decide) (by omega) (fun c8 => ?_) (fun c8 => ?_)
      · refine hz_iconst hx hb dX8_turns_65 ?_
        refine va_put (D := G) (ci := 9) (v := zi 1) (ty := .int) (C := RX8) (T := TX8) (N := 40) hx hb hts hinwsX80 tyX8 tyX8_ok nmX8 hown hK hP hD hS 0 rfl rfl 28 (by decide) (hts (.fieldLink RX8 194 "HeliokeepModel" "turbine" "I") (List.mem_of_getElem? (i := 1) rfl)) (fun _ h9 => h9) rfl (by decide +kernel) rfl rfl (Nat.le_of_ble_eq_true rfl) dX8_turns_66 (fun H locs hP hD hS => ?_)
        have hP : va_P G vwCl (mW ad y vThrown vN vC vNow vHaze vCold vHot vPipe vDeg vThaw vTrc 1 (vLeft - 1) vLoad vWater vTrips vMissed vBRow vBSum vCell vDirt vAim vErr vCor vBrk vTop vLm vRows vCols vDown vRight vBound vStrain vPrice vFirm vSums vRays vFalls vSom vHad) H := hP
        have hD : va_D A (mW ad y vThrown vN vC vNow vHaze vCold vHot vPipe vDeg vThaw vTrc 1 (vLeft - 1) vLoad vWater vTrips vMissed vBRow vBSum vCell vDirt vAim vErr vCor vBrk vTop vLm vRows vCols vDown vRight vBound vStrain vPrice vFirm vSums vRays vFalls vSom vHad) := hD
        refine lv_aload_n hx hb dX8_turns_69 rfl (lv_at hl 1 rfl) ?_
        refine lv_dup hx hb dX8_turns_70 rfl ?_
        refine va_get (D := G) (ci := 9) (v := zi vHot) (C := RX8) (T := TX8) (N := 40) hx hb hts hinwsX80 hown hK hP 0 rfl rfl 23 (by decide) (hts (.fieldLink RX8 178 "HeliokeepModel" "hot" "I") (List.mem_of_getElem? (i := 3) rfl)) (fun _ h9 => h9) rfl dX8_turns_71 ?_
        refine lv_iload_n hx hb dX8_turns_74 rfl (lv_at hl 0 rfl) ?_
        refine hz_isub hx hb dX8_turns_75 ?_
        refine va_put (D := G) (ci := 9) (v := zi (vHot - 0)) (ty := .int) (C := RX8) (T := TX8) (N := 40) hx hb hts hinwsX80 tyX8 tyX8_ok nmX8 hown hK hP hD hS 0 rfl rfl 23 (by decide) (hts (.fieldLink RX8 178 "HeliokeepModel" "hot" "I") (List.mem_of_getElem? (i := 3) rfl)) (fun _ h9 => h9) rfl (by decide +kernel) rfl rfl (Nat.le_of_ble_eq_true rfl) dX8_turns_76 (fun H locs hP hD hS => ?_)
        have hP : va_P G vwCl (mW ad y vThrown vN vC vNow vHaze vCold (vHot - 0) vPipe vDeg vThaw vTrc 1 (vLeft - 1) vLoad vWater vTrips vMissed vBRow vBSum vCell vDirt vAim vErr vCor vBrk vTop vLm vRows vCols vDown vRight vBound vStrain vPrice vFirm vSums vRays vFalls vSom vHad) H := hP
        have hD : va_D A (mW ad y vThrown vN vC vNow vHaze vCold (vHot - 0) vPipe vDeg vThaw vTrc 1 (vLeft - 1) vLoad vWater vTrips vMissed vBRow vBSum vCell vDirt vAim vErr vCor vBrk vTop vLm vRows vCols vDown vRight vBound vStrain vPrice vFirm vSums vRays vFalls vSom vHad) := hD
        refine lv_aload_n hx hb dX8_turns_79 rfl (lv_at hl 1 rfl) ?_
        refine lv_dup hx hb dX8_turns_80 rfl ?_
        refine va_get (D := G) (ci := 9) (v := zi vCold) (C := RX8) (T := TX8) (N := 40) hx hb hts hinwsX80 hown hK hP 0 rfl rfl 22 (by decide) (hts (.fieldLink RX8 63 "HeliokeepModel" "cold" "I") (List.mem_of_getElem? (i := 5) rfl)) (fun _ h9 => h9) rfl dX8_turns_81 ?_
        refine lv_iload_n hx hb dX8_turns_84 rfl (lv_at hl 0 rfl) ?_
        refine hz_iadd hx hb dX8_turns_85 ?_
        refine va_put (D := G) (ci := 9) (v := zi (vCold + 0)) (ty := .int) (C := RX8) (T := TX8) (N := 40) hx hb hts hinwsX80 tyX8 tyX8_ok nmX8 hown hK hP hD hS 0 rfl rfl 22 (by decide) (hts (.fieldLink RX8 63 "HeliokeepModel" "cold" "I") (List.mem_of_getElem? (i := 5) rfl)) (fun _ h9 => h9) rfl (by decide +kernel) rfl rfl (Nat.le_of_ble_eq_true rfl) dX8_turns_86 (fun H locs hP hD hS => ?_)
        have hP : va_P G vwCl (mW ad y vThrown vN vC vNow vHaze (vCold + 0) (vHot - 0) vPipe vDeg vThaw vTrc 1 (vLeft - 1) vLoad vWater vTrips vMissed vBRow vBSum vCell vDirt vAim vErr vCor vBrk vTop vLm vRows vCols vDown vRight vBound vStrain vPrice vFirm vSums vRays vFalls vSom vHad) H := hP
        have hD : va_D A (mW ad y vThrown vN vC vNow vHaze (vCold + 0) (vHot - 0) vPipe vDeg vThaw vTrc 1 (vLeft - 1) vLoad vWater vTrips vMissed vBRow vBSum vCell vDirt vAim vErr vCor vBrk vTop vLm vRows vCols vDown vRight vBound vStrain vPrice vFirm vSums vRays vFalls vSom vHad) := hD
        refine lv_iload_n hx hb dX8_turns_89 rfl (lv_at hl 0 rfl) ?_
        refine hz_bipush hx hb dX8_turns_90 (by decide) ?_
        refine lv_aload_n hx hb dX8_turns_92 rfl (lv_at hl 1 rfl) ?_
        refine va_get (D := G) (ci := 9) (v := zi vNow) (C := RX8) (T := TX8) (N := 40) hx hb hts hinwsX80 hown hK hP 0 rfl rfl 20 (by decide) (hts (.fieldLink RX8 108 "HeliokeepModel" "now" "I") (List.mem_of_getElem? (i := 6) rfl)) (fun _ h9 => h9) rfl dX8_turns_93 ?_
        refine hz_callSi (As := [zi vNow]) (rest := [zi 10, zi 0]) ⟨hx, hb, hml, hown, hts⟩ (c_X8_strength l vNow (by omega) (by omega)) (va_cwS 1 hts gX8_turns_X8_strength rfl rfl rfl (by decide +kernel) ⟨Nat.le_of_ble_eq_true rfl, Nat.le_of_ble_eq_true rfl⟩) rfl hl.1 rfl (Nat.le_of_ble_eq_true rfl) dX8_turns_96 ⟨Nat.zero_le _, Nat.zero_le _⟩ ?_
        refine hz_iconst hx hb dX8_turns_99 ?_
        refine hz_idiv hx hb dX8_turns_100 (by omega) ?_
        refine hz_isub hx hb dX8_turns_101 ?_
        refine hz_imul hx hb dX8_turns_102 ?_
        refine lv_istore_n (lv' := [(2, zi (0 * (10 - ((strZ vNow) / 5)))), (1, zi 0), (0, .ref (ad 0))]) hx hb dX8_turns_103 rfl hl (by decide) rfl (fun ls hl => ?_)
        refine lv_aload_n hx hb dX8_turns_104 rfl (lv_at hl 2 rfl) ?_
        refine va_get (D := G) (ci := 9) (v := .ref (ad 17)) (C := RX8) (T := TX8) (N := 40) hx hb hts hinwsX80 hown hK hP 0 rfl rfl 19 (by decide) (hts (.fieldLink RX8 59 "HeliokeepModel" "sums" "[J") (List.mem_of_getElem? (i := 7) rfl)) (fun _ h9 => h9) rfl dX8_turns_105 ?_
        refine hz_bipush hx hb dX8_turns_108 (by decide) ?_
        refine lv_dup2_11 hx hb dX8_turns_110 rfl rfl ?_
        refine hz_lald (f := vSums) hx hb hK hP 17 1 rfl rfl (Nat.le_of_ble_eq_true rfl) (by omega) dX8_turns_111 ?_
        refine lv_iload_n hx hb dX8_turns_112 rfl (lv_at hl 0 rfl) ?_
        refine hz_i2l hx hb dX8_turns_113 (by omega) ?_
        refine hz_ladd hx hb dX8_turns_114 ?_
        refine hz_last (f := vSums) hx hb hK hP hD hS 17 1 rfl rfl (Nat.le_of_ble_eq_true rfl) (by omega) dX8_turns_115 (fun H locs hP hD hS => ?_)
        have hP : va_P G vwCl (mW ad y vThrown vN vC vNow vHaze (vCold + 0) (vHot - 0) vPipe vDeg vThaw vTrc 1 (vLeft - 1) vLoad vWater vTrips vMissed vBRow vBSum vCell vDirt vAim vErr vCor vBrk vTop vLm vRows vCols vDown vRight vBound vStrain vPrice vFirm (upZ vSums 6 ((vSums 6) + (0 * (10 - ((strZ vNow) / 5))))) vRays vFalls vSom vHad) H := hP
        have hD : va_D A (mW ad y vThrown vN vC vNow vHaze (vCold + 0) (vHot - 0) vPipe vDeg vThaw vTrc 1 (vLeft - 1) vLoad vWater vTrips vMissed vBRow vBSum vCell vDirt vAim vErr vCor vBrk vTop vLm vRows vCols vDown vRight vBound vStrain vPrice vFirm (upZ vSums 6 ((vSums 6) + (0 * (10 - ((strZ vNow) / 5))))) vRays vFalls vSom vHad) := hD
        refine lv_iload_n hx hb dX8_turns_116 rfl (lv_at hl 0 rfl) ?_
        exact W.iret (v := zI (0 * (10 - ((strZ vNow) / 5)))) hx hb hr (fun t ht hW => ⟨⟨zI (0 * (10 - ((strZ vNow) / 5))), ((0 * (10 - ((strZ vNow) / 5))), (vCold + 0), (vHot - 0), 1, (vLeft - 1), (upZ vSums 6 ((vSums 6) + (0 * (10 - ((strZ vNow) / 5)))))), rfl, ⟨rfl, ⟨(show (0 * (10 - ((strZ vNow) / 5))) = tuZ vTurb vLoad vHot * (10 - strZ vNow / 5) from by rw [← eu]), (show 0 ≤ (0 * (10 - ((strZ vNow) / 5))) ∧ (0 * (10 - ((strZ vNow) / 5))) ≤ 200 from qm), (show (vCold + 0) = vCold + tuZ vTurb vLoad vHot from by omega), (show (vHot - 0) = vHot - tuZ vTurb vLoad vHot from by omega), (show (1 : Int) = nbZ vTurb vLeft from by unfold nbZ; omega), (show (vLeft - 1) = nlZ vTurb vLeft from by unfold nlZ; omega), (show (upZ vSums 6 ((vSums 6) + (0 * (10 - ((strZ vNow) / 5))))) = adZ vSums 6 (0 * (10 - ((strZ vNow) / 5))) from rfl), (show 0 ≤ (vCold + 0) ∧ 0 ≤ (vHot - 0) ∧ (vCold + 0) + (vHot - 0) ≤ 1000 from by omega), (show 0 ≤ (1 : Int) ∧ (1 : Int) ≤ 2 from by omega), (show 0 ≤ (vLeft - 1) ∧ (vLeft - 1) ≤ 2 ∧ ((1 : Int) = 1 → 1 ≤ (vLeft - 1)) from by omega)⟩⟩, hz_at hP ht⟩, hS.F ht⟩) hS.2.2 dX8_turns_117
      · refine hz_iconst hx hb dX8_turns_61 ?_
        refine lv_goto (tgt := 66) hx hb dX8_turns_62 (by decide) ?_
        refine va_put (D := G) (ci := 9) (v := zi 2) (ty := .int) (C := RX8) (T := TX8) (N := 40) hx hb hts hinwsX80 tyX8 tyX8_ok nmX8 hown hK hP hD hS 0 rfl rfl 28 (by decide) (hts (.fieldLink RX8 194 "HeliokeepModel" "turbine" "I") (List.mem_of_getElem? (i := 1) rfl)) (fun _ h9 => h9) rfl (by decide +kernel) rfl rfl (Nat.le_of_ble_eq_true rfl) dX8_turns_66 (fun H locs hP hD hS => ?_)
        have hP : va_P G vwCl (mW ad y vThrown vN vC vNow vHaze vCold vHot vPipe vDeg vThaw vTrc 2 (vLeft - 1) vLoad vWater vTrips vMissed vBRow vBSum vCell vDirt vAim vErr vCor vBrk vTop vLm vRows vCols vDown vRight vBound vStrain vPrice vFirm vSums vRays vFalls vSom vHad) H := hP
        have hD : va_D A (mW ad y vThrown vN vC vNow vHaze vCold vHot vPipe vDeg vThaw vTrc 2 (vLeft - 1) vLoad vWater vTrips vMissed vBRow vBSum vCell vDirt vAim vErr vCor vBrk vTop vLm vRows vCols vDown vRight vBound vStrain vPrice vFirm vSums vRays vFalls vSom vHad) := hD
        refine lv_aload_n hx hb dX8_turns_69 rfl (lv_at hl 1 rfl) ?_
        refine lv_dup hx hb dX8_turns_70 rfl ?_
        refine va_get (D := G) (ci := 9) (v := zi vHot) (C := RX8) (T := TX8) (N := 40) hx hb hts hinwsX80 hown hK hP 0 rfl rfl 23 (by decide) (hts (.fieldLink RX8 178 "HeliokeepModel" "hot" "I") (List.mem_of_getElem? (i := 3) rfl)) (fun _ h9 => h9) rfl dX8_turns_71 ?_
        refine lv_iload_n hx hb dX8_turns_74 rfl (lv_at hl 0 rfl) ?_
        refine hz_isub hx hb dX8_turns_75 ?_
        refine va_put (D := G) (ci := 9) (v := zi (vHot - 0)) (ty := .int) (C := RX8) (T := TX8) (N := 40) hx hb hts hinwsX80 tyX8 tyX8_ok nmX8 hown hK hP hD hS 0 rfl rfl 23 (by decide) (hts (.fieldLink RX8 178 "HeliokeepModel" "hot" "I") (List.mem_of_getElem? (i := 3) rfl)) (fun _ h9 => h9) rfl (by decide +kernel) rfl rfl (Nat.le_of_ble_eq_true rfl) dX8_turns_76 (fun H locs hP hD hS => ?_)
        have hP : va_P G vwCl (mW ad y vThrown vN vC vNow vHaze vCold (vHot - 0) vPipe vDeg vThaw vTrc 2 (vLeft - 1) vLoad vWater vTrips vMissed vBRow vBSum vCell vDirt vAim vErr vCor vBrk vTop vLm vRows vCols vDown vRight vBound vStrain vPrice vFirm vSums vRays vFalls vSom vHad) H := hP
        have hD : va_D A (mW ad y vThrown vN vC vNow vHaze vCold (vHot - 0) vPipe vDeg vThaw vTrc 2 (vLeft - 1) vLoad vWater vTrips vMissed vBRow vBSum vCell vDirt vAim vErr vCor vBrk vTop vLm vRows vCols vDown vRight vBound vStrain vPrice vFirm vSums vRays vFalls vSom vHad) := hD
        refine lv_aload_n hx hb dX8_turns_79 rfl (lv_at hl 1 rfl) ?_
        refine lv_dup hx hb dX8_turns_80 rfl ?_
        refine va_get (D := G) (ci := 9) (v := zi vCold) (C := RX8) (T := TX8) (N := 40) hx hb hts hinwsX80 hown hK hP 0 rfl rfl 22 (by decide) (hts (.fieldLink RX8 63 "HeliokeepModel" "cold" "I") (List.mem_of_getElem? (i := 5) rfl)) (fun _ h9 => h9) rfl dX8_turns_81 ?_
        refine lv_iload_n hx hb dX8_turns_84 rfl (lv_at hl 0 rfl) ?_
        refine hz_iadd hx hb dX8_turns_85 ?_
        refine va_put (D := G) (ci := 9) (v := zi (vCold + 0)) (ty := .int) (C := RX8) (T := TX8) (N := 40) hx hb hts hinwsX80 tyX8 tyX8_ok nmX8 hown hK hP hD hS 0 rfl rfl 22 (by decide) (hts (.fieldLink RX8 63 "HeliokeepModel" "cold" "I") (List.mem_of_getElem? (i := 5) rfl)) (fun _ h9 => h9) rfl (by decide +kernel) rfl rfl (Nat.le_of_ble_eq_true rfl) dX8_turns_86 (fun H locs hP hD hS => ?_)
        have hP : va_P G vwCl (mW ad y vThrown vN vC vNow vHaze (vCold + 0) (vHot - 0) vPipe vDeg vThaw vTrc 2 (vLeft - 1) vLoad vWater vTrips vMissed vBRow vBSum vCell vDirt vAim vErr vCor vBrk vTop vLm vRows vCols vDown vRight vBound vStrain vPrice vFirm vSums vRays vFalls vSom vHad) H := hP
        have hD : va_D A (mW ad y vThrown vN vC vNow vHaze (vCold + 0) (vHot - 0) vPipe vDeg vThaw vTrc 2 (vLeft - 1) vLoad vWater vTrips vMissed vBRow vBSum vCell vDirt vAim vErr vCor vBrk vTop vLm vRows vCols vDown vRight vBound vStrain vPrice vFirm vSums vRays vFalls vSom vHad) := hD
        refine lv_iload_n hx hb dX8_turns_89 rfl (lv_at hl 0 rfl) ?_
        refine hz_bipush hx hb dX8_turns_90 (by decide) ?_
        refine lv_aload_n hx hb dX8_turns_92 rfl (lv_at hl 1 rfl) ?_
        refine va_get (D := G) (ci := 9) (v := zi vNow) (C := RX8) (T := TX8) (N := 40) hx hb hts hinwsX80 hown hK hP 0 rfl rfl 20 (by decide) (hts (.fieldLink RX8 108 "HeliokeepModel" "now" "I") (List.mem_of_getElem? (i := 6) rfl)) (fun _ h9 => h9) rfl dX8_turns_93 ?_
        refine hz_callSi (As := [zi vNow]) (rest := [zi 10, zi 0]) ⟨hx, hb, hml, hown, hts⟩ (c_X8_strength l vNow (by omega) (by omega)) (va_cwS 1 hts gX8_turns_X8_strength rfl rfl rfl (by decide +kernel) ⟨Nat.le_of_ble_eq_true rfl, Nat.le_of_ble_eq_true rfl⟩) rfl hl.1 rfl (Nat.le_of_ble_eq_true rfl) dX8_turns_96 ⟨Nat.zero_le _, Nat.zero_le _⟩ ?_
        refine hz_iconst hx hb dX8_turns_99 ?_
        refine hz_idiv hx hb dX8_turns_100 (by omega) ?_
        refine hz_isub hx hb dX8_turns_101 ?_
        refine hz_imul hx hb dX8_turns_102 ?_
        refine lv_istore_n (lv' := [(2, zi (0 * (10 - ((strZ vNow) / 5)))), (1, zi 0), (0, .ref (ad 0))]) hx hb dX8_turns_103 rfl hl (by decide) rfl (fun ls hl => ?_)
        refine lv_aload_n hx hb dX8_turns_104 rfl (lv_at hl 2 rfl) ?_
        refine va_get (D := G) (ci := 9) (v := .ref (ad 17)) (C := RX8) (T := TX8) (N := 40) hx hb hts hinwsX80 hown hK hP 0 rfl rfl 19 (by decide) (hts (.fieldLink RX8 59 "HeliokeepModel" "sums" "[J") (List.mem_of_getElem? (i := 7) rfl)) (fun _ h9 => h9) rfl dX8_turns_105 ?_
        refine hz_bipush hx hb dX8_turns_108 (by decide) ?_
        refine lv_dup2_11 hx hb dX8_turns_110 rfl rfl ?_
        refine hz_lald (f := vSums) hx hb hK hP 17 1 rfl rfl (Nat.le_of_ble_eq_true rfl) (by omega) dX8_turns_111 ?_
        refine lv_iload_n hx hb dX8_turns_112 rfl (lv_at hl 0 rfl) ?_
        refine hz_i2l hx hb dX8_turns_113 (by omega) ?_
        refine hz_ladd hx hb dX8_turns_114 ?_
        refine hz_last (f := vSums) hx hb hK hP hD hS 17 1 rfl rfl (Nat.le_of_ble_eq_true rfl) (by omega) dX8_turns_115 (fun H locs hP hD hS => ?_)
        have hP : va_P G vwCl (mW ad y vThrown vN vC vNow vHaze (vCold + 0) (vHot - 0) vPipe vDeg vThaw vTrc 2 (vLeft - 1) vLoad vWater vTrips vMissed vBRow vBSum vCell vDirt vAim vErr vCor vBrk vTop vLm vRows vCols vDown vRight vBound vStrain vPrice vFirm (upZ vSums 6 ((vSums 6) + (0 * (10 - ((strZ vNow) / 5))))) vRays vFalls vSom vHad) H := hP
        have hD : va_D A (mW ad y vThrown vN vC vNow vHaze (vCold + 0) (vHot - 0) vPipe vDeg vThaw vTrc 2 (vLeft - 1) vLoad vWater vTrips vMissed vBRow vBSum vCell vDirt vAim vErr vCor vBrk vTop vLm vRows vCols vDown vRight vBound vStrain vPrice vFirm (upZ vSums 6 ((vSums 6) + (0 * (10 - ((strZ vNow) / 5))))) vRays vFalls vSom vHad) := hD
        refine lv_iload_n hx hb dX8_turns_116 rfl (lv_at hl 0 rfl) ?_
        exact W.iret (v := zI (0 * (10 - ((strZ vNow) / 5)))) hx hb hr (fun t ht hW => ⟨⟨zI (0 * (10 - ((strZ vNow) / 5))), ((0 * (10 - ((strZ vNow) / 5))), (vCold + 0), (vHot - 0), 2, (vLeft - 1), (upZ vSums 6 ((vSums 6) + (0 * (10 - ((strZ vNow) / 5)))))), rfl, ⟨rfl, ⟨(show (0 * (10 - ((strZ vNow) / 5))) = tuZ vTurb vLoad vHot * (10 - strZ vNow / 5) from by rw [← eu]), (show 0 ≤ (0 * (10 - ((strZ vNow) / 5))) ∧ (0 * (10 - ((strZ vNow) / 5))) ≤ 200 from qm), (show (vCold + 0) = vCold + tuZ vTurb vLoad vHot from by omega), (show (vHot - 0) = vHot - tuZ vTurb vLoad vHot from by omega), (show (2 : Int) = nbZ vTurb vLeft from by unfold nbZ; omega), (show (vLeft - 1) = nlZ vTurb vLeft from by unfold nlZ; omega), (show (upZ vSums 6 ((vSums 6) + (0 * (10 - ((strZ vNow) / 5))))) = adZ vSums 6 (0 * (10 - ((strZ vNow) / 5))) from rfl), (show 0 ≤ (vCold + 0) ∧ 0 ≤ (vHot - 0) ∧ (vCold + 0) + (vHot - 0) ≤ 1000 from by omega), (show 0 ≤ (2 : Int) ∧ (2 : Int) ≤ 2 from by omega), (show 0 ≤ (vLeft - 1) ∧ (vLeft - 1) ≤ 2 ∧ ((2 : Int) = 1 → 1 ≤ (vLeft - 1)) from by omega)⟩⟩, hz_at hP ht⟩, hS.F ht⟩) hS.2.2 dX8_turns_117
abbrev Q_X8_sells (G : va_G) (y : Nat → ClassId) (ad : Nat → Nat) (vThrown vN vC vNow vHaze vCold vHot vPipe vDeg vThaw vTrc vTurb vLeft vLoad vWater vTrips vMissed vBRow vBSum : Int) (vCell vDirt vAim vErr vCor vBrk vTop vLm vRows vCols vDown vRight vBound vStrain vPrice vFirm vSums vRays vFalls vSom vHad : Int → Int) (made : Int) (A : Nat → Prop) : Array Value → State → Outcome → State → Prop := va_Qv (fun (u : (Int → Int)) => (u = slZ vSums (toZ vTrc) (boZ vTrc made) (made - toZ vTrc + boZ vTrc made) (dlZ vTrc made (vFirm (vNow % 24))) (vFirm (vNow % 24)) (vPrice (vNow % 24)))) (fun (u : (Int → Int)) t => va_P G vwCl (mW ad y vThrown vN vC vNow vHaze vCold vHot vPipe vDeg vThaw vTrc vTurb vLeft vLoad vWater vTrips vMissed vBRow vBSum vCell vDirt vAim vErr vCor vBrk vTop vLm vRows vCols vDown vRight vBound vStrain vPrice vFirm u vRays vFalls vSom vHad) t.heap) A
set_option maxHeartbeats 4000000 in
set_option maxRecDepth 100000 in
theorem c_X8_sells (l : Launch) (G : va_G) (y : Nat → ClassId) (ad : Nat → Nat) (sz : Nat) (vThrown vN vC vNow vHaze vCold vHot vPipe vDeg vThaw vTrc vTurb vLeft vLoad vWater vTrips vMissed vBRow vBSum : Int) (vCell vDirt vAim vErr vCor vBrk vTop vLm vRows vCols vDown vRight vBound vStrain vPrice vFirm vSums vRays vFalls vSom vHad : Int → Int) (made : Int) (hNow : 0 ≤ vNow ∧ vNow ≤ 9999) (hTrc : 0 ≤ vTrc ∧ vTrc ≤ 1) (hPrice : ∀ k : Int, 0 ≤ vPrice k ∧ vPrice k ≤ 99) (hFirm : ∀ k : Int, 0 ≤ vFirm k ∧ vFirm k ≤ 200) (hm : 0 ≤ made ∧ made ≤ 200) : Met l yX8_sells wsX8_sells ({ frames := 0, cells := 0, slots := 0, locals := 0 }) (va_Pc [.ref (ad 0), zi made] (HPre G (tyL y) (mW ad y vThrown vN vC vNow vHaze vCold vHot vPipe vDeg vThaw vTrc vTurb vLeft vLoad vWater vTrips vMissed vBRow vBSum vCell vDirt vAim vErr vCor vBrk vTop vLm vRows vCols vDown vRight vBound vStrain vPrice vFirm vSums vRays vFalls vSom vHad) sz)) (Q_X8_sells G y ad vThrown vN vC vNow vHaze vCold vHot vPipe vDeg vThaw vTrc vTurb vLeft vLoad vWater vTrips vMissed vBRow vBSum vCell vDirt vAim vErr vCor vBrk vTop vLm vRows vCols vDown vRight vBound vStrain vPrice vFirm vSums vRays vFalls vSom vHad made (va_A (mW ad y vThrown vN vC vNow vHaze vCold vHot vPipe vDeg vThaw vTrc vTurb vLeft vLoad vWater vTrips vMissed vBRow vBSum vCell vDirt vAim vErr vCor vBrk vTop vLm vRows vCols vDown vRight vBound vStrain vPrice vFirm vSums vRays vFalls vSom vHad) sz)) 0 0 (va_A (mW ad y vThrown vN vC vNow vHaze vCold vHot vPipe vDeg vThaw vTrc vTurb vLeft vLoad vWater vTrips vMissed vBRow vBSum vCell vDirt vAim vErr vCor vBrk vTop vLm vRows vCols vDown vRight vBound vStrain vPrice vFirm vSums vRays vFalls vSom vHad) sz) := by
  refine hz_ofW (Qf := Q_X8_sells G y ad vThrown vN vC vNow vHaze vCold vHot vPipe vDeg vThaw vTrc vTurb vLeft vLoad vWater vTrips vMissed vBRow vBSum vCell vDirt vAim vErr vCor vBrk vTop vLm vRows vCols vDown vRight vBound vStrain vPrice vFirm vSums vRays vFalls vSom vHad made) (cc := cX8_sells) (maxL := 7) (ret := none) (by decide) rfl (Nat.le_of_ble_eq_true rfl) ?_
  intro p e s m below meth c A ls hx hb hr hts hown hin hlocks hml hP hK hA hD hS hl
  have hown : s.vm.findClass RX8 = some m.cls := hown
  have hl : lv_has ls 7 [(0, .ref (ad 0)), (1, zi made)] := hl
  have hinwsX80 : ∀ w ∈ wsX80, w ∈ wsX8_sells := fun _ h => List.mem_cons_of_mem _ (List.mem_append_right _ (h))
  refine lv_aload_n hx hb dX8_sells_0 rfl (lv_at hl 0 rfl) ?_
  refine va_get (D := G) (ci := 9) (v := zi vTrc) (C := RX8) (T := TX8) (N := 40) hx hb hts hinwsX80 hown hK hP 0 rfl rfl 27 (by decide) (hts (.fieldLink RX8 187 "HeliokeepModel" "isTraced" "Z") (List.mem_of_getElem? (i := 1) rfl)) (fun _ h9 => h9) rfl dX8_sells_1 ?_
  refine hz_if_eq (tgt := 11) hx hb dX8_sells_4 (by decide) (by omega) (fun c1 => ?_) (fun c1 => ?_)
  · refine hz_iconst hx hb dX8_sells_11 ?_
    refine lv_istore_n (lv' := [(2, zi 0), (0, .ref (ad 0)), (1, zi made)]) hx hb dX8_sells_12 rfl hl (by decide) rfl (fun ls hl => ?_)
    refine lv_iload_n hx hb dX8_sells_13 rfl (lv_at hl 0 rfl) ?_
    refine lv_iload_n hx hb dX8_sells_14 rfl (lv_at hl 2 rfl) ?_
    refine hz_icmp_le (tgt := 24) hx hb dX8_sells_15 (by decide) (by omega) (fun c2 => ?_) (fun c2 => ?_)
    · refine hz_iconst hx hb dX8_sells_24 ?_
      refine lv_istore_n (lv' := [(3, zi 0), (2, zi 0), (0, .ref (ad 0)), (1, zi made)]) hx hb dX8_sells_25 rfl hl (by decide) rfl (fun ls hl => ?_)
      refine lv_iload_n hx hb dX8_sells_26 rfl (lv_at hl 3 rfl) ?_
      refine lv_iload_n hx hb dX8_sells_27 rfl (lv_at hl 1 rfl) ?_
      refine hz_isub hx hb dX8_sells_28 ?_
      refine lv_iload_n hx hb dX8_sells_29 rfl (lv_at hl 0 rfl) ?_
      refine hz_iadd hx hb dX8_sells_30 ?_
      refine lv_istore (lv' := [(4, zi ((made - 0) + 0)), (3, zi 0), (2, zi 0), (0, .ref (ad 0)), (1, zi made)]) hx hb dX8_sells_31 hl (by decide) rfl (fun ls hl => ?_)
      refine lv_aload_n hx hb dX8_sells_33 rfl (lv_at hl 3 rfl) ?_
      refine va_get (D := G) (ci := 9) (v := .ref (ad 16)) (C := RX8) (T := TX8) (N := 40) hx hb hts hinwsX80 hown hK hP 0 rfl rfl 18 (by decide) (hts (.fieldLink RX8 56 "HeliokeepModel" "firm" "[I") (List.mem_of_getElem? (i := 2) rfl)) (fun _ h9 => h9) rfl dX8_sells_34 ?_
      refine lv_aload_n hx hb dX8_sells_37 rfl (lv_at hl 3 rfl) ?_
      refine va_get (D := G) (ci := 9) (v := zi vNow) (C := RX8) (T := TX8) (N := 40) hx hb hts hinwsX80 hown hK hP 0 rfl rfl 20 (by decide) (hts (.fieldLink RX8 108 "HeliokeepModel" "now" "I") (List.mem_of_getElem? (i := 3) rfl)) (fun _ h9 => h9) rfl dX8_sells_38 ?_
      refine hz_bipush hx hb dX8_sells_41 (by decide) ?_
      refine hz_irem hx hb dX8_sells_43 (by omega) ?_
      refine hz_iald (f := vFirm) hx hb hK hP 16 0 rfl rfl (Nat.le_of_ble_eq_true rfl) (by omega) dX8_sells_44 ?_
      have q3 := hFirm (vNow % 24)
      refine lv_istore (lv' := [(5, zi (vFirm (vNow % 24))), (4, zi ((made - 0) + 0)), (3, zi 0), (2, zi 0), (0, .ref (ad 0)), (1, zi made)]) hx hb dX8_sells_45 hl (by decide) rfl (fun ls hl => ?_)
      refine lv_iload hx hb dX8_sells_47 (lv_at hl 1 rfl) ?_
      refine lv_iload hx hb dX8_sells_49 (lv_at hl 0 rfl) ?_
      refine hz_icmp_ge (tgt := 59) hx hb dX8_sells_51 (by decide) (by omega) (fun c4 => ?_) (fun c4 => ?_)
      · refine lv_iload hx hb dX8_sells_59 (lv_at hl 0 rfl) ?_
        refine lv_istore (lv' := [(6, zi (vFirm (vNow % 24))), (5, zi (vFirm (vNow % 24))), (4, zi ((made - 0) + 0)), (3, zi 0), (2, zi 0), (0, .ref (ad 0)), (1, zi made)]) hx hb dX8_sells_61 hl (by decide) rfl (fun ls hl => ?_)
        refine lv_aload_n hx hb dX8_sells_63 rfl (lv_at hl 5 rfl) ?_
        refine va_get (D := G) (ci := 9) (v := .ref (ad 17)) (C := RX8) (T := TX8) (N := 40) hx hb hts hinwsX80 hown hK hP 0 rfl rfl 19 (by decide) (hts (.fieldLink RX8 59 "HeliokeepModel" "sums" "[J") (List.mem_of_getElem? (i := 4) rfl)) (fun _ h9 => h9) rfl dX8_sells_64 ?_
        refine hz_bipush hx hb dX8_sells_67 (by decide) ?_
        refine lv_dup2_11 hx hb dX8_sells_69 rfl rfl ?_
        refine hz_lald (f := vSums) hx hb hK hP 17 1 rfl rfl (Nat.le_of_ble_eq_true rfl) (by omega) dX8_sells_70 ?_
        refine lv_iload_n hx hb dX8_sells_71 rfl (lv_at hl 4 rfl) ?_
        refine hz_i2l hx hb dX8_sells_72 (by omega) ?_
        refine hz_ladd hx hb dX8_sells_73 ?_
        refine hz_last (f := vSums) hx hb hK hP hD hS 17 1 rfl rfl (Nat.le_of_ble_eq_true rfl) (by omega) dX8_sells_74 (fun H locs hP hD hS => ?_)
        have hP : va_P G vwCl (mW ad y vThrown vN vC vNow vHaze vCold vHot vPipe vDeg vThaw vTrc vTurb vLeft vLoad vWater vTrips vMissed vBRow vBSum vCell vDirt vAim vErr vCor vBrk vTop vLm vRows vCols vDown vRight vBound vStrain vPrice vFirm (upZ vSums 7 ((vSums 7) + 0)) vRays vFalls vSom vHad) H := hP
        have hD : va_D A (mW ad y vThrown vN vC vNow vHaze vCold vHot vPipe vDeg vThaw vTrc vTurb vLeft vLoad vWater vTrips vMissed vBRow vBSum vCell vDirt vAim vErr vCor vBrk vTop vLm vRows vCols vDown vRight vBound vStrain vPrice vFirm (upZ vSums 7 ((vSums 7) + 0)) vRays vFalls vSom vHad) := hD
        refine lv_aload_n hx hb dX8_sells_75 rfl (lv_at hl 5 rfl) ?_
        refine va_get (D := G) (ci := 9) (v := .ref (ad 17)) (C := RX8) (T := TX8) (N := 40) hx hb hts hinwsX80 hown hK hP 0 rfl rfl 19 (by decide) (hts (.fieldLink RX8 59 "HeliokeepModel" "sums" "[J") (List.mem_of_getElem? (i := 4) rfl)) (fun _ h9 => h9) rfl dX8_sells_76 ?_
        refine hz_bipush hx hb dX8_sells_79 (by decide) ?_
        refine lv_dup2_11 hx hb dX8_sells_81 rfl rfl ?_
        refine hz_lald (f := (upZ vSums 7 ((vSums 7) + 0))) hx hb hK hP 17 1 rfl rfl (Nat.le_of_ble_eq_true rfl) (by omega) dX8_sells_82 ?_
        refine lv_iload_n hx hb dX8_sells_83 rfl (lv_at hl 3 rfl) ?_
        refine hz_i2l hx hb dX8_sells_84 (by omega) ?_
        refine hz_ladd hx hb dX8_sells_85 ?_
        refine hz_last (f := (upZ vSums 7 ((vSums 7) + 0))) hx hb hK hP hD hS 17 1 rfl rfl (Nat.le_of_ble_eq_true rfl) (by omega) dX8_sells_86 (fun H locs hP hD hS => ?_)
        have hP : va_P G vwCl (mW ad y vThrown vN vC vNow vHaze vCold vHot vPipe vDeg vThaw vTrc vTurb vLeft vLoad vWater vTrips vMissed vBRow vBSum vCell vDirt vAim vErr vCor vBrk vTop vLm vRows vCols vDown vRight vBound vStrain vPrice vFirm (upZ (upZ vSums 7 ((vSums 7) + 0)) 8 (((upZ vSums 7 ((vSums 7) + 0)) 8) + 0)) vRays vFalls vSom vHad) H := hP
        have hD : va_D A (mW ad y vThrown vN vC vNow vHaze vCold vHot vPipe vDeg vThaw vTrc vTurb vLeft vLoad vWater vTrips vMissed vBRow vBSum vCell vDirt vAim vErr vCor vBrk vTop vLm vRows vCols vDown vRight vBound vStrain vPrice vFirm (upZ (upZ vSums 7 ((vSums 7) + 0)) 8 (((upZ vSums 7 ((vSums 7) + 0)) 8) + 0)) vRays vFalls vSom vHad) := hD
        refine lv_aload_n hx hb dX8_sells_87 rfl (lv_at hl 5 rfl) ?_
        refine va_get (D := G) (ci := 9) (v := .ref (ad 17)) (C := RX8) (T := TX8) (N := 40) hx hb hts hinwsX80 hown hK hP 0 rfl rfl 19 (by decide) (hts (.fieldLink RX8 59 "HeliokeepModel" "sums" "[J") (List.mem_of_getElem? (i := 4) rfl)) (fun _ h9 => h9) rfl dX8_sells_88 ?_
        refine hz_bipush hx hb dX8_sells_91 (by decide) ?_
        refine lv_dup2_11 hx hb dX8_sells_93 rfl rfl ?_
        refine hz_lald (f := (upZ (upZ vSums 7 ((vSums 7) + 0)) 8 (((upZ vSums 7 ((vSums 7) + 0)) 8) + 0))) hx hb hK hP 17 1 rfl rfl (Nat.le_of_ble_eq_true rfl) (by omega) dX8_sells_94 ?_
        refine lv_iload hx hb dX8_sells_95 (lv_at hl 0 rfl) ?_
        refine hz_i2l hx hb dX8_sells_97 (by omega) ?_
        refine hz_ladd hx hb dX8_sells_98 ?_
        refine hz_last (f := (upZ (upZ vSums 7 ((vSums 7) + 0)) 8 (((upZ vSums 7 ((vSums 7) + 0)) 8) + 0))) hx hb hK hP hD hS 17 1 rfl rfl (Nat.le_of_ble_eq_true rfl) (by omega) dX8_sells_99 (fun H locs hP hD hS => ?_)
        have hP : va_P G vwCl (mW ad y vThrown vN vC vNow vHaze vCold vHot vPipe vDeg vThaw vTrc vTurb vLeft vLoad vWater vTrips vMissed vBRow vBSum vCell vDirt vAim vErr vCor vBrk vTop vLm vRows vCols vDown vRight vBound vStrain vPrice vFirm (upZ (upZ (upZ vSums 7 ((vSums 7) + 0)) 8 (((upZ vSums 7 ((vSums 7) + 0)) 8) + 0)) 9 (((upZ (upZ vSums 7 ((vSums 7) + 0)) 8 (((upZ vSums 7 ((vSums 7) + 0)) 8) + 0)) 9) + (vFirm (vNow % 24)))) vRays vFalls vSom vHad) H := hP
        have hD : va_D A (mW ad y vThrown vN vC vNow vHaze vCold vHot vPipe vDeg vThaw vTrc vTurb vLeft vLoad vWater vTrips vMissed vBRow vBSum vCell vDirt vAim vErr vCor vBrk vTop vLm vRows vCols vDown vRight vBound vStrain vPrice vFirm (upZ (upZ (upZ vSums 7 ((vSums 7) + 0)) 8 (((upZ vSums 7 ((vSums 7) + 0)) 8) + 0)) 9 (((upZ (upZ vSums 7 ((vSums 7) + 0)) 8 (((upZ vSums 7 ((vSums 7) + 0)) 8) + 0)) 9) + (vFirm (vNow % 24)))) vRays vFalls vSom vHad) := hD
        refine lv_aload_n hx hb dX8_sells_100 rfl (lv_at hl 5 rfl) ?_
        refine va_get (D := G) (ci := 9) (v := .ref (ad 17)) (C := RX8) (T := TX8) (N := 40) hx hb hts hinwsX80 hown hK hP 0 rfl rfl 19 (by decide) (hts (.fieldLink RX8 59 "HeliokeepModel" "sums" "[J") (List.mem_of_getElem? (i := 4) rfl)) (fun _ h9 => h9) rfl dX8_sells_101 ?_
        refine hz_bipush hx hb dX8_sells_104 (by decide) ?_
        refine lv_dup2_11 hx hb dX8_sells_106 rfl rfl ?_
        refine hz_lald (f := (upZ (upZ (upZ vSums 7 ((vSums 7) + 0)) 8 (((upZ vSums 7 ((vSums 7) + 0)) 8) + 0)) 9 (((upZ (upZ vSums 7 ((vSums 7) + 0)) 8 (((upZ vSums 7 ((vSums 7) + 0)) 8) + 0)) 9) + (vFirm (vNow % 24))))) hx hb hK hP 17 1 rfl rfl (Nat.le_of_ble_eq_true rfl) (by omega) dX8_sells_107 ?_
        refine lv_iload hx hb dX8_sells_108 (lv_at hl 1 rfl) ?_
        refine lv_iload hx hb dX8_sells_110 (lv_at hl 0 rfl) ?_
        refine hz_isub hx hb dX8_sells_112 ?_
        refine hz_i2l hx hb dX8_sells_113 (by omega) ?_
        refine hz_ladd hx hb dX8_sells_114 ?_
        refine hz_topl (fun z5 e6 => ?_)
        refine hz_last (f := (upZ (upZ (upZ vSums 7 ((vSums 7) + 0)) 8 (((upZ vSums 7 ((vSums 7) + 0)) 8) + 0)) 9 (((upZ (upZ vSums 7 ((vSums 7) + 0)) 8 (((upZ vSums 7 ((vSums 7) + 0)) 8) + 0)) 9) + (vFirm (vNow % 24))))) hx hb hK hP hD hS 17 1 rfl rfl (Nat.le_of_ble_eq_true rfl) (by omega) dX8_sells_115 (fun H locs hP hD hS => ?_)
        have hP : va_P G vwCl (mW ad y vThrown vN vC vNow vHaze vCold vHot vPipe vDeg vThaw vTrc vTurb vLeft vLoad vWater vTrips vMissed vBRow vBSum vCell vDirt vAim vErr vCor vBrk vTop vLm vRows vCols vDown vRight vBound vStrain vPrice vFirm (upZ (upZ (upZ (upZ vSums 7 ((vSums 7) + 0)) 8 (((upZ vSums 7 ((vSums 7) + 0)) 8) + 0)) 9 (((upZ (upZ vSums 7 ((vSums 7) + 0)) 8 (((upZ vSums 7 ((vSums 7) + 0)) 8) + 0)) 9) + (vFirm (vNow % 24)))) 10 z5) vRays vFalls vSom vHad) H := hP
        have hD : va_D A (mW ad y vThrown vN vC vNow vHaze vCold vHot vPipe vDeg vThaw vTrc vTurb vLeft vLoad vWater vTrips vMissed vBRow vBSum vCell vDirt vAim vErr vCor vBrk vTop vLm vRows vCols vDown vRight vBound vStrain vPrice vFirm (upZ (upZ (upZ (upZ vSums 7 ((vSums 7) + 0)) 8 (((upZ vSums 7 ((vSums 7) + 0)) 8) + 0)) 9 (((upZ (upZ vSums 7 ((vSums 7) + 0)) 8 (((upZ vSums 7 ((vSums 7) + 0)) 8) + 0)) 9) + (vFirm (vNow % 24)))) 10 z5) vRays vFalls vSom vHad) := hD
        refine lv_aload_n hx hb dX8_sells_116 rfl (lv_at hl 5 rfl) ?_
        refine va_get (D := G) (ci := 9) (v := .ref (ad 17)) (C := RX8) (T := TX8) (N := 40) hx hb hts hinwsX80 hown hK hP 0 rfl rfl 19 (by decide) (hts (.fieldLink RX8 59 "HeliokeepModel" "sums" "[J") (List.mem_of_getElem? (i := 4) rfl)) (fun _ h9 => h9) rfl dX8_sells_117 ?_
        refine hz_bipush hx hb dX8_sells_120 (by decide) ?_
        refine lv_dup2_11 hx hb dX8_sells_122 rfl rfl ?_
        refine hz_lald (f := (upZ (upZ (upZ (upZ vSums 7 ((vSums 7) + 0)) 8 (((upZ vSums 7 ((vSums 7) + 0)) 8) + 0)) 9 (((upZ (upZ vSums 7 ((vSums 7) + 0)) 8 (((upZ vSums 7 ((vSums 7) + 0)) 8) + 0)) 9) + (vFirm (vNow % 24)))) 10 z5)) hx hb hK hP 17 1 rfl rfl (Nat.le_of_ble_eq_true rfl) (by omega) dX8_sells_123 ?_
        refine lv_iload hx hb dX8_sells_124 (lv_at hl 2 rfl) ?_
        refine lv_iload hx hb dX8_sells_126 (lv_at hl 0 rfl) ?_
        refine hz_isub hx hb dX8_sells_128 ?_
        refine hz_i2l hx hb dX8_sells_129 (by omega) ?_
        refine hz_ladd hx hb dX8_sells_130 ?_
        refine hz_topl (fun z7 e8 => ?_)
        refine hz_last (f := (upZ (upZ (upZ (upZ vSums 7 ((vSums 7) + 0)) 8 (((upZ vSums 7 ((vSums 7) + 0)) 8) + 0)) 9 (((upZ (upZ vSums 7 ((vSums 7) + 0)) 8 (((upZ vSums 7 ((vSums 7) + 0)) 8) + 0)) 9) + (vFirm (vNow % 24)))) 10 z5)) hx hb hK hP hD hS 17 1 rfl rfl (Nat.le_of_ble_eq_true rfl) (by omega) dX8_sells_131 (fun H locs hP hD hS => ?_)
        have hP : va_P G vwCl (mW ad y vThrown vN vC vNow vHaze vCold vHot vPipe vDeg vThaw vTrc vTurb vLeft vLoad vWater vTrips vMissed vBRow vBSum vCell vDirt vAim vErr vCor vBrk vTop vLm vRows vCols vDown vRight vBound vStrain vPrice vFirm (upZ (upZ (upZ (upZ (upZ vSums 7 ((vSums 7) + 0)) 8 (((upZ vSums 7 ((vSums 7) + 0)) 8) + 0)) 9 (((upZ (upZ vSums 7 ((vSums 7) + 0)) 8 (((upZ vSums 7 ((vSums 7) + 0)) 8) + 0)) 9) + (vFirm (vNow % 24)))) 10 z5) 11 z7) vRays vFalls vSom vHad) H := hP
        have hD : va_D A (mW ad y vThrown vN vC vNow vHaze vCold vHot vPipe vDeg vThaw vTrc vTurb vLeft vLoad vWater vTrips vMissed vBRow vBSum vCell vDirt vAim vErr vCor vBrk vTop vLm vRows vCols vDown vRight vBound vStrain vPrice vFirm (upZ (upZ (upZ (upZ (upZ vSums 7 ((vSums 7) + 0)) 8 (((upZ vSums 7 ((vSums 7) + 0)) 8) + 0)) 9 (((upZ (upZ vSums 7 ((vSums 7) + 0)) 8 (((upZ vSums 7 ((vSums 7) + 0)) 8) + 0)) 9) + (vFirm (vNow % 24)))) 10 z5) 11 z7) vRays vFalls vSom vHad) := hD
        refine lv_aload_n hx hb dX8_sells_132 rfl (lv_at hl 5 rfl) ?_
        refine va_get (D := G) (ci := 9) (v := .ref (ad 17)) (C := RX8) (T := TX8) (N := 40) hx hb hts hinwsX80 hown hK hP 0 rfl rfl 19 (by decide) (hts (.fieldLink RX8 59 "HeliokeepModel" "sums" "[J") (List.mem_of_getElem? (i := 4) rfl)) (fun _ h9 => h9) rfl dX8_sells_133 ?_
        refine hz_bipush hx hb dX8_sells_136 (by decide) ?_
        refine lv_dup2_11 hx hb dX8_sells_138 rfl rfl ?_
        refine hz_lald (f := (upZ (upZ (upZ (upZ (upZ vSums 7 ((vSums 7) + 0)) 8 (((upZ vSums 7 ((vSums 7) + 0)) 8) + 0)) 9 (((upZ (upZ vSums 7 ((vSums 7) + 0)) 8 (((upZ vSums 7 ((vSums 7) + 0)) 8) + 0)) 9) + (vFirm (vNow % 24)))) 10 z5) 11 z7)) hx hb hK hP 17 1 rfl rfl (Nat.le_of_ble_eq_true rfl) (by omega) dX8_sells_139 ?_
        refine lv_iload hx hb dX8_sells_140 (lv_at hl 2 rfl) ?_
        refine lv_iload hx hb dX8_sells_142 (lv_at hl 0 rfl) ?_
        refine hz_isub hx hb dX8_sells_144 ?_
        refine hz_i2l hx hb dX8_sells_145 (by omega) ?_
        refine lv_aload_n hx hb dX8_sells_146 rfl (lv_at hl 5 rfl) ?_
        refine va_get (D := G) (ci := 9) (v := .ref (ad 15)) (C := RX8) (T := TX8) (N := 40) hx hb hts hinwsX80 hown hK hP 0 rfl rfl 17 (by decide) (hts (.fieldLink RX8 53 "HeliokeepModel" "price" "[I") (List.mem_of_getElem? (i := 5) rfl)) (fun _ h9 => h9) rfl dX8_sells_147 ?_
        refine lv_aload_n hx hb dX8_sells_150 rfl (lv_at hl 5 rfl) ?_
        refine va_get (D := G) (ci := 9) (v := zi vNow) (C := RX8) (T := TX8) (N := 40) hx hb hts hinwsX80 hown hK hP 0 rfl rfl 20 (by decide) (hts (.fieldLink RX8 108 "HeliokeepModel" "now" "I") (List.mem_of_getElem? (i := 3) rfl)) (fun _ h9 => h9) rfl dX8_sells_151 ?_
        refine hz_bipush hx hb dX8_sells_154 (by decide) ?_
        refine hz_irem hx hb dX8_sells_156 (by omega) ?_
        refine hz_iald (f := vPrice) hx hb hK hP 15 0 rfl rfl (Nat.le_of_ble_eq_true rfl) (by omega) dX8_sells_157 ?_
        have q9 := hPrice (vNow % 24)
        refine hz_i2l hx hb dX8_sells_158 (by omega) ?_
        refine hz_lmul hx hb dX8_sells_159 ?_
        refine hz_ladd hx hb dX8_sells_160 ?_
        refine hz_topl (fun z10 e11 => ?_)
        refine hz_last (f := (upZ (upZ (upZ (upZ (upZ vSums 7 ((vSums 7) + 0)) 8 (((upZ vSums 7 ((vSums 7) + 0)) 8) + 0)) 9 (((upZ (upZ vSums 7 ((vSums 7) + 0)) 8 (((upZ vSums 7 ((vSums 7) + 0)) 8) + 0)) 9) + (vFirm (vNow % 24)))) 10 z5) 11 z7)) hx hb hK hP hD hS 17 1 rfl rfl (Nat.le_of_ble_eq_true rfl) (by omega) dX8_sells_161 (fun H locs hP hD hS => ?_)
        have hP : va_P G vwCl (mW ad y vThrown vN vC vNow vHaze vCold vHot vPipe vDeg vThaw vTrc vTurb vLeft vLoad vWater vTrips vMissed vBRow vBSum vCell vDirt vAim vErr vCor vBrk vTop vLm vRows vCols vDown vRight vBound vStrain vPrice vFirm (upZ (upZ (upZ (upZ (upZ (upZ vSums 7 ((vSums 7) + 0)) 8 (((upZ vSums 7 ((vSums 7) + 0)) 8) + 0)) 9 (((upZ (upZ vSums 7 ((vSums 7) + 0)) 8 (((upZ vSums 7 ((vSums 7) + 0)) 8) + 0)) 9) + (vFirm (vNow % 24)))) 10 z5) 11 z7) 12 z10) vRays vFalls vSom vHad) H := hP
        have hD : va_D A (mW ad y vThrown vN vC vNow vHaze vCold vHot vPipe vDeg vThaw vTrc vTurb vLeft vLoad vWater vTrips vMissed vBRow vBSum vCell vDirt vAim vErr vCor vBrk vTop vLm vRows vCols vDown vRight vBound vStrain vPrice vFirm (upZ (upZ (upZ (upZ (upZ (upZ vSums 7 ((vSums 7) + 0)) 8 (((upZ vSums 7 ((vSums 7) + 0)) 8) + 0)) 9 (((upZ (upZ vSums 7 ((vSums 7) + 0)) 8 (((upZ vSums 7 ((vSums 7) + 0)) 8) + 0)) 9) + (vFirm (vNow % 24)))) 10 z5) 11 z7) 12 z10) vRays vFalls vSom vHad) := hD
        exact W.vret hx hb hr (fun t ht hW => ⟨⟨((upZ (upZ (upZ (upZ (upZ (upZ vSums 7 ((vSums 7) + 0)) 8 (((upZ vSums 7 ((vSums 7) + 0)) 8) + 0)) 9 (((upZ (upZ vSums 7 ((vSums 7) + 0)) 8 (((upZ vSums 7 ((vSums 7) + 0)) 8) + 0)) 9) + (vFirm (vNow % 24)))) 10 z5) 11 z7) 12 z10)), rfl, (show (upZ (upZ (upZ (upZ (upZ (upZ vSums 7 ((vSums 7) + 0)) 8 (((upZ vSums 7 ((vSums 7) + 0)) 8) + 0)) 9 (((upZ (upZ vSums 7 ((vSums 7) + 0)) 8 (((upZ vSums 7 ((vSums 7) + 0)) 8) + 0)) 9) + (vFirm (vNow % 24)))) 10 z5) 11 z7) 12 z10) = slZ vSums (toZ vTrc) (boZ vTrc made) (made - toZ vTrc + boZ vTrc made) (dlZ vTrc made (vFirm (vNow % 24))) (vFirm (vNow % 24)) (vPrice (vNow % 24)) from by
          have e1 : toZ vTrc = (0 : Int) := by unfold toZ; omega
          have e2 : boZ vTrc made = (0 : Int) := by unfold boZ; omega
          have e3 : made - toZ vTrc + boZ vTrc made = ((made - 0) + 0) := by rw [e1, e2]
          have e4 : dlZ vTrc made (vFirm (vNow % 24)) = (vFirm (vNow % 24)) := by unfold dlZ; omega
          rw [e3, e4, e2, e1]
          subst_vars
          rfl), hz_at hP ht⟩, hS.F ht⟩) hS.2.2 dX8_sells_162
      · refine lv_iload hx hb dX8_sells_54 (lv_at hl 1 rfl) ?_
        refine lv_goto (tgt := 61) hx hb dX8_sells_56 (by decide) ?_
        refine lv_istore (lv' := [(6, zi ((made - 0) + 0)), (5, zi (vFirm (vNow % 24))), (4, zi ((made - 0) + 0)), (3, zi 0), (2, zi 0), (0, .ref (ad 0)), (1, zi made)]) hx hb dX8_sells_61 hl (by decide) rfl (fun ls hl => ?_)
        refine lv_aload_n hx hb dX8_sells_63 rfl (lv_at hl 5 rfl) ?_
        refine va_get (D := G) (ci := 9) (v := .ref (ad 17)) (C := RX8) (T := TX8) (N := 40) hx hb hts hinwsX80 hown hK hP 0 rfl rfl 19 (by decide) (hts (.fieldLink RX8 59 "HeliokeepModel" "sums" "[J") (List.mem_of_getElem? (i := 4) rfl)) (fun _ h9 => h9) rfl dX8_sells_64 ?_
        refine hz_bipush hx hb dX8_sells_67 (by decide) ?_
        refine lv_dup2_11 hx hb dX8_sells_69 rfl rfl ?_
        refine hz_lald (f := vSums) hx hb hK hP 17 1 rfl rfl (Nat.le_of_ble_eq_true rfl) (by omega) dX8_sells_70 ?_
        refine lv_iload_n hx hb dX8_sells_71 rfl (lv_at hl 4 rfl) ?_
        refine hz_i2l hx hb dX8_sells_72 (by omega) ?_
        refine hz_ladd hx hb dX8_sells_73 ?_
        refine hz_last (f := vSums) hx hb hK hP hD hS 17 1 rfl rfl (Nat.le_of_ble_eq_true rfl) (by omega) dX8_sells_74 (fun H locs hP hD hS => ?_)
        have hP : va_P G vwCl (mW ad y vThrown vN vC vNow vHaze vCold vHot vPipe vDeg vThaw vTrc vTurb vLeft vLoad vWater vTrips vMissed vBRow vBSum vCell vDirt vAim vErr vCor vBrk vTop vLm vRows vCols vDown vRight vBound vStrain vPrice vFirm (upZ vSums 7 ((vSums 7) + 0)) vRays vFalls vSom vHad) H := hP
        have hD : va_D A (mW ad y vThrown vN vC vNow vHaze vCold vHot vPipe vDeg vThaw vTrc vTurb vLeft vLoad vWater vTrips vMissed vBRow vBSum vCell vDirt vAim vErr vCor vBrk vTop vLm vRows vCols vDown vRight vBound vStrain vPrice vFirm (upZ vSums 7 ((vSums 7) + 0)) vRays vFalls vSom vHad) := hD
        refine lv_aload_n hx hb dX8_sells_75 rfl (lv_at hl 5 rfl) ?_
        refine va_get (D := G) (ci := 9) (v := .ref (ad 17)) (C := RX8) (T := TX8) (N := 40) hx hb hts hinwsX80 hown hK hP 0 rfl rfl 19 (by decide) (hts (.fieldLink RX8 59 "HeliokeepModel" "sums" "[J") (List.mem_of_getElem? (i := 4) rfl)) (fun _ h9 => h9) rfl dX8_sells_76 ?_
        refine hz_bipush hx hb dX8_sells_79 (by decide) ?_
        refine lv_dup2_11 hx hb dX8_sells_81 rfl rfl ?_
        refine hz_lald (f := (upZ vSums 7 ((vSums 7) + 0))) hx hb hK hP 17 1 rfl rfl (Nat.le_of_ble_eq_true rfl) (by omega) dX8_sells_82 ?_
        refine lv_iload_n hx hb dX8_sells_83 rfl (lv_at hl 3 rfl) ?_
        refine hz_i2l hx hb dX8_sells_84 (by omega) ?_
        refine hz_ladd hx hb dX8_sells_85 ?_
        refine hz_last (f := (upZ vSums 7 ((vSums 7) + 0))) hx hb hK hP hD hS 17 1 rfl rfl (Nat.le_of_ble_eq_true rfl) (by omega) dX8_sells_86 (fun H locs hP hD hS => ?_)
        have hP : va_P G vwCl (mW ad y vThrown vN vC vNow vHaze vCold vHot vPipe vDeg vThaw vTrc vTurb vLeft vLoad vWater vTrips vMissed vBRow vBSum vCell vDirt vAim vErr vCor vBrk vTop vLm vRows vCols vDown vRight vBound vStrain vPrice vFirm (upZ (upZ vSums 7 ((vSums 7) + 0)) 8 (((upZ vSums 7 ((vSums 7) + 0)) 8) + 0)) vRays vFalls vSom vHad) H := hP
        have hD : va_D A (mW ad y vThrown vN vC vNow vHaze vCold vHot vPipe vDeg vThaw vTrc vTurb vLeft vLoad vWater vTrips vMissed vBRow vBSum vCell vDirt vAim vErr vCor vBrk vTop vLm vRows vCols vDown vRight vBound vStrain vPrice vFirm (upZ (upZ vSums 7 ((vSums 7) + 0)) 8 (((upZ vSums 7 ((vSums 7) + 0)) 8) + 0)) vRays vFalls vSom vHad) := hD
        refine lv_aload_n hx hb dX8_sells_87 rfl (lv_at hl 5 rfl) ?_
        refine va_get (D := G) (ci := 9) (v := .ref (ad 17)) (C := RX8) (T := TX8) (N := 40) hx hb hts hinwsX80 hown hK hP 0 rfl rfl 19 (by decide) (hts (.fieldLink RX8 59 "HeliokeepModel" "sums" "[J") (List.mem_of_getElem? (i := 4) rfl)) (fun _ h9 => h9) rfl dX8_sells_88 ?_
        refine hz_bipush hx hb dX8_sells_91 (by decide) ?_
        refine lv_dup2_11 hx hb dX8_sells_93 rfl rfl ?_
        refine hz_lald (f := (upZ (upZ vSums 7 ((vSums 7) + 0)) 8 (((upZ vSums 7 ((vSums 7) + 0)) 8) + 0))) hx hb hK hP 17 1 rfl rfl (Nat.le_of_ble_eq_true rfl) (by omega) dX8_sells_94 ?_
        refine lv_iload hx hb dX8_sells_95 (lv_at hl 0 rfl) ?_
        refine hz_i2l hx hb dX8_sells_97 (by omega) ?_
        refine hz_ladd hx hb dX8_sells_98 ?_
        refine hz_last (f := (upZ (upZ vSums 7 ((vSums 7) + 0)) 8 (((upZ vSums 7 ((vSums 7) + 0)) 8) + 0))) hx hb hK hP hD hS 17 1 rfl rfl (Nat.le_of_ble_eq_true rfl) (by omega) dX8_sells_99 (fun H locs hP hD hS => ?_)
        have hP : va_P G vwCl (mW ad y vThrown vN vC vNow vHaze vCold vHot vPipe vDeg vThaw vTrc vTurb vLeft vLoad vWater vTrips vMissed vBRow vBSum vCell vDirt vAim vErr vCor vBrk vTop vLm vRows vCols vDown vRight vBound vStrain vPrice vFirm (upZ (upZ (upZ vSums 7 ((vSums 7) + 0)) 8 (((upZ vSums 7 ((vSums 7) + 0)) 8) + 0)) 9 (((upZ (upZ vSums 7 ((vSums 7) + 0)) 8 (((upZ vSums 7 ((vSums 7) + 0)) 8) + 0)) 9) + ((made - 0) + 0))) vRays vFalls vSom vHad) H := hP
        have hD : va_D A (mW ad y vThrown vN vC vNow vHaze vCold vHot vPipe vDeg vThaw vTrc vTurb vLeft vLoad vWater vTrips vMissed vBRow vBSum vCell vDirt vAim vErr vCor vBrk vTop vLm vRows vCols vDown vRight vBound vStrain vPrice vFirm (upZ (upZ (upZ vSums 7 ((vSums 7) + 0)) 8 (((upZ vSums 7 ((vSums 7) + 0)) 8) + 0)) 9 (((upZ (upZ vSums 7 ((vSums 7) + 0)) 8 (((upZ vSums 7 ((vSums 7) + 0)) 8) + 0)) 9) + ((made - 0) + 0))) vRays vFalls vSom vHad) := hD
        refine lv_aload_n hx hb dX8_sells_100 rfl (lv_at hl 5 rfl) ?_
        refine va_get (D := G) (ci := 9) (v := .ref (ad 17)) (C := RX8) (T := TX8) (N := 40) hx hb hts hinwsX80 hown hK hP 0 rfl rfl 19 (by decide) (hts (.fieldLink RX8 59 "HeliokeepModel" "sums" "[J") (List.mem_of_getElem? (i := 4) rfl)) (fun _ h9 => h9) rfl dX8_sells_101 ?_
        refine hz_bipush hx hb dX8_sells_104 (by decide) ?_
        refine lv_dup2_11 hx hb dX8_sells_106 rfl rfl ?_
        refine hz_lald (f := (upZ (upZ (upZ vSums 7 ((vSums 7) + 0)) 8 (((upZ vSums 7 ((vSums 7) + 0)) 8) + 0)) 9 (((upZ (upZ vSums 7 ((vSums 7) + 0)) 8 (((upZ vSums 7 ((vSums 7) + 0)) 8) + 0)) 9) + ((made - 0) + 0)))) hx hb hK hP 17 1 rfl rfl (Nat.le_of_ble_eq_true rfl) (by omega) dX8_sells_107 ?_
        refine lv_iload hx hb dX8_sells_108 (lv_at hl 1 rfl) ?_
        refine lv_iload hx hb dX8_sells_110 (lv_at hl 0 rfl) ?_
        refine hz_isub hx hb dX8_sells_112 ?_
        refine hz_i2l hx hb dX8_sells_113 (by omega) ?_
        refine hz_ladd hx hb dX8_sells_114 ?_
        refine hz_topl (fun z12 e13 => ?_)
        refine hz_last (f := (upZ (upZ (upZ vSums 7 ((vSums 7) + 0)) 8 (((upZ vSums 7 ((vSums 7) + 0)) 8) + 0)) 9 (((upZ (upZ vSums 7 ((vSums 7) + 0)) 8 (((upZ vSums 7 ((vSums 7) + 0)) 8) + 0)) 9) + ((made - 0) + 0)))) hx hb hK hP hD hS 17 1 rfl rfl (Nat.le_of_ble_eq_true rfl) (by omega) dX8_sells_115 (fun H locs hP hD hS => ?_)
        have hP : va_P G vwCl (mW ad y vThrown vN vC vNow vHaze vCold vHot vPipe vDeg vThaw vTrc vTurb vLeft vLoad vWater vTrips vMissed vBRow vBSum vCell vDirt vAim vErr vCor vBrk vTop vLm vRows vCols vDown vRight vBound vStrain vPrice vFirm (upZ (upZ (upZ (upZ vSums 7 ((vSums 7) + 0)) 8 (((upZ vSums 7 ((vSums 7) + 0)) 8) + 0)) 9 (((upZ (upZ vSums 7 ((vSums 7) + 0)) 8 (((upZ vSums 7 ((vSums 7) + 0)) 8) + 0)) 9) + ((made - 0) + 0))) 10 z12) vRays vFalls vSom vHad) H := hP
        have hD : va_D A (mW ad y vThrown vN vC vNow vHaze vCold vHot vPipe vDeg vThaw vTrc vTurb vLeft vLoad vWater vTrips vMissed vBRow vBSum vCell vDirt vAim vErr vCor vBrk vTop vLm vRows vCols vDown vRight vBound vStrain vPrice vFirm (upZ (upZ (upZ (upZ vSums 7 ((vSums 7) + 0)) 8 (((upZ vSums 7 ((vSums 7) + 0)) 8) + 0)) 9 (((upZ (upZ vSums 7 ((vSums 7) + 0)) 8 (((upZ vSums 7 ((vSums 7) + 0)) 8) + 0)) 9) + ((made - 0) + 0))) 10 z12) vRays vFalls vSom vHad) := hD
        refine lv_aload_n hx hb dX8_sells_116 rfl (lv_at hl 5 rfl) ?_
        refine va_get (D := G) (ci := 9) (v := .ref (ad 17)) (C := RX8) (T := TX8) (N := 40) hx hb hts hinwsX80 hown hK hP 0 rfl rfl 19 (by decide) (hts (.fieldLink RX8 59 "HeliokeepModel" "sums" "[J") (List.mem_of_getElem? (i := 4) rfl)) (fun _ h9 => h9) rfl dX8_sells_117 ?_
        refine hz_bipush hx hb dX8_sells_120 (by decide) ?_
        refine lv_dup2_11 hx hb dX8_sells_122 rfl rfl ?_
        refine hz_lald (f := (upZ (upZ (upZ (upZ vSums 7 ((vSums 7) + 0)) 8 (((upZ vSums 7 ((vSums 7) + 0)) 8) + 0)) 9 (((upZ (upZ vSums 7 ((vSums 7) + 0)) 8 (((upZ vSums 7 ((vSums 7) + 0)) 8) + 0)) 9) + ((made - 0) + 0))) 10 z12)) hx hb hK hP 17 1 rfl rfl (Nat.le_of_ble_eq_true rfl) (by omega) dX8_sells_123 ?_
        refine lv_iload hx hb dX8_sells_124 (lv_at hl 2 rfl) ?_
        refine lv_iload hx hb dX8_sells_126 (lv_at hl 0 rfl) ?_
        refine hz_isub hx hb dX8_sells_128 ?_
        refine hz_i2l hx hb dX8_sells_129 (by omega) ?_
        refine hz_ladd hx hb dX8_sells_130 ?_
        refine hz_topl (fun z14 e15 => ?_)
        refine hz_last (f := (upZ (upZ (upZ (upZ vSums 7 ((vSums 7) + 0)) 8 (((upZ vSums 7 ((vSums 7) + 0)) 8) + 0)) 9 (((upZ (upZ vSums 7 ((vSums 7) + 0)) 8 (((upZ vSums 7 ((vSums 7) + 0)) 8) + 0)) 9) + ((made - 0) + 0))) 10 z12)) hx hb hK hP hD hS 17 1 rfl rfl (Nat.le_of_ble_eq_true rfl) (by omega) dX8_sells_131 (fun H locs hP hD hS => ?_)
        have hP : va_P G vwCl (mW ad y vThrown vN vC vNow vHaze vCold vHot vPipe vDeg vThaw vTrc vTurb vLeft vLoad vWater vTrips vMissed vBRow vBSum vCell vDirt vAim vErr vCor vBrk vTop vLm vRows vCols vDown vRight vBound vStrain vPrice vFirm (upZ (upZ (upZ (upZ (upZ vSums 7 ((vSums 7) + 0)) 8 (((upZ vSums 7 ((vSums 7) + 0)) 8) + 0)) 9 (((upZ (upZ vSums 7 ((vSums 7) + 0)) 8 (((upZ vSums 7 ((vSums 7) + 0)) 8) + 0)) 9) + ((made - 0) + 0))) 10 z12) 11 z14) vRays vFalls vSom vHad) H := hP
        have hD : va_D A (mW ad y vThrown vN vC vNow vHaze vCold vHot vPipe vDeg vThaw vTrc vTurb vLeft vLoad vWater vTrips vMissed vBRow vBSum vCell vDirt vAim vErr vCor vBrk vTop vLm vRows vCols vDown vRight vBound vStrain vPrice vFirm (upZ (upZ (upZ (upZ (upZ vSums 7 ((vSums 7) + 0)) 8 (((upZ vSums 7 ((vSums 7) + 0)) 8) + 0)) 9 (((upZ (upZ vSums 7 ((vSums 7) + 0)) 8 (((upZ vSums 7 ((vSums 7) + 0)) 8) + 0)) 9) + ((made - 0) + 0))) 10 z12) 11 z14) vRays vFalls vSom vHad) := hD
        refine lv_aload_n hx hb dX8_sells_132 rfl (lv_at hl 5 rfl) ?_
        refine va_get (D := G) (ci := 9) (v := .ref (ad 17)) (C := RX8) (T := TX8) (N := 40) hx hb hts hinwsX80 hown hK hP 0 rfl rfl 19 (by decide) (hts (.fieldLink RX8 59 "HeliokeepModel" "sums" "[J") (List.mem_of_getElem? (i := 4) rfl)) (fun _ h9 => h9) rfl dX8_sells_133 ?_
        refine hz_bipush hx hb dX8_sells_136 (by decide) ?_
        refine lv_dup2_11 hx hb dX8_sells_138 rfl rfl ?_
        refine hz_lald (f := (upZ (upZ (upZ (upZ (upZ vSums 7 ((vSums 7) + 0)) 8 (((upZ vSums 7 ((vSums 7) + 0)) 8) + 0)) 9 (((upZ (upZ vSums 7 ((vSums 7) + 0)) 8 (((upZ vSums 7 ((vSums 7) + 0)) 8) + 0)) 9) + ((made - 0) + 0))) 10 z12) 11 z14)) hx hb hK hP 17 1 rfl rfl (Nat.le_of_ble_eq_true rfl) (by omega) dX8_sells_139 ?_
        refine lv_iload hx hb dX8_sells_140 (lv_at hl 2 rfl) ?_
        refine lv_iload hx hb dX8_sells_142 (lv_at hl 0 rfl) ?_
        refine hz_isub hx hb dX8_sells_144 ?_
        refine hz_i2l hx hb dX8_sells_145 (by omega) ?_
        refine lv_aload_n hx hb dX8_sells_146 rfl (lv_at hl 5 rfl) ?_
        refine va_get (D := G) (ci := 9) (v := .ref (ad 15)) (C := RX8) (T := TX8) (N := 40) hx hb hts hinwsX80 hown hK hP 0 rfl rfl 17 (by decide) (hts (.fieldLink RX8 53 "HeliokeepModel" "price" "[I") (List.mem_of_getElem? (i := 5) rfl)) (fun _ h9 => h9) rfl dX8_sells_147 ?_
        refine lv_aload_n hx hb dX8_sells_150 rfl (lv_at hl 5 rfl) ?_
        refine va_get (D := G) (ci := 9) (v := zi vNow) (C := RX8) (T := TX8) (N := 40) hx hb hts hinwsX80 hown hK hP 0 rfl rfl 20 (by decide) (hts (.fieldLink RX8 108 "HeliokeepModel" "now" "I") (List.mem_of_getElem? (i := 3) rfl)) (fun _ h9 => h9) rfl dX8_sells_151 ?_
        refine hz_bipush hx hb dX8_sells_154 (by decide) ?_
        refine hz_irem hx hb dX8_sells_156 (by omega) ?_
        refine hz_iald (f := vPrice) hx hb hK hP 15 0 rfl rfl (Nat.le_of_ble_eq_true rfl) (by omega) dX8_sells_157 ?_
        have q16 := hPrice (vNow % 24)
        refine hz_i2l hx hb dX8_sells_158 (by omega) ?_
        refine hz_lmul hx hb dX8_sells_159 ?_
        refine hz_ladd hx hb dX8_sells_160 ?_
        refine hz_topl (fun z17 e18 => ?_)
        refine hz_last (f := (upZ (upZ (upZ (upZ (upZ vSums 7 ((vSums 7) + 0)) 8 (((upZ vSums 7 ((vSums 7) + 0)) 8) + 0)) 9 (((upZ (upZ vSums 7 ((vSums 7) + 0)) 8 (((upZ vSums 7 ((vSums 7) + 0)) 8) + 0)) 9) + ((made - 0) + 0))) 10 z12) 11 z14)) hx hb hK hP hD hS 17 1 rfl rfl (Nat.le_of_ble_eq_true rfl) (by omega) dX8_sells_161 (fun H locs hP hD hS => ?_)
        have hP : va_P G vwCl (mW ad y vThrown vN vC vNow vHaze vCold vHot vPipe vDeg vThaw vTrc vTurb vLeft vLoad vWater vTrips vMissed vBRow vBSum vCell vDirt vAim vErr vCor vBrk vTop vLm vRows vCols vDown vRight vBound vStrain vPrice vFirm (upZ (upZ (upZ (upZ (upZ (upZ vSums 7 ((vSums 7) + 0)) 8 (((upZ vSums 7 ((vSums 7) + 0)) 8) + 0)) 9 (((upZ (upZ vSums 7 ((vSums 7) + 0)) 8 (((upZ vSums 7 ((vSums 7) + 0)) 8) + 0)) 9) + ((made - 0) + 0))) 10 z12) 11 z14) 12 z17) vRays vFalls vSom vHad) H := hP
        have hD : va_D A (mW ad y vThrown vN vC vNow vHaze vCold vHot vPipe vDeg vThaw vTrc vTurb vLeft vLoad vWater vTrips vMissed vBRow vBSum vCell vDirt vAim vErr vCor vBrk vTop vLm vRows vCols vDown vRight vBound vStrain vPrice vFirm (upZ (upZ (upZ (upZ (upZ (upZ vSums 7 ((vSums 7) + 0)) 8 (((upZ vSums 7 ((vSums 7) + 0)) 8) + 0)) 9 (((upZ (upZ vSums 7 ((vSums 7) + 0)) 8 (((upZ vSums 7 ((vSums 7) + 0)) 8) + 0)) 9) + ((made - 0) + 0))) 10 z12) 11 z14) 12 z17) vRays vFalls vSom vHad) := hD
        exact W.vret hx hb hr (fun t ht hW => ⟨⟨((upZ (upZ (upZ (upZ (upZ (upZ vSums 7 ((vSums 7) + 0)) 8 (((upZ vSums 7 ((vSums 7) + 0)) 8) + 0)) 9 (((upZ (upZ vSums 7 ((vSums 7) + 0)) 8 (((upZ vSums 7 ((vSums 7) + 0)) 8) + 0)) 9) + ((made - 0) + 0))) 10 z12) 11 z14) 12 z17)), rfl, (show (upZ (upZ (upZ (upZ (upZ (upZ vSums 7 ((vSums 7) + 0)) 8 (((upZ vSums 7 ((vSums 7) + 0)) 8) + 0)) 9 (((upZ (upZ vSums 7 ((vSums 7) + 0)) 8 (((upZ vSums 7 ((vSums 7) + 0)) 8) + 0)) 9) + ((made - 0) + 0))) 10 z12) 11 z14) 12 z17) = slZ vSums (toZ vTrc) (boZ vTrc made) (made - toZ vTrc + boZ vTrc made) (dlZ vTrc made (vFirm (vNow % 24))) (vFirm (vNow % 24)) (vPrice (vNow % 24)) from by
          have e1 : toZ vTrc = (0 : Int) := by unfold toZ; omega
          have e2 : boZ vTrc made = (0 : Int) := by unfold boZ; omega
          have e3 : made - toZ vTrc + boZ vTrc made = ((made - 0) + 0) := by rw [e1, e2]
          have e4 : dlZ vTrc made (vFirm (vNow % 24)) = ((made - 0) + 0) := by unfold dlZ; omega
          rw [e3, e4, e2, e1]
          subst_vars
          rfl), hz_at hP ht⟩, hS.F ht⟩) hS.2.2 dX8_sells_162
    · refine lv_iload_n hx hb dX8_sells_18 rfl (lv_at hl 0 rfl) ?_
      refine lv_iload_n hx hb dX8_sells_19 rfl (lv_at hl 2 rfl) ?_
      refine hz_isub hx hb dX8_sells_20 ?_
      refine lv_goto (tgt := 25) hx hb dX8_sells_21 (by decide) ?_
      refine lv_istore_n (lv' := [(3, zi (0 - made)), (2, zi 0), (0, .ref (ad 0)), (1, zi made)]) hx hb dX8_sells_25 rfl hl (by decide) rfl (fun ls hl => ?_)
      refine lv_iload_n hx hb dX8_sells_26 rfl (lv_at hl 3 rfl) ?_
      refine lv_iload_n hx hb dX8_sells_27 rfl (lv_at hl 1 rfl) ?_
      refine hz_isub hx hb dX8_sells_28 ?_
      refine lv_iload_n hx hb dX8_sells_29 rfl (lv_at hl 0 rfl) ?_
      refine hz_iadd hx hb dX8_sells_30 ?_
      refine lv_istore (lv' := [(4, zi ((made - 0) + (0 - made))), (3, zi (0 - made)), (2, zi 0), (0, .ref (ad 0)), (1, zi made)]) hx hb dX8_sells_31 hl (by decide) rfl (fun ls hl => ?_)
      refine lv_aload_n hx hb dX8_sells_33 rfl (lv_at hl 3 rfl) ?_
      refine va_get (D := G) (ci := 9) (v := .ref (ad 16)) (C := RX8) (T := TX8) (N := 40) hx hb hts hinwsX80 hown hK hP 0 rfl rfl 18 (by decide) (hts (.fieldLink RX8 56 "HeliokeepModel" "firm" "[I") (List.mem_of_getElem? (i := 2) rfl)) (fun _ h9 => h9) rfl dX8_sells_34 ?_
      refine lv_aload_n hx hb dX8_sells_37 rfl (lv_at hl 3 rfl) ?_
      refine va_get (D := G) (ci := 9) (v := zi vNow) (C := RX8) (T := TX8) (N := 40) hx hb hts hinwsX80 hown hK hP 0 rfl rfl 20 (by decide) (hts (.fieldLink RX8 108 "HeliokeepModel" "now" "I") (List.mem_of_getElem? (i := 3) rfl)) (fun _ h9 => h9) rfl dX8_sells_38 ?_
      refine hz_bipush hx hb dX8_sells_41 (by decide) ?_
      refine hz_irem hx hb dX8_sells_43 (by omega) ?_
      refine hz_iald (f := vFirm) hx hb hK hP 16 0 rfl rfl (Nat.le_of_ble_eq_true rfl) (by omega) dX8_sells_44 ?_
      have q19 := hFirm (vNow % 24)
      refine lv_istore (lv' := [(5, zi (vFirm (vNow % 24))), (4, zi ((made - 0) + (0 - made))), (3, zi (0 - made)), (2, zi 0), (0, .ref (ad 0)), (1, zi made)]) hx hb dX8_sells_45 hl (by decide) rfl (fun ls hl => ?_)
      refine lv_iload hx hb dX8_sells_47 (lv_at hl 1 rfl) ?_
      refine lv_iload hx hb dX8_sells_49 (lv_at hl 0 rfl) ?_
      refine hz_icmp_ge (tgt := 59) hx hb dX8_sells_51 (by decide) (by omega) (fun c20 => ?_) (fun c20 => ?_)
      · refine lv_iload hx hb dX8_sells_59 (lv_at hl 0 rfl) ?_
        refine lv_istore (lv' := [(6, zi (vFirm (vNow % 24))), (5, zi (vFirm (vNow % 24))), (4, zi ((made - 0) + (0 - made))), (3, zi (0 - made)), (2, zi 0), (0, .ref (ad 0)), (1, zi made)]) hx hb dX8_sells_61 hl (by decide) rfl (fun ls hl => ?_)
        refine lv_aload_n hx hb dX8_sells_63 rfl (lv_at hl 5 rfl) ?_
        refine va_get (D := G) (ci := 9) (v := .ref (ad 17)) (C := RX8) (T := TX8) (N := 40) hx hb hts hinwsX80 hown hK hP 0 rfl rfl 19 (by decide) (hts (.fieldLink RX8 59 "HeliokeepModel" "sums" "[J") (List.mem_of_getElem? (i := 4) rfl)) (fun _ h9 => h9) rfl dX8_sells_64 ?_
        refine hz_bipush hx hb dX8_sells_67 (by decide) ?_
        refine lv_dup2_11 hx hb dX8_sells_69 rfl rfl ?_
        refine hz_lald (f := vSums) hx hb hK hP 17 1 rfl rfl (Nat.le_of_ble_eq_true rfl) (by omega) dX8_sells_70 ?_
        refine lv_iload_n hx hb dX8_sells_71 rfl (lv_at hl 4 rfl) ?_
        refine hz_i2l hx hb dX8_sells_72 (by omega) ?_
        refine hz_ladd hx hb dX8_sells_73 ?_
        refine hz_last (f := vSums) hx hb hK hP hD hS 17 1 rfl rfl (Nat.le_of_ble_eq_true rfl) (by omega) dX8_sells_74 (fun H locs hP hD hS => ?_)
        have hP : va_P G vwCl (mW ad y vThrown vN vC vNow vHaze vCold vHot vPipe vDeg vThaw vTrc vTurb vLeft vLoad vWater vTrips vMissed vBRow vBSum vCell vDirt vAim vErr vCor vBrk vTop vLm vRows vCols vDown vRight vBound vStrain vPrice vFirm (upZ vSums 7 ((vSums 7) + 0)) vRays vFalls vSom vHad) H := hP
        have hD : va_D A (mW ad y vThrown vN vC vNow vHaze vCold vHot vPipe vDeg vThaw vTrc vTurb vLeft vLoad vWater vTrips vMissed vBRow vBSum vCell vDirt vAim vErr vCor vBrk vTop vLm vRows vCols vDown vRight vBound vStrain vPrice vFirm (upZ vSums 7 ((vSums 7) + 0)) vRays vFalls vSom vHad) := hD
        refine lv_aload_n hx hb dX8_sells_75 rfl (lv_at hl 5 rfl) ?_
        refine va_get (D := G) (ci := 9) (v := .ref (ad 17)) (C := RX8) (T := TX8) (N := 40) hx hb hts hinwsX80 hown hK hP 0 rfl rfl 19 (by decide) (hts (.fieldLink RX8 59 "HeliokeepModel" "sums" "[J") (List.mem_of_getElem? (i := 4) rfl)) (fun _ h9 => h9) rfl dX8_sells_76 ?_
        refine hz_bipush hx hb dX8_sells_79 (by decide) ?_
        refine lv_dup2_11 hx hb dX8_sells_81 rfl rfl ?_
        refine hz_lald (f := (upZ vSums 7 ((vSums 7) + 0))) hx hb hK hP 17 1 rfl rfl (Nat.le_of_ble_eq_true rfl) (by omega) dX8_sells_82 ?_
        refine lv_iload_n hx hb dX8_sells_83 rfl (lv_at hl 3 rfl) ?_
        refine hz_i2l hx hb dX8_sells_84 (by omega) ?_
        refine hz_ladd hx hb dX8_sells_85 ?_
        refine hz_last (f := (upZ vSums 7 ((vSums 7) + 0))) hx hb hK hP hD hS 17 1 rfl rfl (Nat.le_of_ble_eq_true rfl) (by omega) dX8_sells_86 (fun H locs hP hD hS => ?_)
        have hP : va_P G vwCl (mW ad y vThrown vN vC vNow vHaze vCold vHot vPipe vDeg vThaw vTrc vTurb vLeft vLoad vWater vTrips vMissed vBRow vBSum vCell vDirt vAim vErr vCor vBrk vTop vLm vRows vCols vDown vRight vBound vStrain vPrice vFirm (upZ (upZ vSums 7 ((vSums 7) + 0)) 8 (((upZ vSums 7 ((vSums 7) + 0)) 8) + (0 - made))) vRays vFalls vSom vHad) H := hP
        have hD : va_D A (mW ad y vThrown vN vC vNow vHaze vCold vHot vPipe vDeg vThaw vTrc vTurb vLeft vLoad vWater vTrips vMissed vBRow vBSum vCell vDirt vAim vErr vCor vBrk vTop vLm vRows vCols vDown vRight vBound vStrain vPrice vFirm (upZ (upZ vSums 7 ((vSums 7) + 0)) 8 (((upZ vSums 7 ((vSums 7) + 0)) 8) + (0 - made))) vRays vFalls vSom vHad) := hD
        refine lv_aload_n hx hb dX8_sells_87 rfl (lv_at hl 5 rfl) ?_
        refine va_get (D := G) (ci := 9) (v := .ref (ad 17)) (C := RX8) (T := TX8) (N := 40) hx hb hts hinwsX80 hown hK hP 0 rfl rfl 19 (by decide) (hts (.fieldLink RX8 59 "HeliokeepModel" "sums" "[J") (List.mem_of_getElem? (i := 4) rfl)) (fun _ h9 => h9) rfl dX8_sells_88 ?_
        refine hz_bipush hx hb dX8_sells_91 (by decide) ?_
        refine lv_dup2_11 hx hb dX8_sells_93 rfl rfl ?_
        refine hz_lald (f := (upZ (upZ vSums 7 ((vSums 7) + 0)) 8 (((upZ vSums 7 ((vSums 7) + 0)) 8) + (0 - made)))) hx hb hK hP 17 1 rfl rfl (Nat.le_of_ble_eq_true rfl) (by omega) dX8_sells_94 ?_
        refine lv_iload hx hb dX8_sells_95 (lv_at hl 0 rfl) ?_
        refine hz_i2l hx hb dX8_sells_97 (by omega) ?_
        refine hz_ladd hx hb dX8_sells_98 ?_
        refine hz_last (f := (upZ (upZ vSums 7 ((vSums 7) + 0)) 8 (((upZ vSums 7 ((vSums 7) + 0)) 8) + (0 - made)))) hx hb hK hP hD hS 17 1 rfl rfl (Nat.le_of_ble_eq_true rfl) (by omega) dX8_sells_99 (fun H locs hP hD hS => ?_)
        have hP : va_P G vwCl (mW ad y vThrown vN vC vNow vHaze vCold vHot vPipe vDeg vThaw vTrc vTurb vLeft vLoad vWater vTrips vMissed vBRow vBSum vCell vDirt vAim vErr vCor vBrk vTop vLm vRows vCols vDown vRight vBound vStrain vPrice vFirm (upZ (upZ (upZ vSums 7 ((vSums 7) + 0)) 8 (((upZ vSums 7 ((vSums 7) + 0)) 8) + (0 - made))) 9 (((upZ (upZ vSums 7 ((vSums 7) + 0)) 8 (((upZ vSums 7 ((vSums 7) + 0)) 8) + (0 - made))) 9) + (vFirm (vNow % 24)))) vRays vFalls vSom vHad) H := hP
        have hD : va_D A (mW ad y vThrown vN vC vNow vHaze vCold vHot vPipe vDeg vThaw vTrc vTurb vLeft vLoad vWater vTrips vMissed vBRow vBSum vCell vDirt vAim vErr vCor vBrk vTop vLm vRows vCols vDown vRight vBound vStrain vPrice vFirm (upZ (upZ (upZ vSums 7 ((vSums 7) + 0)) 8 (((upZ vSums 7 ((vSums 7) + 0)) 8) + (0 - made))) 9 (((upZ (upZ vSums 7 ((vSums 7) + 0)) 8 (((upZ vSums 7 ((vSums 7) + 0)) 8) + (0 - made))) 9) + (vFirm (vNow % 24)))) vRays vFalls vSom vHad) := hD
        refine lv_aload_n hx hb dX8_sells_100 rfl (lv_at hl 5 rfl) ?_
        refine va_get (D := G) (ci := 9) (v := .ref (ad 17)) (C := RX8) (T := TX8) (N := 40) hx hb hts hinwsX80 hown hK hP 0 rfl rfl 19 (by decide) (hts (.fieldLink RX8 59 "HeliokeepModel" "sums" "[J") (List.mem_of_getElem? (i := 4) rfl)) (fun _ h9 => h9) rfl dX8_sells_101 ?_
        refine hz_bipush hx hb dX8_sells_104 (by decide) ?_
        refine lv_dup2_11 hx hb dX8_sells_106 rfl rfl ?_
        refine hz_lald (f := (upZ (upZ (upZ vSums 7 ((vSums 7) + 0)) 8 (((upZ vSums 7 ((vSums 7) + 0)) 8) + (0 - made))) 9 (((upZ (upZ vSums 7 ((vSums 7) + 0)) 8 (((upZ vSums 7 ((vSums 7) + 0)) 8) + (0 - made))) 9) + (vFirm (vNow % 24))))) hx hb hK hP 17 1 rfl rfl (Nat.le_of_ble_eq_true rfl) (by omega) dX8_sells_107 ?_
        refine lv_iload hx hb dX8_sells_108 (lv_at hl 1 rfl) ?_
        refine lv_iload hx hb dX8_sells_110 (lv_at hl 0 rfl) ?_
        refine hz_isub hx hb dX8_sells_112 ?_
        refine hz_i2l hx hb dX8_sells_113 (by omega) ?_
        refine hz_ladd hx hb dX8_sells_114 ?_
        refine hz_topl (fun z21 e22 => ?_)
        refine hz_last (f := (upZ (upZ (upZ vSums 7 ((vSums 7) + 0)) 8 (((upZ vSums 7 ((vSums 7) + 0)) 8) + (0 - made))) 9 (((upZ (upZ vSums 7 ((vSums 7) + 0)) 8 (((upZ vSums 7 ((vSums 7) + 0)) 8) + (0 - made))) 9) + (vFirm (vNow % 24))))) hx hb hK hP hD hS 17 1 rfl rfl (Nat.le_of_ble_eq_true rfl) (by omega) dX8_sells_115 (fun H locs hP hD hS => ?_)
        have hP : va_P G vwCl (mW ad y vThrown vN vC vNow vHaze vCold vHot vPipe vDeg vThaw vTrc vTurb vLeft vLoad vWater vTrips vMissed vBRow vBSum vCell vDirt vAim vErr vCor vBrk vTop vLm vRows vCols vDown vRight vBound vStrain vPrice vFirm (upZ (upZ (upZ (upZ vSums 7 ((vSums 7) + 0)) 8 (((upZ vSums 7 ((vSums 7) + 0)) 8) + (0 - made))) 9 (((upZ (upZ vSums 7 ((vSums 7) + 0)) 8 (((upZ vSums 7 ((vSums 7) + 0)) 8) + (0 - made))) 9) + (vFirm (vNow % 24)))) 10 z21) vRays vFalls vSom vHad) H := hP
        have hD : va_D A (mW ad y vThrown vN vC vNow vHaze vCold vHot vPipe vDeg vThaw vTrc vTurb vLeft vLoad vWater vTrips vMissed vBRow vBSum vCell vDirt vAim vErr vCor vBrk vTop vLm vRows vCols vDown vRight vBound vStrain vPrice vFirm (upZ (upZ (upZ (upZ vSums 7 ((vSums 7) + 0)) 8 (((upZ vSums 7 ((vSums 7) + 0)) 8) + (0 - made))) 9 (((upZ (upZ vSums 7 ((vSums 7) + 0)) 8 (((upZ vSums 7 ((vSums 7) + 0)) 8) + (0 - made))) 9) + (vFirm (vNow % 24)))) 10 z21) vRays vFalls vSom vHad) := hD
        refine lv_aload_n hx hb dX8_sells_116 rfl (lv_at hl 5 rfl) ?_
        refine va_get (D := G) (ci := 9) (v := .ref (ad 17)) (C := RX8) (T := TX8) (N := 40) hx hb hts hinwsX80 hown hK hP 0 rfl rfl 19 (by decide) (hts (.fieldLink RX8 59 "HeliokeepModel" "sums" "[J") (List.mem_of_getElem? (i := 4) rfl)) (fun _ h9 => h9) rfl dX8_sells_117 ?_
        refine hz_bipush hx hb dX8_sells_120 (by decide) ?_
        refine lv_dup2_11 hx hb dX8_sells_122 rfl rfl ?_
        refine hz_lald (f := (upZ (upZ (upZ (upZ vSums 7 ((vSums 7) + 0)) 8 (((upZ vSums 7 ((vSums 7) + 0)) 8) + (0 - made))) 9 (((upZ (upZ vSums 7 ((vSums 7) + 0)) 8 (((upZ vSums 7 ((vSums 7) + 0)) 8) + (0 - made))) 9) + (vFirm (vNow % 24)))) 10 z21)) hx hb hK hP 17 1 rfl rfl (Nat.le_of_ble_eq_true rfl) (by omega) dX8_sells_123 ?_
        refine lv_iload hx hb dX8_sells_124 (lv_at hl 2 rfl) ?_
        refine lv_iload hx hb dX8_sells_126 (lv_at hl 0 rfl) ?_
        refine hz_isub hx hb dX8_sells_128 ?_
        refine hz_i2l hx hb dX8_sells_129 (by omega) ?_
        refine hz_ladd hx hb dX8_sells_130 ?_
        refine hz_topl (fun z23 e24 => ?_)
        refine hz_last (f := (upZ (upZ (upZ (upZ vSums 7 ((vSums 7) + 0)) 8 (((upZ vSums 7 ((vSums 7) + 0)) 8) + (0 - made))) 9 (((upZ (upZ vSums 7 ((vSums 7) + 0)) 8 (((upZ vSums 7 ((vSums 7) + 0)) 8) + (0 - made))) 9) + (vFirm (vNow % 24)))) 10 z21)) hx hb hK hP hD hS 17 1 rfl rfl (Nat.le_of_ble_eq_true rfl) (by omega) dX8_sells_131 (fun H locs hP hD hS => ?_)
        have hP : va_P G vwCl (mW ad y vThrown vN vC vNow vHaze vCold vHot vPipe vDeg vThaw vTrc vTurb vLeft vLoad vWater vTrips vMissed vBRow vBSum vCell vDirt vAim vErr vCor vBrk vTop vLm vRows vCols vDown vRight vBound vStrain vPrice vFirm (upZ (upZ (upZ (upZ (upZ vSums 7 ((vSums 7) + 0)) 8 (((upZ vSums 7 ((vSums 7) + 0)) 8) + (0 - made))) 9 (((upZ (upZ vSums 7 ((vSums 7) + 0)) 8 (((upZ vSums 7 ((vSums 7) + 0)) 8) + (0 - made))) 9) + (vFirm (vNow % 24)))) 10 z21) 11 z23) vRays vFalls vSom vHad) H := hP
        have hD : va_D A (mW ad y vThrown vN vC vNow vHaze vCold vHot vPipe vDeg vThaw vTrc vTurb vLeft vLoad vWater vTrips vMissed vBRow vBSum vCell vDirt vAim vErr vCor vBrk vTop vLm vRows vCols vDown vRight vBound vStrain vPrice vFirm (upZ (upZ (upZ (upZ (upZ vSums 7 ((vSums 7) + 0)) 8 (((upZ vSums 7 ((vSums 7) + 0)) 8) + (0 - made))) 9 (((upZ (upZ vSums 7 ((vSums 7) + 0)) 8 (((upZ vSums 7 ((vSums 7) + 0)) 8) + (0 - made))) 9) + (vFirm (vNow % 24)))) 10 z21) 11 z23) vRays vFalls vSom vHad) := hD
        refine lv_aload_n hx hb dX8_sells_132 rfl (lv_at hl 5 rfl) ?_
        refine va_get (D := G) (ci := 9) (v := .ref (ad 17)) (C := RX8) (T := TX8) (N := 40) hx hb hts hinwsX80 hown hK hP 0 rfl rfl 19 (by decide) (hts (.fieldLink RX8 59 "HeliokeepModel" "sums" "[J") (List.mem_of_getElem? (i := 4) rfl)) (fun _ h9 => h9) rfl dX8_sells_133 ?_
        refine hz_bipush hx hb dX8_sells_136 (by decide) ?_
        refine lv_dup2_11 hx hb dX8_sells_138 rfl rfl ?_
        refine hz_lald (f := (upZ (upZ (upZ (upZ (upZ vSums 7 ((vSums 7) + 0)) 8 (((upZ vSums 7 ((vSums 7) + 0)) 8) + (0 - made))) 9 (((upZ (upZ vSums 7 ((vSums 7) + 0)) 8 (((upZ vSums 7 ((vSums 7) + 0)) 8) + (0 - made))) 9) + (vFirm (vNow % 24)))) 10 z21) 11 z23)) hx hb hK hP 17 1 rfl rfl (Nat.le_of_ble_eq_true rfl) (by omega) dX8_sells_139 ?_
        refine lv_iload hx hb dX8_sells_140 (lv_at hl 2 rfl) ?_
        refine lv_iload hx hb dX8_sells_142 (lv_at hl 0 rfl) ?_
        refine hz_isub hx hb dX8_sells_144 ?_
        refine hz_i2l hx hb dX8_sells_145 (by omega) ?_
        refine lv_aload_n hx hb dX8_sells_146 rfl (lv_at hl 5 rfl) ?_
        refine va_get (D := G) (ci := 9) (v := .ref (ad 15)) (C := RX8) (T := TX8) (N := 40) hx hb hts hinwsX80 hown hK hP 0 rfl rfl 17 (by decide) (hts (.fieldLink RX8 53 "HeliokeepModel" "price" "[I") (List.mem_of_getElem? (i := 5) rfl)) (fun _ h9 => h9) rfl dX8_sells_147 ?_
        refine lv_aload_n hx hb dX8_sells_150 rfl (lv_at hl 5 rfl) ?_
        refine va_get (D := G) (ci := 9) (v := zi vNow) (C := RX8) (T := TX8) (N := 40) hx hb hts hinwsX80 hown hK hP 0 rfl rfl 20 (by decide) (hts (.fieldLink RX8 108 "HeliokeepModel" "now" "I") (List.mem_of_getElem? (i := 3) rfl)) (fun _ h9 => h9) rfl dX8_sells_151 ?_
        refine hz_bipush hx hb dX8_sells_154 (by decide) ?_
        refine hz_irem hx hb dX8_sells_156 (by omega) ?_
        refine hz_iald (f := vPrice) hx hb hK hP 15 0 rfl rfl (Nat.le_of_ble_eq_true rfl) (by omega) dX8_sells_157 ?_
        have q25 := hPrice (vNow % 24)
        refine hz_i2l hx hb dX8_sells_158 (by omega) ?_
        refine hz_lmul hx hb dX8_sells_159 ?_
        refine hz_ladd hx hb dX8_sells_160 ?_
        refine hz_topl (fun z26 e27 => ?_)
        refine hz_last (f := (upZ (upZ (upZ (upZ (upZ vSums 7 ((vSums 7) + 0)) 8 (((upZ vSums 7 ((vSums 7) + 0)) 8) + (0 - made))) 9 (((upZ (upZ vSums 7 ((vSums 7) + 0)) 8 (((upZ vSums 7 ((vSums 7) + 0)) 8) + (0 - made))) 9) + (vFirm (vNow % 24)))) 10 z21) 11 z23)) hx hb hK hP hD hS 17 1 rfl rfl (Nat.le_of_ble_eq_true rfl) (by omega) dX8_sells_161 (fun H locs hP hD hS => ?_)
        have hP : va_P G vwCl (mW ad y vThrown vN vC vNow vHaze vCold vHot vPipe vDeg vThaw vTrc vTurb vLeft vLoad vWater vTrips vMissed vBRow vBSum vCell vDirt vAim vErr vCor vBrk vTop vLm vRows vCols vDown vRight vBound vStrain vPrice vFirm (upZ (upZ (upZ (upZ (upZ (upZ vSums 7 ((vSums 7) + 0)) 8 (((upZ vSums 7 ((vSums 7) + 0)) 8) + (0 - made))) 9 (((upZ (upZ vSums 7 ((vSums 7) + 0)) 8 (((upZ vSums 7 ((vSums 7) + 0)) 8) + (0 - made))) 9) + (vFirm (vNow % 24)))) 10 z21) 11 z23) 12 z26) vRays vFalls vSom vHad) H := hP
        have hD : va_D A (mW ad y vThrown vN vC vNow vHaze vCold vHot vPipe vDeg vThaw vTrc vTurb vLeft vLoad vWater vTrips vMissed vBRow vBSum vCell vDirt vAim vErr vCor vBrk vTop vLm vRows vCols vDown vRight vBound vStrain vPrice vFirm (upZ (upZ (upZ (upZ (upZ (upZ vSums 7 ((vSums 7) + 0)) 8 (((upZ vSums 7 ((vSums 7) + 0)) 8) + (0 - made))) 9 (((upZ (upZ vSums 7 ((vSums 7) + 0)) 8 (((upZ vSums 7 ((vSums 7) + 0)) 8) + (0 - made))) 9) + (vFirm (vNow % 24)))) 10 z21) 11 z23) 12 z26) vRays vFalls vSom vHad) := hD
        exact W.vret hx hb hr (fun t ht hW => ⟨⟨((upZ (upZ (upZ (upZ (upZ (upZ vSums 7 ((vSums 7) + 0)) 8 (((upZ vSums 7 ((vSums 7) + 0)) 8) + (0 - made))) 9 (((upZ (upZ vSums 7 ((vSums 7) + 0)) 8 (((upZ vSums 7 ((vSums 7) + 0)) 8) + (0 - made))) 9) + (vFirm (vNow % 24)))) 10 z21) 11 z23) 12 z26)), rfl, (show (upZ (upZ (upZ (upZ (upZ (upZ vSums 7 ((vSums 7) + 0)) 8 (((upZ vSums 7 ((vSums 7) + 0)) 8) + (0 - made))) 9 (((upZ (upZ vSums 7 ((vSums 7) + 0)) 8 (((upZ vSums 7 ((vSums 7) + 0)) 8) + (0 - made))) 9) + (vFirm (vNow % 24)))) 10 z21) 11 z23) 12 z26) = slZ vSums (toZ vTrc) (boZ vTrc made) (made - toZ vTrc + boZ vTrc made) (dlZ vTrc made (vFirm (vNow % 24))) (vFirm (vNow % 24)) (vPrice (vNow % 24)) from by
          have e1 : toZ vTrc = (0 : Int) := by unfold toZ; omega
          have e2 : boZ vTrc made = (0 - made) := by unfold boZ; omega
          have e3 : made - toZ vTrc + boZ vTrc made = ((made - 0) + (0 - made)) := by rw [e1, e2]
          have e4 : dlZ vTrc made (vFirm (vNow % 24)) = (vFirm (vNow % 24)) := by unfold dlZ; omega
          rw [e3, e4, e2, e1]
          subst_vars
          rfl), hz_at hP ht⟩, hS.F ht⟩) hS.2.2 dX8_sells_162
      · refine lv_iload hx hb dX8_sells_54 (lv_at hl 1 rfl) ?_
        refine lv_goto (tgt := 61) hx hb dX8_sells_56 (by decide) ?_
        refine lv_istore (lv' := [(6, zi ((made - 0) + (0 - made))), (5, zi (vFirm (vNow % 24))), (4, zi ((made - 0) + (0 - made))), (3, zi (0 - made)), (2, zi 0), (0, .ref (ad 0)), (1, zi made)]) hx hb dX8_sells_61 hl (by decide) rfl (fun ls hl => ?_)
        refine lv_aload_n hx hb dX8_sells_63 rfl (lv_at hl 5 rfl) ?_
        refine va_get (D := G) (ci := 9) (v := .ref (ad 17)) (C := RX8) (T := TX8) (N := 40) hx hb hts hinwsX80 hown hK hP 0 rfl rfl 19 (by decide) (hts (.fieldLink RX8 59 "HeliokeepModel" "sums" "[J") (List.mem_of_getElem? (i := 4) rfl)) (fun _ h9 => h9) rfl dX8_sells_64 ?_
        refine hz_bipush hx hb dX8_sells_67 (by decide) ?_
        refine lv_dup2_11 hx hb dX8_sells_69 rfl rfl ?_
        refine hz_lald (f := vSums) hx hb hK hP 17 1 rfl rfl (Nat.le_of_ble_eq_true rfl) (by omega) dX8_sells_70 ?_
        refine lv_iload_n hx hb dX8_sells_71 rfl (lv_at hl 4 rfl) ?_
        refine hz_i2l hx hb dX8_sells_72 (by omega) ?_
        refine hz_ladd hx hb dX8_sells_73 ?_
        refine hz_last (f := vSums) hx hb hK hP hD hS 17 1 rfl rfl (Nat.le_of_ble_eq_true rfl) (by omega) dX8_sells_74 (fun H locs hP hD hS => ?_)
        have hP : va_P G vwCl (mW ad y vThrown vN vC vNow vHaze vCold vHot vPipe vDeg vThaw vTrc vTurb vLeft vLoad vWater vTrips vMissed vBRow vBSum vCell vDirt vAim vErr vCor vBrk vTop vLm vRows vCols vDown vRight vBound vStrain vPrice vFirm (upZ vSums 7 ((vSums 7) + 0)) vRays vFalls vSom vHad) H := hP
        have hD : va_D A (mW ad y vThrown vN vC vNow vHaze vCold vHot vPipe vDeg vThaw vTrc vTurb vLeft vLoad vWater vTrips vMissed vBRow vBSum vCell vDirt vAim vErr vCor vBrk vTop vLm vRows vCols vDown vRight vBound vStrain vPrice vFirm (upZ vSums 7 ((vSums 7) + 0)) vRays vFalls vSom vHad) := hD
        refine lv_aload_n hx hb dX8_sells_75 rfl (lv_at hl 5 rfl) ?_
        refine va_get (D := G) (ci := 9) (v := .ref (ad 17)) (C := RX8) (T := TX8) (N := 40) hx hb hts hinwsX80 hown hK hP 0 rfl rfl 19 (by decide) (hts (.fieldLink RX8 59 "HeliokeepModel" "sums" "[J") (List.mem_of_getElem? (i := 4) rfl)) (fun _ h9 => h9) rfl dX8_sells_76 ?_
        refine hz_bipush hx hb dX8_sells_79 (by decide) ?_
        refine lv_dup2_11 hx hb dX8_sells_81 rfl rfl ?_
        refine hz_lald (f := (upZ vSums 7 ((vSums 7) + 0))) hx hb hK hP 17 1 rfl rfl (Nat.le_of_ble_eq_true rfl) (by omega) dX8_sells_82 ?_
        refine lv_iload_n hx hb dX8_sells_83 rfl (lv_at hl 3 rfl) ?_
        refine hz_i2l hx hb dX8_sells_84 (by omega) ?_
        refine hz_ladd hx hb dX8_sells_85 ?_
        refine hz_last (f := (upZ vSums 7 ((vSums 7) + 0))) hx hb hK hP hD hS 17 1 rfl rfl (Nat.le_of_ble_eq_true rfl) (by omega) dX8_sells_86 (fun H locs hP hD hS => ?_)
        have hP : va_P G vwCl (mW ad y vThrown vN vC vNow vHaze vCold vHot vPipe vDeg vThaw vTrc vTurb vLeft vLoad vWater vTrips vMissed vBRow vBSum vCell vDirt vAim vErr vCor vBrk vTop vLm vRows vCols vDown vRight vBound vStrain vPrice vFirm (upZ (upZ vSums 7 ((vSums 7) + 0)) 8 (((upZ vSums 7 ((vSums 7) + 0)) 8) + (0 - made))) vRays vFalls vSom vHad) H := hP
        have hD : va_D A (mW ad y vThrown vN vC vNow vHaze vCold vHot vPipe vDeg vThaw vTrc vTurb vLeft vLoad vWater vTrips vMissed vBRow vBSum vCell vDirt vAim vErr vCor vBrk vTop vLm vRows vCols vDown vRight vBound vStrain vPrice vFirm (upZ (upZ vSums 7 ((vSums 7) + 0)) 8 (((upZ vSums 7 ((vSums 7) + 0)) 8) + (0 - made))) vRays vFalls vSom vHad) := hD
        refine lv_aload_n hx hb dX8_sells_87 rfl (lv_at hl 5 rfl) ?_
        refine va_get (D := G) (ci := 9) (v := .ref (ad 17)) (C := RX8) (T := TX8) (N := 40) hx hb hts hinwsX80 hown hK hP 0 rfl rfl 19 (by decide) (hts (.fieldLink RX8 59 "HeliokeepModel" "sums" "[J") (List.mem_of_getElem? (i := 4) rfl)) (fun _ h9 => h9) rfl dX8_sells_88 ?_
        refine hz_bipush hx hb dX8_sells_91 (by decide) ?_
        refine lv_dup2_11 hx hb dX8_sells_93 rfl rfl ?_
        refine hz_lald (f := (upZ (upZ vSums 7 ((vSums 7) + 0)) 8 (((upZ vSums 7 ((vSums 7) + 0)) 8) + (0 - made)))) hx hb hK hP 17 1 rfl rfl (Nat.le_of_ble_eq_true rfl) (by omega) dX8_sells_94 ?_
        refine lv_iload hx hb dX8_sells_95 (lv_at hl 0 rfl) ?_
        refine hz_i2l hx hb dX8_sells_97 (by omega) ?_
        refine hz_ladd hx hb dX8_sells_98 ?_
        refine hz_last (f := (upZ (upZ vSums 7 ((vSums 7) + 0)) 8 (((upZ vSums 7 ((vSums 7) + 0)) 8) + (0 - made)))) hx hb hK hP hD hS 17 1 rfl rfl (Nat.le_of_ble_eq_true rfl) (by omega) dX8_sells_99 (fun H locs hP hD hS => ?_)
        have hP : va_P G vwCl (mW ad y vThrown vN vC vNow vHaze vCold vHot vPipe vDeg vThaw vTrc vTurb vLeft vLoad vWater vTrips vMissed vBRow vBSum vCell vDirt vAim vErr vCor vBrk vTop vLm vRows vCols vDown vRight vBound vStrain vPrice vFirm (upZ (upZ (upZ vSums 7 ((vSums 7) + 0)) 8 (((upZ vSums 7 ((vSums 7) + 0)) 8) + (0 - made))) 9 (((upZ (upZ vSums 7 ((vSums 7) + 0)) 8 (((upZ vSums 7 ((vSums 7) + 0)) 8) + (0 - made))) 9) + ((made - 0) + (0 - made)))) vRays vFalls vSom vHad) H := hP
        have hD : va_D A (mW ad y vThrown vN vC vNow vHaze vCold vHot vPipe vDeg vThaw vTrc vTurb vLeft vLoad vWater vTrips vMissed vBRow vBSum vCell vDirt vAim vErr vCor vBrk vTop vLm vRows vCols vDown vRight vBound vStrain vPrice vFirm (upZ (upZ (upZ vSums 7 ((vSums 7) + 0)) 8 (((upZ vSums 7 ((vSums 7) + 0)) 8) + (0 - made))) 9 (((upZ (upZ vSums 7 ((vSums 7) + 0)) 8 (((upZ vSums 7 ((vSums 7) + 0)) 8) + (0 - made))) 9) + ((made - 0) + (0 - made)))) vRays vFalls vSom vHad) := hD
        refine lv_aload_n hx hb dX8_sells_100 rfl (lv_at hl 5 rfl) ?_
        refine va_get (D := G) (ci := 9) (v := .ref (ad 17)) (C := RX8) (T := TX8) (N := 40) hx hb hts hinwsX80 hown hK hP 0 rfl rfl 19 (by decide) (hts (.fieldLink RX8 59 "HeliokeepModel" "sums" "[J") (List.mem_of_getElem? (i := 4) rfl)) (fun _ h9 => h9) rfl dX8_sells_101 ?_
        refine hz_bipush hx hb dX8_sells_104 (by decide) ?_
        refine lv_dup2_11 hx hb dX8_sells_106 rfl rfl ?_
        refine hz_lald (f := (upZ (upZ (upZ vSums 7 ((vSums 7) + 0)) 8 (((upZ vSums 7 ((vSums 7) + 0)) 8) + (0 - made))) 9 (((upZ (upZ vSums 7 ((vSums 7) + 0)) 8 (((upZ vSums 7 ((vSums 7) + 0)) 8) + (0 - made))) 9) + ((made - 0) + (0 - made))))) hx hb hK hP 17 1 rfl rfl (Nat.le_of_ble_eq_true rfl) (by omega) dX8_sells_107 ?_
        refine lv_iload hx hb dX8_sells_108 (lv_at hl 1 rfl) ?_
        refine lv_iload hx hb dX8_sells_110 (lv_at hl 0 rfl) ?_
        refine hz_isub hx hb dX8_sells_112 ?_
        refine hz_i2l hx hb dX8_sells_113 (by omega) ?_
        refine hz_ladd hx hb dX8_sells_114 ?_
        refine hz_topl (fun z28 e29 => ?_)
        refine hz_last (f := (upZ (upZ (upZ vSums 7 ((vSums 7) + 0)) 8 (((upZ vSums 7 ((vSums 7) + 0)) 8) + (0 - made))) 9 (((upZ (upZ vSums 7 ((vSums 7) + 0)) 8 (((upZ vSums 7 ((vSums 7) + 0)) 8) + (0 - made))) 9) + ((made - 0) + (0 - made))))) hx hb hK hP hD hS 17 1 rfl rfl (Nat.le_of_ble_eq_true rfl) (by omega) dX8_sells_115 (fun H locs hP hD hS => ?_)
        have hP : va_P G vwCl (mW ad y vThrown vN vC vNow vHaze vCold vHot vPipe vDeg vThaw vTrc vTurb vLeft vLoad vWater vTrips vMissed vBRow vBSum vCell vDirt vAim vErr vCor vBrk vTop vLm vRows vCols vDown vRight vBound vStrain vPrice vFirm (upZ (upZ (upZ (upZ vSums 7 ((vSums 7) + 0)) 8 (((upZ vSums 7 ((vSums 7) + 0)) 8) + (0 - made))) 9 (((upZ (upZ vSums 7 ((vSums 7) + 0)) 8 (((upZ vSums 7 ((vSums 7) + 0)) 8) + (0 - made))) 9) + ((made - 0) + (0 - made)))) 10 z28) vRays vFalls vSom vHad) H := hP
        have hD : va_D A (mW ad y vThrown vN vC vNow vHaze vCold vHot vPipe vDeg vThaw vTrc vTurb vLeft vLoad vWater vTrips vMissed vBRow vBSum vCell vDirt vAim vErr vCor vBrk vTop vLm vRows vCols vDown vRight vBound vStrain vPrice vFirm (upZ (upZ (upZ (upZ vSums 7 ((vSums 7) + 0)) 8 (((upZ vSums 7 ((vSums 7) + 0)) 8) + (0 - made))) 9 (((upZ (upZ vSums 7 ((vSums 7) + 0)) 8 (((upZ vSums 7 ((vSums 7) + 0)) 8) + (0 - made))) 9) + ((made - 0) + (0 - made)))) 10 z28) vRays vFalls vSom vHad) := hD
        refine lv_aload_n hx hb dX8_sells_116 rfl (lv_at hl 5 rfl) ?_
        refine va_get (D := G) (ci := 9) (v := .ref (ad 17)) (C := RX8) (T := TX8) (N := 40) hx hb hts hinwsX80 hown hK hP 0 rfl rfl 19 (by decide) (hts (.fieldLink RX8 59 "HeliokeepModel" "sums" "[J") (List.mem_of_getElem? (i := 4) rfl)) (fun _ h9 => h9) rfl dX8_sells_117 ?_
        refine hz_bipush hx hb dX8_sells_120 (by decide) ?_
        refine lv_dup2_11 hx hb dX8_sells_122 rfl rfl ?_
        refine hz_lald (f := (upZ (upZ (upZ (upZ vSums 7 ((vSums 7) + 0)) 8 (((upZ vSums 7 ((vSums 7) + 0)) 8) + (0 - made))) 9 (((upZ (upZ vSums 7 ((vSums 7) + 0)) 8 (((upZ vSums 7 ((vSums 7) + 0)) 8) + (0 - made))) 9) + ((made - 0) + (0 - made)))) 10 z28)) hx hb hK hP 17 1 rfl rfl (Nat.le_of_ble_eq_true rfl) (by omega) dX8_sells_123 ?_
        refine lv_iload hx hb dX8_sells_124 (lv_at hl 2 rfl) ?_
        refine lv_iload hx hb dX8_sells_126 (lv_at hl 0 rfl) ?_
        refine hz_isub hx hb dX8_sells_128 ?_
        refine hz_i2l hx hb dX8_sells_129 (by omega) ?_
        refine hz_ladd hx hb dX8_sells_130 ?_
        refine hz_topl (fun z30 e31 => ?_)
        refine hz_last (f := (upZ (upZ (upZ (upZ vSums 7 ((vSums 7) + 0)) 8 (((upZ vSums 7 ((vSums 7) + 0)) 8) + (0 - made))) 9 (((upZ (upZ vSums 7 ((vSums 7) + 0)) 8 (((upZ vSums 7 ((vSums 7) + 0)) 8) + (0 - made))) 9) + ((made - 0) + (0 - made)))) 10 z28)) hx hb hK hP hD hS 17 1 rfl rfl (Nat.le_of_ble_eq_true rfl) (by omega) dX8_sells_131 (fun H locs hP hD hS => ?_)
        have hP : va_P G vwCl (mW ad y vThrown vN vC vNow vHaze vCold vHot vPipe vDeg vThaw vTrc vTurb vLeft vLoad vWater vTrips vMissed vBRow vBSum vCell vDirt vAim vErr vCor vBrk vTop vLm vRows vCols vDown vRight vBound vStrain vPrice vFirm (upZ (upZ (upZ (upZ (upZ vSums 7 ((vSums 7) + 0)) 8 (((upZ vSums 7 ((vSums 7) + 0)) 8) + (0 - made))) 9 (((upZ (upZ vSums 7 ((vSums 7) + 0)) 8 (((upZ vSums 7 ((vSums 7) + 0)) 8) + (0 - made))) 9) + ((made - 0) + (0 - made)))) 10 z28) 11 z30) vRays vFalls vSom vHad) H := hP
        have hD : va_D A (mW ad y vThrown vN vC vNow vHaze vCold vHot vPipe vDeg vThaw vTrc vTurb vLeft vLoad vWater vTrips vMissed vBRow vBSum vCell vDirt vAim vErr vCor vBrk vTop vLm vRows vCols vDown vRight vBound vStrain vPrice vFirm (upZ (upZ (upZ (upZ (upZ vSums 7 ((vSums 7) + 0)) 8 (((upZ vSums 7 ((vSums 7) + 0)) 8) + (0 - made))) 9 (((upZ (upZ vSums 7 ((vSums 7) + 0)) 8 (((upZ vSums 7 ((vSums 7) + 0)) 8) + (0 - made))) 9) + ((made - 0) + (0 - made)))) 10 z28) 11 z30) vRays vFalls vSom vHad) := hD
        refine lv_aload_n hx hb dX8_sells_132 rfl (lv_at hl 5 rfl) ?_
        refine va_get (D := G) (ci := 9) (v := .ref (ad 17)) (C := RX8) (T := TX8) (N := 40) hx hb hts hinwsX80 hown hK hP 0 rfl rfl 19 (by decide) (hts (.fieldLink RX8 59 "HeliokeepModel" "sums" "[J") (List.mem_of_getElem? (i := 4) rfl)) (fun _ h9 => h9) rfl dX8_sells_133 ?_
        refine hz_bipush hx hb dX8_sells_136 (by decide) ?_
        refine lv_dup2_11 hx hb dX8_sells_138 rfl rfl ?_
        refine hz_lald (f := (upZ (upZ (upZ (upZ (upZ vSums 7 ((vSums 7) + 0)) 8 (((upZ vSums 7 ((vSums 7) + 0)) 8) + (0 - made))) 9 (((upZ (upZ vSums 7 ((vSums 7) + 0)) 8 (((upZ vSums 7 ((vSums 7) + 0)) 8) + (0 - made))) 9) + ((made - 0) + (0 - made)))) 10 z28) 11 z30)) hx hb hK hP 17 1 rfl rfl (Nat.le_of_ble_eq_true rfl) (by omega) dX8_sells_139 ?_
        refine lv_iload hx hb dX8_sells_140 (lv_at hl 2 rfl) ?_
        refine lv_iload hx hb dX8_sells_142 (lv_at hl 0 rfl) ?_
        refine hz_isub hx hb dX8_sells_144 ?_
        refine hz_i2l hx hb dX8_sells_145 (by omega) ?_
        refine lv_aload_n hx hb dX8_sells_146 rfl (lv_at hl 5 rfl) ?_
        refine va_get (D := G) (ci := 9) (v := .ref (ad 15)) (C := RX8) (T := TX8) (N := 40) hx hb hts hinwsX80 hown hK hP 0 rfl rfl 17 (by decide) (hts (.fieldLink RX8 53 "HeliokeepModel" "price" "[I") (List.mem_of_getElem? (i := 5) rfl)) (fun _ h9 => h9) rfl dX8_sells_147 ?_
        refine lv_aload_n hx hb dX8_sells_150 rfl (lv_at hl 5 rfl) ?_
        refine va_get (D := G) (ci := 9) (v := zi vNow) (C := RX8) (T := TX8) (N := 40) hx hb hts hinwsX80 hown hK hP 0 rfl rfl 20 (by decide) (hts (.fieldLink RX8 108 "HeliokeepModel" "now" "I") (List.mem_of_getElem? (i := 3) rfl)) (fun _ h9 => h9) rfl dX8_sells_151 ?_
        refine hz_bipush hx hb dX8_sells_154 (by decide) ?_
        refine hz_irem hx hb dX8_sells_156 (by omega) ?_
        refine hz_iald (f := vPrice) hx hb hK hP 15 0 rfl rfl (Nat.le_of_ble_eq_true rfl) (by omega) dX8_sells_157 ?_
        have q32 := hPrice (vNow % 24)
        refine hz_i2l hx hb dX8_sells_158 (by omega) ?_
        refine hz_lmul hx hb dX8_sells_159 ?_
        refine hz_ladd hx hb dX8_sells_160 ?_
        refine hz_topl (fun z33 e34 => ?_)
        refine hz_last (f := (upZ (upZ (upZ (upZ (upZ vSums 7 ((vSums 7) + 0)) 8 (((upZ vSums 7 ((vSums 7) + 0)) 8) + (0 - made))) 9 (((upZ (upZ vSums 7 ((vSums 7) + 0)) 8 (((upZ vSums 7 ((vSums 7) + 0)) 8) + (0 - made))) 9) + ((made - 0) + (0 - made)))) 10 z28) 11 z30)) hx hb hK hP hD hS 17 1 rfl rfl (Nat.le_of_ble_eq_true rfl) (by omega) dX8_sells_161 (fun H locs hP hD hS => ?_)
        have hP : va_P G vwCl (mW ad y vThrown vN vC vNow vHaze vCold vHot vPipe vDeg vThaw vTrc vTurb vLeft vLoad vWater vTrips vMissed vBRow vBSum vCell vDirt vAim vErr vCor vBrk vTop vLm vRows vCols vDown vRight vBound vStrain vPrice vFirm (upZ (upZ (upZ (upZ (upZ (upZ vSums 7 ((vSums 7) + 0)) 8 (((upZ vSums 7 ((vSums 7) + 0)) 8) + (0 - made))) 9 (((upZ (upZ vSums 7 ((vSums 7) + 0)) 8 (((upZ vSums 7 ((vSums 7) + 0)) 8) + (0 - made))) 9) + ((made - 0) + (0 - made)))) 10 z28) 11 z30) 12 z33) vRays vFalls vSom vHad) H := hP
        have hD : va_D A (mW ad y vThrown vN vC vNow vHaze vCold vHot vPipe vDeg vThaw vTrc vTurb vLeft vLoad vWater vTrips vMissed vBRow vBSum vCell vDirt vAim vErr vCor vBrk vTop vLm vRows vCols vDown vRight vBound vStrain vPrice vFirm (upZ (upZ (upZ (upZ (upZ (upZ vSums 7 ((vSums 7) + 0)) 8 (((upZ vSums 7 ((vSums 7) + 0)) 8) + (0 - made))) 9 (((upZ (upZ vSums 7 ((vSums 7) + 0)) 8 (((upZ vSums 7 ((vSums 7) + 0)) 8) + (0 - made))) 9) + ((made - 0) + (0 - made)))) 10 z28) 11 z30) 12 z33) vRays vFalls vSom vHad) := hD
        exact W.vret hx hb hr (fun t ht hW => ⟨⟨((upZ (upZ (upZ (upZ (upZ (upZ vSums 7 ((vSums 7) + 0)) 8 (((upZ vSums 7 ((vSums 7) + 0)) 8) + (0 - made))) 9 (((upZ (upZ vSums 7 ((vSums 7) + 0)) 8 (((upZ vSums 7 ((vSums 7) + 0)) 8) + (0 - made))) 9) + ((made - 0) + (0 - made)))) 10 z28) 11 z30) 12 z33)), rfl, (show (upZ (upZ (upZ (upZ (upZ (upZ vSums 7 ((vSums 7) + 0)) 8 (((upZ vSums 7 ((vSums 7) + 0)) 8) + (0 - made))) 9 (((upZ (upZ vSums 7 ((vSums 7) + 0)) 8 (((upZ vSums 7 ((vSums 7) + 0)) 8) + (0 - made))) 9) + ((made - 0) + (0 - made)))) 10 z28) 11 z30) 12 z33) = slZ vSums (toZ vTrc) (boZ vTrc made) (made - toZ vTrc + boZ vTrc made) (dlZ vTrc made (vFirm (vNow % 24))) (vFirm (vNow % 24)) (vPrice (vNow % 24)) from by
          have e1 : toZ vTrc = (0 : Int) := by unfold toZ; omega
          have e2 : boZ vTrc made = (0 - made) := by unfold boZ; omega
          have e3 : made - toZ vTrc + boZ vTrc made = ((made - 0) + (0 - made)) := by rw [e1, e2]
          have e4 : dlZ vTrc made (vFirm (vNow % 24)) = ((made - 0) + (0 - made)) := by unfold dlZ; omega
          rw [e3, e4, e2, e1]
          subst_vars
          rfl), hz_at hP ht⟩, hS.F ht⟩) hS.2.2 dX8_sells_162
  · refine hz_iconst hx hb dX8_sells_7 ?_
    refine lv_goto (tgt := 12) hx hb dX8_sells_8 (by decide) ?_
    refine lv_istore_n (lv' := [(2, zi 2), (0, .ref (ad 0)), (1, zi made)]) hx hb dX8_sells_12 rfl hl (by decide) rfl (fun ls hl => ?_)
    refine lv_iload_n hx hb dX8_sells_13 rfl (lv_at hl 0 rfl) ?_
    refine lv_iload_n hx hb dX8_sells_14 rfl (lv_at hl 2 rfl) ?_
    refine hz_icmp_le (tgt := 24) hx hb dX8_sells_15 (by decide) (by omega) (fun c35 => ?_) (fun c35 => ?_)
    · refine hz_iconst hx hb dX8_sells_24 ?_
      refine lv_istore_n (lv' := [(3, zi 0), (2, zi 2), (0, .ref (ad 0)), (1, zi made)]) hx hb dX8_sells_25 rfl hl (by decide) rfl (fun ls hl => ?_)
      refine lv_iload_n hx hb dX8_sells_26 rfl (lv_at hl 3 rfl) ?_
      refine lv_iload_n hx hb dX8_sells_27 rfl (lv_at hl 1 rfl) ?_
      refine hz_isub hx hb dX8_sells_28 ?_
      refine lv_iload_n hx hb dX8_sells_29 rfl (lv_at hl 0 rfl) ?_
      refine hz_iadd hx hb dX8_sells_30 ?_
      refine lv_istore (lv' := [(4, zi ((made - 2) + 0)), (3, zi 0), (2, zi 2), (0, .ref (ad 0)), (1, zi made)]) hx hb dX8_sells_31 hl (by decide) rfl (fun ls hl => ?_)
      refine lv_aload_n hx hb dX8_sells_33 rfl (lv_at hl 3 rfl) ?_
      refine va_get (D := G) (ci := 9) (v := .ref (ad 16)) (C := RX8) (T := TX8) (N := 40) hx hb hts hinwsX80 hown hK hP 0 rfl rfl 18 (by decide) (hts (.fieldLink RX8 56 "HeliokeepModel" "firm" "[I") (List.mem_of_getElem? (i := 2) rfl)) (fun _ h9 => h9) rfl dX8_sells_34 ?_
      refine lv_aload_n hx hb dX8_sells_37 rfl (lv_at hl 3 rfl) ?_
      refine va_get (D := G) (ci := 9) (v := zi vNow) (C := RX8) (T := TX8) (N := 40) hx hb hts hinwsX80 hown hK hP 0 rfl rfl 20 (by decide) (hts (.fieldLink RX8 108 "HeliokeepModel" "now" "I") (List.mem_of_getElem? (i := 3) rfl)) (fun _ h9 => h9) rfl dX8_sells_38 ?_
      refine hz_bipush hx hb dX8_sells_41 (by decide) ?_
      refine hz_irem hx hb dX8_sells_43 (by omega) ?_
      refine hz_iald (f := vFirm) hx hb hK hP 16 0 rfl rfl (Nat.le_of_ble_eq_true rfl) (by omega) dX8_sells_44 ?_
      have q36 := hFirm (vNow % 24)
      refine lv_istore (lv' := [(5, zi (vFirm (vNow % 24))), (4, zi ((made - 2) + 0)), (3, zi 0), (2, zi 2), (0, .ref (ad 0)), (1, zi made)]) hx hb dX8_sells_45 hl (by decide) rfl (fun ls hl => ?_)
      refine lv_iload hx hb dX8_sells_47 (lv_at hl 1 rfl) ?_
      refine lv_iload hx hb dX8_sells_49 (lv_at hl 0 rfl) ?_
      refine hz_icmp_ge (tgt := 59) hx hb dX8_sells_51 (by decide) (by omega) (fun c37 => ?_) (fun c37 => ?_)
      · refine lv_iload hx hb dX8_sells_59 (lv_at hl 0 rfl) ?_
        refine lv_istore (lv' := [(6, zi (vFirm (vNow % 24))), (5, zi (vFirm (vNow % 24))), (4, zi ((made - 2) + 0)), (3, zi 0), (2, zi 2), (0, .ref (ad 0)), (1, zi made)]) hx hb dX8_sells_61 hl (by decide) rfl (fun ls hl => ?_)
        refine lv_aload_n hx hb dX8_sells_63 rfl (lv_at hl 5 rfl) ?_
        refine va_get (D := G) (ci := 9) (v := .ref (ad 17)) (C := RX8) (T := TX8) (N := 40) hx hb hts hinwsX80 hown hK hP 0 rfl rfl 19 (by decide) (hts (.fieldLink RX8 59 "HeliokeepModel" "sums" "[J") (List.mem_of_getElem? (i := 4) rfl)) (fun _ h9 => h9) rfl dX8_sells_64 ?_
        refine hz_bipush hx hb dX8_sells_67 (by decide) ?_
        refine lv_dup2_11 hx hb dX8_sells_69 rfl rfl ?_
        refine hz_lald (f := vSums) hx hb hK hP 17 1 rfl rfl (Nat.le_of_ble_eq_true rfl) (by omega) dX8_sells_70 ?_
        refine lv_iload_n hx hb dX8_sells_71 rfl (lv_at hl 4 rfl) ?_
        refine hz_i2l hx hb dX8_sells_72 (by omega) ?_
        refine hz_ladd hx hb dX8_sells_73 ?_
        refine hz_last (f := vSums) hx hb hK hP hD hS 17 1 rfl rfl (Nat.le_of_ble_eq_true rfl) (by omega) dX8_sells_74 (fun H locs hP hD hS => ?_)
        have hP : va_P G vwCl (mW ad y vThrown vN vC vNow vHaze vCold vHot vPipe vDeg vThaw vTrc vTurb vLeft vLoad vWater vTrips vMissed vBRow vBSum vCell vDirt vAim vErr vCor vBrk vTop vLm vRows vCols vDown vRight vBound vStrain vPrice vFirm (upZ vSums 7 ((vSums 7) + 2)) vRays vFalls vSom vHad) H := hP
        have hD : va_D A (mW ad y vThrown vN vC vNow vHaze vCold vHot vPipe vDeg vThaw vTrc vTurb vLeft vLoad vWater vTrips vMissed vBRow vBSum vCell vDirt vAim vErr vCor vBrk vTop vLm vRows vCols vDown vRight vBound vStrain vPrice vFirm (upZ vSums 7 ((vSums 7) + 2)) vRays vFalls vSom vHad) := hD
        refine lv_aload_n hx hb dX8_sells_75 rfl (lv_at hl 5 rfl) ?_
        refine va_get (D := G) (ci := 9) (v := .ref (ad 17)) (C := RX8) (T := TX8) (N := 40) hx hb hts hinwsX80 hown hK hP 0 rfl rfl 19 (by decide) (hts (.fieldLink RX8 59 "HeliokeepModel" "sums" "[J") (List.mem_of_getElem? (i := 4) rfl)) (fun _ h9 => h9) rfl dX8_sells_76 ?_
        refine hz_bipush hx hb dX8_sells_79 (by decide) ?_
        refine lv_dup2_11 hx hb dX8_sells_81 rfl rfl ?_
        refine hz_lald (f := (upZ vSums 7 ((vSums 7) + 2))) hx hb hK hP 17 1 rfl rfl (Nat.le_of_ble_eq_true rfl) (by omega) dX8_sells_82 ?_
        refine lv_iload_n hx hb dX8_sells_83 rfl (lv_at hl 3 rfl) ?_
        refine hz_i2l hx hb dX8_sells_84 (by omega) ?_
        refine hz_ladd hx hb dX8_sells_85 ?_
        refine hz_last (f := (upZ vSums 7 ((vSums 7) + 2))) hx hb hK hP hD hS 17 1 rfl rfl (Nat.le_of_ble_eq_true rfl) (by omega) dX8_sells_86 (fun H locs hP hD hS => ?_)
        have hP : va_P G vwCl (mW ad y vThrown vN vC vNow vHaze vCold vHot vPipe vDeg vThaw vTrc vTurb vLeft vLoad vWater vTrips vMissed vBRow vBSum vCell vDirt vAim vErr vCor vBrk vTop vLm vRows vCols vDown vRight vBound vStrain vPrice vFirm (upZ (upZ vSums 7 ((vSums 7) + 2)) 8 (((upZ vSums 7 ((vSums 7) + 2)) 8) + 0)) vRays vFalls vSom vHad) H := hP
        have hD : va_D A (mW ad y vThrown vN vC vNow vHaze vCold vHot vPipe vDeg vThaw vTrc vTurb vLeft vLoad vWater vTrips vMissed vBRow vBSum vCell vDirt vAim vErr vCor vBrk vTop vLm vRows vCols vDown vRight vBound vStrain vPrice vFirm (upZ (upZ vSums 7 ((vSums 7) + 2)) 8 (((upZ vSums 7 ((vSums 7) + 2)) 8) + 0)) vRays vFalls vSom vHad) := hD
        refine lv_aload_n hx hb dX8_sells_87 rfl (lv_at hl 5 rfl) ?_
        refine va_get (D := G) (ci := 9) (v := .ref (ad 17)) (C := RX8) (T := TX8) (N := 40) hx hb hts hinwsX80 hown hK hP 0 rfl rfl 19 (by decide) (hts (.fieldLink RX8 59 "HeliokeepModel" "sums" "[J") (List.mem_of_getElem? (i := 4) rfl)) (fun _ h9 => h9) rfl dX8_sells_88 ?_
        refine hz_bipush hx hb dX8_sells_91 (by decide) ?_
        refine lv_dup2_11 hx hb dX8_sells_93 rfl rfl ?_
        refine hz_lald (f := (upZ (upZ vSums 7 ((vSums 7) + 2)) 8 (((upZ vSums 7 ((vSums 7) + 2)) 8) + 0))) hx hb hK hP 17 1 rfl rfl (Nat.le_of_ble_eq_true rfl) (by omega) dX8_sells_94 ?_
        refine lv_iload hx hb dX8_sells_95 (lv_at hl 0 rfl) ?_
        refine hz_i2l hx hb dX8_sells_97 (by omega) ?_
        refine hz_ladd hx hb dX8_sells_98 ?_
        refine hz_last (f := (upZ (upZ vSums 7 ((vSums 7) + 2)) 8 (((upZ vSums 7 ((vSums 7) + 2)) 8) + 0))) hx hb hK hP hD hS 17 1 rfl rfl (Nat.le_of_ble_eq_true rfl) (by omega) dX8_sells_99 (fun H locs hP hD hS => ?_)
        have hP : va_P G vwCl (mW ad y vThrown vN vC vNow vHaze vCold vHot vPipe vDeg vThaw vTrc vTurb vLeft vLoad vWater vTrips vMissed vBRow vBSum vCell vDirt vAim vErr vCor vBrk vTop vLm vRows vCols vDown vRight vBound vStrain vPrice vFirm (upZ (upZ (upZ vSums 7 ((vSums 7) + 2)) 8 (((upZ vSums 7 ((vSums 7) + 2)) 8) + 0)) 9 (((upZ (upZ vSums 7 ((vSums 7) + 2)) 8 (((upZ vSums 7 ((vSums 7) + 2)) 8) + 0)) 9) + (vFirm (vNow % 24)))) vRays vFalls vSom vHad) H := hP
        have hD : va_D A (mW ad y vThrown vN vC vNow vHaze vCold vHot vPipe vDeg vThaw vTrc vTurb vLeft vLoad vWater vTrips vMissed vBRow vBSum vCell vDirt vAim vErr vCor vBrk vTop vLm vRows vCols vDown vRight vBound vStrain vPrice vFirm (upZ (upZ (upZ vSums 7 ((vSums 7) + 2)) 8 (((upZ vSums 7 ((vSums 7) + 2)) 8) + 0)) 9 (((upZ (upZ vSums 7 ((vSums 7) + 2)) 8 (((upZ vSums 7 ((vSums 7) + 2)) 8) + 0)) 9) + (vFirm (vNow % 24)))) vRays vFalls vSom vHad) := hD
        refine lv_aload_n hx hb dX8_sells_100 rfl (lv_at hl 5 rfl) ?_
        refine va_get (D := G) (ci := 9) (v := .ref (ad 17)) (C := RX8) (T := TX8) (N := 40) hx hb hts hinwsX80 hown hK hP 0 rfl rfl 19 (by decide) (hts (.fieldLink RX8 59 "HeliokeepModel" "sums" "[J") (List.mem_of_getElem? (i := 4) rfl)) (fun _ h9 => h9) rfl dX8_sells_101 ?_
        refine hz_bipush hx hb dX8_sells_104 (by decide) ?_
        refine lv_dup2_11 hx hb dX8_sells_106 rfl rfl ?_
        refine hz_lald (f := (upZ (upZ (upZ vSums 7 ((vSums 7) + 2)) 8 (((upZ vSums 7 ((vSums 7) + 2)) 8) + 0)) 9 (((upZ (upZ vSums 7 ((vSums 7) + 2)) 8 (((upZ vSums 7 ((vSums 7) + 2)) 8) + 0)) 9) + (vFirm (vNow % 24))))) hx hb hK hP 17 1 rfl rfl (Nat.le_of_ble_eq_true rfl) (by omega) dX8_sells_107 ?_
        refine lv_iload hx hb dX8_sells_108 (lv_at hl 1 rfl) ?_
        refine lv_iload hx hb dX8_sells_110 (lv_at hl 0 rfl) ?_
        refine hz_isub hx hb dX8_sells_112 ?_
        refine hz_i2l hx hb dX8_sells_113 (by omega) ?_
        refine hz_ladd hx hb dX8_sells_114 ?_
        refine hz_topl (fun z38 e39 => ?_)
        refine hz_last (f := (upZ (upZ (upZ vSums 7 ((vSums 7) + 2)) 8 (((upZ vSums 7 ((vSums 7) + 2)) 8) + 0)) 9 (((upZ (upZ vSums 7 ((vSums 7) + 2)) 8 (((upZ vSums 7 ((vSums 7) + 2)) 8) + 0)) 9) + (vFirm (vNow % 24))))) hx hb hK hP hD hS 17 1 rfl rfl (Nat.le_of_ble_eq_true rfl) (by omega) dX8_sells_115 (fun H locs hP hD hS => ?_)
        have hP : va_P G vwCl (mW ad y vThrown vN vC vNow vHaze vCold vHot vPipe vDeg vThaw vTrc vTurb vLeft vLoad vWater vTrips vMissed vBRow vBSum vCell vDirt vAim vErr vCor vBrk vTop vLm vRows vCols vDown vRight vBound vStrain vPrice vFirm (upZ (upZ (upZ (upZ vSums 7 ((vSums 7) + 2)) 8 (((upZ vSums 7 ((vSums 7) + 2)) 8) + 0)) 9 (((upZ (upZ vSums 7 ((vSums 7) + 2)) 8 (((upZ vSums 7 ((vSums 7) + 2)) 8) + 0)) 9) + (vFirm (vNow % 24)))) 10 z38) vRays vFalls vSom vHad) H := hP
        have hD : va_D A (mW ad y vThrown vN vC vNow vHaze vCold vHot vPipe vDeg vThaw vTrc vTurb vLeft vLoad vWater vTrips vMissed vBRow vBSum vCell vDirt vAim vErr vCor vBrk vTop vLm vRows vCols vDown vRight vBound vStrain vPrice vFirm (upZ (upZ (upZ (upZ vSums 7 ((vSums 7) + 2)) 8 (((upZ vSums 7 ((vSums 7) + 2)) 8) + 0)) 9 (((upZ (upZ vSums 7 ((vSums 7) + 2)) 8 (((upZ vSums 7 ((vSums 7) + 2)) 8) + 0)) 9) + (vFirm (vNow % 24)))) 10 z38) vRays vFalls vSom vHad) := hD
        refine lv_aload_n hx hb dX8_sells_116 rfl (lv_at hl 5 rfl) ?_
        refine va_get (D := G) (ci := 9) (v := .ref (ad 17)) (C := RX8) (T := TX8) (N := 40) hx hb hts hinwsX80 hown hK hP 0 rfl rfl 19 (by decide) (hts (.fieldLink RX8 59 "HeliokeepModel" "sums" "[J") (List.mem_of_getElem? (i := 4) rfl)) (fun _ h9 => h9) rfl dX8_sells_117 ?_
        refine hz_bipush hx hb dX8_sells_120 (by decide) ?_
        refine lv_dup2_11 hx hb dX8_sells_122 rfl rfl ?_
        refine hz_lald (f := (upZ (upZ (upZ (upZ vSums 7 ((vSums 7) + 2)) 8 (((upZ vSums 7 ((vSums 7) + 2)) 8) + 0)) 9 (((upZ (upZ vSums 7 ((vSums 7) + 2)) 8 (((upZ vSums 7 ((vSums 7) + 2)) 8) + 0)) 9) + (vFirm (vNow % 24)))) 10 z38)) hx hb hK hP 17 1 rfl rfl (Nat.le_of_ble_eq_true rfl) (by omega) dX8_sells_123 ?_
        refine lv_iload hx hb dX8_sells_124 (lv_at hl 2 rfl) ?_
        refine lv_iload hx hb dX8_sells_126 (lv_at hl 0 rfl) ?_
        refine hz_isub hx hb dX8_sells_128 ?_
        refine hz_i2l hx hb dX8_sells_129 (by omega) ?_
        refine hz_ladd hx hb dX8_sells_130 ?_
        refine hz_topl (fun z40 e41 => ?_)
        refine hz_last (f := (upZ (upZ (upZ (upZ vSums 7 ((vSums 7) + 2)) 8 (((upZ vSums 7 ((vSums 7) + 2)) 8) + 0)) 9 (((upZ (upZ vSums 7 ((vSums 7) + 2)) 8 (((upZ vSums 7 ((vSums 7) + 2)) 8) + 0)) 9) + (vFirm (vNow % 24)))) 10 z38)) hx hb hK hP hD hS 17 1 rfl rfl (Nat.le_of_ble_eq_true rfl) (by omega) dX8_sells_131 (fun H locs hP hD hS => ?_)
        have hP : va_P G vwCl (mW ad y vThrown vN vC vNow vHaze vCold vHot vPipe vDeg vThaw vTrc vTurb vLeft vLoad vWater vTrips vMissed vBRow vBSum vCell vDirt vAim vErr vCor vBrk vTop vLm vRows vCols vDown vRight vBound vStrain vPrice vFirm (upZ (upZ (upZ (upZ (upZ vSums 7 ((vSums 7) + 2)) 8 (((upZ vSums 7 ((vSums 7) + 2)) 8) + 0)) 9 (((upZ (upZ vSums 7 ((vSums 7) + 2)) 8 (((upZ vSums 7 ((vSums 7) + 2)) 8) + 0)) 9) + (vFirm (vNow % 24)))) 10 z38) 11 z40) vRays vFalls vSom vHad) H := hP
        have hD : va_D A (mW ad y vThrown vN vC vNow vHaze vCold vHot vPipe vDeg vThaw vTrc vTurb vLeft vLoad vWater vTrips vMissed vBRow vBSum vCell vDirt vAim vErr vCor vBrk vTop vLm vRows vCols vDown vRight vBound vStrain vPrice vFirm (upZ (upZ (upZ (upZ (upZ vSums 7 ((vSums 7) + 2)) 8 (((upZ vSums 7 ((vSums 7) + 2)) 8) + 0)) 9 (((upZ (upZ vSums 7 ((vSums 7) + 2)) 8 (((upZ vSums 7 ((vSums 7) + 2)) 8) + 0)) 9) + (vFirm (vNow % 24)))) 10 z38) 11 z40) vRays vFalls vSom vHad) := hD
        refine lv_aload_n hx hb dX8_sells_132 rfl (lv_at hl 5 rfl) ?_
        refine va_get (D := G) (ci := 9) (v := .ref (ad 17)) (C := RX8) (T := TX8) (N := 40) hx hb hts hinwsX80 hown hK hP 0 rfl rfl 19 (by decide) (hts (.fieldLink RX8 59 "HeliokeepModel" "sums" "[J") (List.mem_of_getElem? (i := 4) rfl)) (fun _ h9 => h9) rfl dX8_sells_133 ?_
        refine hz_bipush hx hb dX8_sells_136 (by decide) ?_
        refine lv_dup2_11 hx hb dX8_sells_138 rfl rfl ?_
        refine hz_lald (f := (upZ (upZ (upZ (upZ (upZ vSums 7 ((vSums 7) + 2)) 8 (((upZ vSums 7 ((vSums 7) + 2)) 8) + 0)) 9 (((upZ (upZ vSums 7 ((vSums 7) + 2)) 8 (((upZ vSums 7 ((vSums 7) + 2)) 8) + 0)) 9) + (vFirm (vNow % 24)))) 10 z38) 11 z40)) hx hb hK hP 17 1 rfl rfl (Nat.le_of_ble_eq_true rfl) (by omega) dX8_sells_139 ?_
        refine lv_iload hx hb dX8_sells_140 (lv_at hl 2 rfl) ?_
        refine lv_iload hx hb dX8_sells_142 (lv_at hl 0 rfl) ?_
        refine hz_isub hx hb dX8_sells_144 ?_
        refine hz_i2l hx hb dX8_sells_145 (by omega) ?_
        refine lv_aload_n hx hb dX8_sells_146 rfl (lv_at hl 5 rfl) ?_
        refine va_get (D := G) (ci := 9) (v := .ref (ad 15)) (C := RX8) (T := TX8) (N := 40) hx hb hts hinwsX80 hown hK hP 0 rfl rfl 17 (by decide) (hts (.fieldLink RX8 53 "HeliokeepModel" "price" "[I") (List.mem_of_getElem? (i := 5) rfl)) (fun _ h9 => h9) rfl dX8_sells_147 ?_
        refine lv_aload_n hx hb dX8_sells_150 rfl (lv_at hl 5 rfl) ?_
        refine va_get (D := G) (ci := 9) (v := zi vNow) (C := RX8) (T := TX8) (N := 40) hx hb hts hinwsX80 hown hK hP 0 rfl rfl 20 (by decide) (hts (.fieldLink RX8 108 "HeliokeepModel" "now" "I") (List.mem_of_getElem? (i := 3) rfl)) (fun _ h9 => h9) rfl dX8_sells_151 ?_
        refine hz_bipush hx hb dX8_sells_154 (by decide) ?_
        refine hz_irem hx hb dX8_sells_156 (by omega) ?_
        refine hz_iald (f := vPrice) hx hb hK hP 15 0 rfl rfl (Nat.le_of_ble_eq_true rfl) (by omega) dX8_sells_157 ?_
        have q42 := hPrice (vNow % 24)
        refine hz_i2l hx hb dX8_sells_158 (by omega) ?_
        refine hz_lmul hx hb dX8_sells_159 ?_
        refine hz_ladd hx hb dX8_sells_160 ?_
        refine hz_topl (fun z43 e44 => ?_)
        refine hz_last (f := (upZ (upZ (upZ (upZ (upZ vSums 7 ((vSums 7) + 2)) 8 (((upZ vSums 7 ((vSums 7) + 2)) 8) + 0)) 9 (((upZ (upZ vSums 7 ((vSums 7) + 2)) 8 (((upZ vSums 7 ((vSums 7) + 2)) 8) + 0)) 9) + (vFirm (vNow % 24)))) 10 z38) 11 z40)) hx hb hK hP hD hS 17 1 rfl rfl (Nat.le_of_ble_eq_true rfl) (by omega) dX8_sells_161 (fun H locs hP hD hS => ?_)
        have hP : va_P G vwCl (mW ad y vThrown vN vC vNow vHaze vCold vHot vPipe vDeg vThaw vTrc vTurb vLeft vLoad vWater vTrips vMissed vBRow vBSum vCell vDirt vAim vErr vCor vBrk vTop vLm vRows vCols vDown vRight vBound vStrain vPrice vFirm (upZ (upZ (upZ (upZ (upZ (upZ vSums 7 ((vSums 7) + 2)) 8 (((upZ vSums 7 ((vSums 7) + 2)) 8) + 0)) 9 (((upZ (upZ vSums 7 ((vSums 7) + 2)) 8 (((upZ vSums 7 ((vSums 7) + 2)) 8) + 0)) 9) + (vFirm (vNow % 24)))) 10 z38) 11 z40) 12 z43) vRays vFalls vSom vHad) H := hP
        have hD : va_D A (mW ad y vThrown vN vC vNow vHaze vCold vHot vPipe vDeg vThaw vTrc vTurb vLeft vLoad vWater vTrips vMissed vBRow vBSum vCell vDirt vAim vErr vCor vBrk vTop vLm vRows vCols vDown vRight vBound vStrain vPrice vFirm (upZ (upZ (upZ (upZ (upZ (upZ vSums 7 ((vSums 7) + 2)) 8 (((upZ vSums 7 ((vSums 7) + 2)) 8) + 0)) 9 (((upZ (upZ vSums 7 ((vSums 7) + 2)) 8 (((upZ vSums 7 ((vSums 7) + 2)) 8) + 0)) 9) + (vFirm (vNow % 24)))) 10 z38) 11 z40) 12 z43) vRays vFalls vSom vHad) := hD
        exact W.vret hx hb hr (fun t ht hW => ⟨⟨((upZ (upZ (upZ (upZ (upZ (upZ vSums 7 ((vSums 7) + 2)) 8 (((upZ vSums 7 ((vSums 7) + 2)) 8) + 0)) 9 (((upZ (upZ vSums 7 ((vSums 7) + 2)) 8 (((upZ vSums 7 ((vSums 7) + 2)) 8) + 0)) 9) + (vFirm (vNow % 24)))) 10 z38) 11 z40) 12 z43)), rfl, (show (upZ (upZ (upZ (upZ (upZ (upZ vSums 7 ((vSums 7) + 2)) 8 (((upZ vSums 7 ((vSums 7) + 2)) 8) + 0)) 9 (((upZ (upZ vSums 7 ((vSums 7) + 2)) 8 (((upZ vSums 7 ((vSums 7) + 2)) 8) + 0)) 9) + (vFirm (vNow % 24)))) 10 z38) 11 z40) 12 z43) = slZ vSums (toZ vTrc) (boZ vTrc made) (made - toZ vTrc + boZ vTrc made) (dlZ vTrc made (vFirm (vNow % 24))) (vFirm (vNow % 24)) (vPrice (vNow % 24)) from by
          have e1 : toZ vTrc = (2 : Int) := by unfold toZ; omega
          have e2 : boZ vTrc made = (0 : Int) := by unfold boZ; omega
          have e3 : made - toZ vTrc + boZ vTrc made = ((made - 2) + 0) := by rw [e1, e2]
          have e4 : dlZ vTrc made (vFirm (vNow % 24)) = (vFirm (vNow % 24)) := by unfold dlZ; omega
          rw [e3, e4, e2, e1]
          subst_vars
          rfl), hz_at hP ht⟩, hS.F ht⟩) hS.2.2 dX8_sells_162
      · refine lv_iload hx hb dX8_sells_54 (lv_at hl 1 rfl) ?_
        refine lv_goto (tgt := 61) hx hb dX8_sells_56 (by decide) ?_
        refine lv_istore (lv' := [(6, zi ((made - 2) + 0)), (5, zi (vFirm (vNow % 24))), (4, zi ((made - 2) + 0)), (3, zi 0), (2, zi 2), (0, .ref (ad 0)), (1, zi made)]) hx hb dX8_sells_61 hl (by decide) rfl (fun ls hl => ?_)
        refine lv_aload_n hx hb dX8_sells_63 rfl (lv_at hl 5 rfl) ?_
        refine va_get (D := G) (ci := 9) (v := .ref (ad 17)) (C := RX8) (T := TX8) (N := 40) hx hb hts hinwsX80 hown hK hP 0 rfl rfl 19 (by decide) (hts (.fieldLink RX8 59 "HeliokeepModel" "sums" "[J") (List.mem_of_getElem? (i := 4) rfl)) (fun _ h9 => h9) rfl dX8_sells_64 ?_
        refine hz_bipush hx hb dX8_sells_67 (by decide) ?_
        refine lv_dup2_11 hx hb dX8_sells_69 rfl rfl ?_
        refine hz_lald (f := vSums) hx hb hK hP 17 1 rfl rfl (Nat.le_of_ble_eq_true rfl) (by omega) dX8_sells_70 ?_
        refine lv_iload_n hx hb dX8_sells_71 rfl (lv_at hl 4 rfl) ?_
        refine hz_i2l hx hb dX8_sells_72 (by omega) ?_
        refine hz_ladd hx hb dX8_sells_73 ?_
        refine hz_last (f := vSums) hx hb hK hP hD hS 17 1 rfl rfl (Nat.le_of_ble_eq_true rfl) (by omega) dX8_sells_74 (fun H locs hP hD hS => ?_)
        have hP : va_P G vwCl (mW ad y vThrown vN vC vNow vHaze vCold vHot vPipe vDeg vThaw vTrc vTurb vLeft vLoad vWater vTrips vMissed vBRow vBSum vCell vDirt vAim vErr vCor vBrk vTop vLm vRows vCols vDown vRight vBound vStrain vPrice vFirm (upZ vSums 7 ((vSums 7) + 2)) vRays vFalls vSom vHad) H := hP
        have hD : va_D A (mW ad y vThrown vN vC vNow vHaze vCold vHot vPipe vDeg vThaw vTrc vTurb vLeft vLoad vWater vTrips vMissed vBRow vBSum vCell vDirt vAim vErr vCor vBrk vTop vLm vRows vCols vDown vRight vBound vStrain vPrice vFirm (upZ vSums 7 ((vSums 7) + 2)) vRays vFalls vSom vHad) := hD
        refine lv_aload_n hx hb dX8_sells_75 rfl (lv_at hl 5 rfl) ?_
        refine va_get (D := G) (ci := 9) (v := .ref (ad 17)) (C := RX8) (T := TX8) (N := 40) hx hb hts hinwsX80 hown hK hP 0 rfl rfl 19 (by decide) (hts (.fieldLink RX8 59 "HeliokeepModel" "sums" "[J") (List.mem_of_getElem? (i := 4) rfl)) (fun _ h9 => h9) rfl dX8_sells_76 ?_
        refine hz_bipush hx hb dX8_sells_79 (by decide) ?_
        refine lv_dup2_11 hx hb dX8_sells_81 rfl rfl ?_
        refine hz_lald (f := (upZ vSums 7 ((vSums 7) + 2))) hx hb hK hP 17 1 rfl rfl (Nat.le_of_ble_eq_true rfl) (by omega) dX8_sells_82 ?_
        refine lv_iload_n hx hb dX8_sells_83 rfl (lv_at hl 3 rfl) ?_
        refine hz_i2l hx hb dX8_sells_84 (by omega) ?_
        refine hz_ladd hx hb dX8_sells_85 ?_
        refine hz_last (f := (upZ vSums 7 ((vSums 7) + 2))) hx hb hK hP hD hS 17 1 rfl rfl (Nat.le_of_ble_eq_true rfl) (by omega) dX8_sells_86 (fun H locs hP hD hS => ?_)
        have hP : va_P G vwCl (mW ad y vThrown vN vC vNow vHaze vCold vHot vPipe vDeg vThaw vTrc vTurb vLeft vLoad vWater vTrips vMissed vBRow vBSum vCell vDirt vAim vErr vCor vBrk vTop vLm vRows vCols vDown vRight vBound vStrain vPrice vFirm (upZ (upZ vSums 7 ((vSums 7) + 2)) 8 (((upZ vSums 7 ((vSums 7) + 2)) 8) + 0)) vRays vFalls vSom vHad) H := hP
        have hD : va_D A (mW ad y vThrown vN vC vNow vHaze vCold vHot vPipe vDeg vThaw vTrc vTurb vLeft vLoad vWater vTrips vMissed vBRow vBSum vCell vDirt vAim vErr vCor vBrk vTop vLm vRows vCols vDown vRight vBound vStrain vPrice vFirm (upZ (upZ vSums 7 ((vSums 7) + 2)) 8 (((upZ vSums 7 ((vSums 7) + 2)) 8) + 0)) vRays vFalls vSom vHad) := hD
        refine lv_aload_n hx hb dX8_sells_87 rfl (lv_at hl 5 rfl) ?_
        refine va_get (D := G) (ci := 9) (v := .ref (ad 17)) (C := RX8) (T := TX8) (N := 40) hx hb hts hinwsX80 hown hK hP 0 rfl rfl 19 (by decide) (hts (.fieldLink RX8 59 "HeliokeepModel" "sums" "[J") (List.mem_of_getElem? (i := 4) rfl)) (fun _ h9 => h9) rfl dX8_sells_88 ?_
        refine hz_bipush hx hb dX8_sells_91 (by decide) ?_
        refine lv_dup2_11 hx hb dX8_sells_93 rfl rfl ?_
        refine hz_lald (f := (upZ (upZ vSums 7 ((vSums 7) + 2)) 8 (((upZ vSums 7 ((vSums 7) + 2)) 8) + 0))) hx hb hK hP 17 1 rfl rfl (Nat.le_of_ble_eq_true rfl) (by omega) dX8_sells_94 ?_
        refine lv_iload hx hb dX8_sells_95 (lv_at hl 0 rfl) ?_
        refine hz_i2l hx hb dX8_sells_97 (by omega) ?_
        refine hz_ladd hx hb dX8_sells_98 ?_
        refine hz_last (f := (upZ (upZ vSums 7 ((vSums 7) + 2)) 8 (((upZ vSums 7 ((vSums 7) + 2)) 8) + 0))) hx hb hK hP hD hS 17 1 rfl rfl (Nat.le_of_ble_eq_true rfl) (by omega) dX8_sells_99 (fun H locs hP hD hS => ?_)
        have hP : va_P G vwCl (mW ad y vThrown vN vC vNow vHaze vCold vHot vPipe vDeg vThaw vTrc vTurb vLeft vLoad vWater vTrips vMissed vBRow vBSum vCell vDirt vAim vErr vCor vBrk vTop vLm vRows vCols vDown vRight vBound vStrain vPrice vFirm (upZ (upZ (upZ vSums 7 ((vSums 7) + 2)) 8 (((upZ vSums 7 ((vSums 7) + 2)) 8) + 0)) 9 (((upZ (upZ vSums 7 ((vSums 7) + 2)) 8 (((upZ vSums 7 ((vSums 7) + 2)) 8) + 0)) 9) + ((made - 2) + 0))) vRays vFalls vSom vHad) H := hP
        have hD : va_D A (mW ad y vThrown vN vC vNow vHaze vCold vHot vPipe vDeg vThaw vTrc vTurb vLeft vLoad vWater vTrips vMissed vBRow vBSum vCell vDirt vAim vErr vCor vBrk vTop vLm vRows vCols vDown vRight vBound vStrain vPrice vFirm (upZ (upZ (upZ vSums 7 ((vSums 7) + 2)) 8 (((upZ vSums 7 ((vSums 7) + 2)) 8) + 0)) 9 (((upZ (upZ vSums 7 ((vSums 7) + 2)) 8 (((upZ vSums 7 ((vSums 7) + 2)) 8) + 0)) 9) + ((made - 2) + 0))) vRays vFalls vSom vHad) := hD
        refine lv_aload_n hx hb dX8_sells_100 rfl (lv_at hl 5 rfl) ?_
        refine va_get (D := G) (ci := 9) (v := .ref (ad 17)) (C := RX8) (T := TX8) (N := 40) hx hb hts hinwsX80 hown hK hP 0 rfl rfl 19 (by decide) (hts (.fieldLink RX8 59 "HeliokeepModel" "sums" "[J") (List.mem_of_getElem? (i := 4) rfl)) (fun _ h9 => h9) rfl dX8_sells_101 ?_
        refine hz_bipush hx hb dX8_sells_104 (by decide) ?_
        refine lv_dup2_11 hx hb dX8_sells_106 rfl rfl ?_
        refine hz_lald (f := (upZ (upZ (upZ vSums 7 ((vSums 7) + 2)) 8 (((upZ vSums 7 ((vSums 7) + 2)) 8) + 0)) 9 (((upZ (upZ vSums 7 ((vSums 7) + 2)) 8 (((upZ vSums 7 ((vSums 7) + 2)) 8) + 0)) 9) + ((made - 2) + 0)))) hx hb hK hP 17 1 rfl rfl (Nat.le_of_ble_eq_true rfl) (by omega) dX8_sells_107 ?_
        refine lv_iload hx hb dX8_sells_108 (lv_at hl 1 rfl) ?_
        refine lv_iload hx hb dX8_sells_110 (lv_at hl 0 rfl) ?_
        refine hz_isub hx hb dX8_sells_112 ?_
        refine hz_i2l hx hb dX8_sells_113 (by omega) ?_
        refine hz_ladd hx hb dX8_sells_114 ?_
        refine hz_topl (fun z45 e46 => ?_)
        refine hz_last (f := (upZ (upZ (upZ vSums 7 ((vSums 7) + 2)) 8 (((upZ vSums 7 ((vSums 7) + 2)) 8) + 0)) 9 (((upZ (upZ vSums 7 ((vSums 7) + 2)) 8 (((upZ vSums 7 ((vSums 7) + 2)) 8) + 0)) 9) + ((made - 2) + 0)))) hx hb hK hP hD hS 17 1 rfl rfl (Nat.le_of_ble_eq_true rfl) (by omega) dX8_sells_115 (fun H locs hP hD hS => ?_)
        have hP : va_P G vwCl (mW ad y vThrown vN vC vNow vHaze vCold vHot vPipe vDeg vThaw vTrc vTurb vLeft vLoad vWater vTrips vMissed vBRow vBSum vCell vDirt vAim vErr vCor vBrk vTop vLm vRows vCols vDown vRight vBound vStrain vPrice vFirm (upZ (upZ (upZ (upZ vSums 7 ((vSums 7) + 2)) 8 (((upZ vSums 7 ((vSums 7) + 2)) 8) + 0)) 9 (((upZ (upZ vSums 7 ((vSums 7) + 2)) 8 (((upZ vSums 7 ((vSums 7) + 2)) 8) + 0)) 9) + ((made - 2) + 0))) 10 z45) vRays vFalls vSom vHad) H := hP
        have hD : va_D A (mW ad y vThrown vN vC vNow vHaze vCold vHot vPipe vDeg vThaw vTrc vTurb vLeft vLoad vWater vTrips vMissed vBRow vBSum vCell vDirt vAim vErr vCor vBrk vTop vLm vRows vCols vDown vRight vBound vStrain vPrice vFirm (upZ (upZ (upZ (upZ vSums 7 ((vSums 7) + 2)) 8 (((upZ vSums 7 ((vSums 7) + 2)) 8) + 0)) 9 (((upZ (upZ vSums 7 ((vSums 7) + 2)) 8 (((upZ vSums 7 ((vSums 7) + 2)) 8) + 0)) 9) + ((made - 2) + 0))) 10 z45) vRays vFalls vSom vHad) := hD
        refine lv_aload_n hx hb dX8_sells_116 rfl (lv_at hl 5 rfl) ?_
        refine va_get (D := G) (ci := 9) (v := .ref (ad 17)) (C := RX8) (T := TX8) (N := 40) hx hb hts hinwsX80 hown hK hP 0 rfl rfl 19 (by decide) (hts (.fieldLink RX8 59 "HeliokeepModel" "sums" "[J") (List.mem_of_getElem? (i := 4) rfl)) (fun _ h9 => h9) rfl dX8_sells_117 ?_
        refine hz_bipush hx hb dX8_sells_120 (by decide) ?_
        refine lv_dup2_11 hx hb dX8_sells_122 rfl rfl ?_
        refine hz_lald (f := (upZ (upZ (upZ (upZ vSums 7 ((vSums 7) + 2)) 8 (((upZ vSums 7 ((vSums 7) + 2)) 8) + 0)) 9 (((upZ (upZ vSums 7 ((vSums 7) + 2)) 8 (((upZ vSums 7 ((vSums 7) + 2)) 8) + 0)) 9) + ((made - 2) + 0))) 10 z45)) hx hb hK hP 17 1 rfl rfl (Nat.le_of_ble_eq_true rfl) (by omega) dX8_sells_123 ?_
        refine lv_iload hx hb dX8_sells_124 (lv_at hl 2 rfl) ?_
        refine lv_iload hx hb dX8_sells_126 (lv_at hl 0 rfl) ?_
        refine hz_isub hx hb dX8_sells_128 ?_
        refine hz_i2l hx hb dX8_sells_129 (by omega) ?_
        refine hz_ladd hx hb dX8_sells_130 ?_
        refine hz_topl (fun z47 e48 => ?_)
        refine hz_last (f := (upZ (upZ (upZ (upZ vSums 7 ((vSums 7) + 2)) 8 (((upZ vSums 7 ((vSums 7) + 2)) 8) + 0)) 9 (((upZ (upZ vSums 7 ((vSums 7) + 2)) 8 (((upZ vSums 7 ((vSums 7) + 2)) 8) + 0)) 9) + ((made - 2) + 0))) 10 z45)) hx hb hK hP hD hS 17 1 rfl rfl (Nat.le_of_ble_eq_true rfl) (by omega) dX8_sells_131 (fun H locs hP hD hS => ?_)
        have hP : va_P G vwCl (mW ad y vThrown vN vC vNow vHaze vCold vHot vPipe vDeg vThaw vTrc vTurb vLeft vLoad vWater vTrips vMissed vBRow vBSum vCell vDirt vAim vErr vCor vBrk vTop vLm vRows vCols vDown vRight vBound vStrain vPrice vFirm (upZ (upZ (upZ (upZ (upZ vSums 7 ((vSums 7) + 2)) 8 (((upZ vSums 7 ((vSums 7) + 2)) 8) + 0)) 9 (((upZ (upZ vSums 7 ((vSums 7) + 2)) 8 (((upZ vSums 7 ((vSums 7) + 2)) 8) + 0)) 9) + ((made - 2) + 0))) 10 z45) 11 z47) vRays vFalls vSom vHad) H := hP
        have hD : va_D A (mW ad y vThrown vN vC vNow vHaze vCold vHot vPipe vDeg vThaw vTrc vTurb vLeft vLoad vWater vTrips vMissed vBRow vBSum vCell vDirt vAim vErr vCor vBrk vTop vLm vRows vCols vDown vRight vBound vStrain vPrice vFirm (upZ (upZ (upZ (upZ (upZ vSums 7 ((vSums 7) + 2)) 8 (((upZ vSums 7 ((vSums 7) + 2)) 8) + 0)) 9 (((upZ (upZ vSums 7 ((vSums 7) + 2)) 8 (((upZ vSums 7 ((vSums 7) + 2)) 8) + 0)) 9) + ((made - 2) + 0))) 10 z45) 11 z47) vRays vFalls vSom vHad) := hD
        refine lv_aload_n hx hb dX8_sells_132 rfl (lv_at hl 5 rfl) ?_
        refine va_get (D := G) (ci := 9) (v := .ref (ad 17)) (C := RX8) (T := TX8) (N := 40) hx hb hts hinwsX80 hown hK hP 0 rfl rfl 19 (by decide) (hts (.fieldLink RX8 59 "HeliokeepModel" "sums" "[J") (List.mem_of_getElem? (i := 4) rfl)) (fun _ h9 => h9) rfl dX8_sells_133 ?_
        refine hz_bipush hx hb dX8_sells_136 (by decide) ?_
        refine lv_dup2_11 hx hb dX8_sells_138 rfl rfl ?_
        refine hz_lald (f := (upZ (upZ (upZ (upZ (upZ vSums 7 ((vSums 7) + 2)) 8 (((upZ vSums 7 ((vSums 7) + 2)) 8) + 0)) 9 (((upZ (upZ vSums 7 ((vSums 7) + 2)) 8 (((upZ vSums 7 ((vSums 7) + 2)) 8) + 0)) 9) + ((made - 2) + 0))) 10 z45) 11 z47)) hx hb hK hP 17 1 rfl rfl (Nat.le_of_ble_eq_true rfl) (by omega) dX8_sells_139 ?_
        refine lv_iload hx hb dX8_sells_140 (lv_at hl 2 rfl) ?_
        refine lv_iload hx hb dX8_sells_142 (lv_at hl 0 rfl) ?_
        refine hz_isub hx hb dX8_sells_144 ?_
        refine hz_i2l hx hb dX8_sells_145 (by omega) ?_
        refine lv_aload_n hx hb dX8_sells_146 rfl (lv_at hl 5 rfl) ?_
        refine va_get (D := G) (ci := 9) (v := .ref (ad 15)) (C := RX8) (T := TX8) (N := 40) hx hb hts hinwsX80 hown hK hP 0 rfl rfl 17 (by decide) (hts (.fieldLink RX8 53 "HeliokeepModel" "price" "[I") (List.mem_of_getElem? (i := 5) rfl)) (fun _ h9 => h9) rfl dX8_sells_147 ?_
        refine lv_aload_n hx hb dX8_sells_150 rfl (lv_at hl 5 rfl) ?_
        refine va_get (D := G) (ci := 9) (v := zi vNow) (C := RX8) (T := TX8) (N := 40) hx hb hts hinwsX80 hown hK hP 0 rfl rfl 20 (by decide) (hts (.fieldLink RX8 108 "HeliokeepModel" "now" "I") (List.mem_of_getElem? (i := 3) rfl)) (fun _ h9 => h9) rfl dX8_sells_151 ?_
        refine hz_bipush hx hb dX8_sells_154 (by decide) ?_
        refine hz_irem hx hb dX8_sells_156 (by omega) ?_
        refine hz_iald (f := vPrice) hx hb hK hP 15 0 rfl rfl (Nat.le_of_ble_eq_true rfl) (by omega) dX8_sells_157 ?_
        have q49 := hPrice (vNow % 24)
        refine hz_i2l hx hb dX8_sells_158 (by omega) ?_
        refine hz_lmul hx hb dX8_sells_159 ?_
        refine hz_ladd hx hb dX8_sells_160 ?_
        refine hz_topl (fun z50 e51 => ?_)
        refine hz_last (f := (upZ (upZ (upZ (upZ (upZ vSums 7 ((vSums 7) + 2)) 8 (((upZ vSums 7 ((vSums 7) + 2)) 8) + 0)) 9 (((upZ (upZ vSums 7 ((vSums 7) + 2)) 8 (((upZ vSums 7 ((vSums 7) + 2)) 8) + 0)) 9) + ((made - 2) + 0))) 10 z45) 11 z47)) hx hb hK hP hD hS 17 1 rfl rfl (Nat.le_of_ble_eq_true rfl) (by omega) dX8_sells_161 (fun H locs hP hD hS => ?_)
        have hP : va_P G vwCl (mW ad y vThrown vN vC vNow vHaze vCold vHot vPipe vDeg vThaw vTrc vTurb vLeft vLoad vWater vTrips vMissed vBRow vBSum vCell vDirt vAim vErr vCor vBrk vTop vLm vRows vCols vDown vRight vBound vStrain vPrice vFirm (upZ (upZ (upZ (upZ (upZ (upZ vSums 7 ((vSums 7) + 2)) 8 (((upZ vSums 7 ((vSums 7) + 2)) 8) + 0)) 9 (((upZ (upZ vSums 7 ((vSums 7) + 2)) 8 (((upZ vSums 7 ((vSums 7) + 2)) 8) + 0)) 9) + ((made - 2) + 0))) 10 z45) 11 z47) 12 z50) vRays vFalls vSom vHad) H := hP
        have hD : va_D A (mW ad y vThrown vN vC vNow vHaze vCold vHot vPipe vDeg vThaw vTrc vTurb vLeft vLoad vWater vTrips vMissed vBRow vBSum vCell vDirt vAim vErr vCor vBrk vTop vLm vRows vCols vDown vRight vBound vStrain vPrice vFirm (upZ (upZ (upZ (upZ (upZ (upZ vSums 7 ((vSums 7) + 2)) 8 (((upZ vSums 7 ((vSums 7) + 2)) 8) + 0)) 9 (((upZ (upZ vSums 7 ((vSums 7) + 2)) 8 (((upZ vSums 7 ((vSums 7) + 2)) 8) + 0)) 9) + ((made - 2) + 0))) 10 z45) 11 z47) 12 z50) vRays vFalls vSom vHad) := hD
        exact W.vret hx hb hr (fun t ht hW => ⟨⟨((upZ (upZ (upZ (upZ (upZ (upZ vSums 7 ((vSums 7) + 2)) 8 (((upZ vSums 7 ((vSums 7) + 2)) 8) + 0)) 9 (((upZ (upZ vSums 7 ((vSums 7) + 2)) 8 (((upZ vSums 7 ((vSums 7) + 2)) 8) + 0)) 9) + ((made - 2) + 0))) 10 z45) 11 z47) 12 z50)), rfl, (show (upZ (upZ (upZ (upZ (upZ (upZ vSums 7 ((vSums 7) + 2)) 8 (((upZ vSums 7 ((vSums 7) + 2)) 8) + 0)) 9 (((upZ (upZ vSums 7 ((vSums 7) + 2)) 8 (((upZ vSums 7 ((vSums 7) + 2)) 8) + 0)) 9) + ((made - 2) + 0))) 10 z45) 11 z47) 12 z50) = slZ vSums (toZ vTrc) (boZ vTrc made) (made - toZ vTrc + boZ vTrc made) (dlZ vTrc made (vFirm (vNow % 24))) (vFirm (vNow % 24)) (vPrice (vNow % 24)) from by
          have e1 : toZ vTrc = (2 : Int) := by unfold toZ; omega
          have e2 : boZ vTrc made = (0 : Int) := by unfold boZ; omega
          have e3 : made - toZ vTrc + boZ vTrc made = ((made - 2) + 0) := by rw [e1, e2]
          have e4 : dlZ vTrc made (vFirm (vNow % 24)) = ((made - 2) + 0) := by unfold dlZ; omega
          rw [e3, e4, e2, e1]
          subst_vars
          rfl), hz_at hP ht⟩, hS.F ht⟩) hS.2.2 dX8_sells_162
    · refine lv_iload_n hx hb dX8_sells_18 rfl (lv_at hl 0 rfl) ?_
      refine lv_iload_n hx hb dX8_sells_19 rfl (lv_at hl 2 rfl) ?_
      refine hz_isub hx hb dX8_sells_20 ?_
      refine lv_goto (tgt := 25) hx hb dX8_sells_21 (by decide) ?_
      refine lv_istore_n (lv' := [(3, zi (2 - made)), (2, zi 2), (0, .ref (ad 0)), (1, zi made)]) hx hb dX8_sells_25 rfl hl (by decide) rfl (fun ls hl => ?_)
      refine lv_iload_n hx hb dX8_sells_26 rfl (lv_at hl 3 rfl) ?_
      refine lv_iload_n hx hb dX8_sells_27 rfl (lv_at hl 1 rfl) ?_
      refine hz_isub hx hb dX8_sells_28 ?_
      refine lv_iload_n hx hb dX8_sells_29 rfl (lv_at hl 0 rfl) ?_
      refine hz_iadd hx hb dX8_sells_30 ?_
      refine lv_istore (lv' := [(4, zi ((made - 2) + (2 - made))), (3, zi (2 - made)), (2, zi 2), (0, .ref (ad 0)), (1, zi made)]) hx hb dX8_sells_31 hl (by decide) rfl (fun ls hl => ?_)
      refine lv_aload_n hx hb dX8_sells_33 rfl (lv_at hl 3 rfl) ?_
      refine va_get (D := G) (ci := 9) (v := .ref (ad 16)) (C := RX8) (T := TX8) (N := 40) hx hb hts hinwsX80 hown hK hP 0 rfl rfl 18 (by decide) (hts (.fieldLink RX8 56 "HeliokeepModel" "firm" "[I") (List.mem_of_getElem? (i := 2) rfl)) (fun _ h9 => h9) rfl dX8_sells_34 ?_
      refine lv_aload_n hx hb dX8_sells_37 rfl (lv_at hl 3 rfl) ?_
      refine va_get (D := G) (ci := 9) (v := zi vNow) (C := RX8) (T := TX8) (N := 40) hx hb hts hinwsX80 hown hK hP 0 rfl rfl 20 (by decide) (hts (.fieldLink RX8 108 "HeliokeepModel" "now" "I") (List.mem_of_getElem? (i := 3) rfl)) (fun _ h9 => h9) rfl dX8_sells_38 ?_
      refine hz_bipush hx hb dX8_sells_41 (by decide) ?_
      refine hz_irem hx hb dX8_sells_43 (by omega) ?_
      refine hz_iald (f := vFirm) hx hb hK hP 16 0 rfl rfl (Nat.le_of_ble_eq_true rfl) (by omega) dX8_sells_44 ?_
      have q52 := hFirm (vNow % 24)
      refine lv_istore (lv' := [(5, zi (vFirm (vNow % 24))), (4, zi ((made - 2) + (2 - made))), (3, zi (2 - made)), (2, zi 2), (0, .ref (ad 0)), (1, zi made)]) hx hb dX8_sells_45 hl (by decide) rfl (fun ls hl => ?_)
      refine lv_iload hx hb dX8_sells_47 (lv_at hl 1 rfl) ?_
      refine lv_iload hx hb dX8_sells_49 (lv_at hl 0 rfl) ?_
      refine hz_icmp_ge (tgt := 59) hx hb dX8_sells_51 (by decide) (by omega) (fun c53 => ?_) (fun c53 => ?_)
      · refine lv_iload hx hb dX8_sells_59 (lv_at hl 0 rfl) ?_
        refine lv_istore (lv' := [(6, zi (vFirm (vNow % 24))), (5, zi (vFirm (vNow % 24))), (4, zi ((made - 2) + (2 - made))), (3, zi (2 - made)), (2, zi 2), (0, .ref (ad 0)), (1, zi made)]) hx hb dX8_sells_61 hl (by decide) rfl (fun ls hl => ?_)
        refine lv_aload_n hx hb dX8_sells_63 rfl (lv_at hl 5 rfl) ?_
        refine va_get (D := G) (ci := 9) (v := .ref (ad 17)) (C := RX8) (T := TX8) (N := 40) hx hb hts hinwsX80 hown hK hP 0 rfl rfl 19 (by decide) (hts (.fieldLink RX8 59 "HeliokeepModel" "sums" "[J") (List.mem_of_getElem? (i := 4) rfl)) (fun _ h9 => h9) rfl dX8_sells_64 ?_
        refine hz_bipush hx hb dX8_sells_67 (by decide) ?_
        refine lv_dup2_11 hx hb dX8_sells_69 rfl rfl ?_
        refine hz_lald (f := vSums) hx hb hK hP 17 1 rfl rfl (Nat.le_of_ble_eq_true rfl) (by omega) dX8_sells_70 ?_
        refine lv_iload_n hx hb dX8_sells_71 rfl (lv_at hl 4 rfl) ?_
        refine hz_i2l hx hb dX8_sells_72 (by omega) ?_
        refine hz_ladd hx hb dX8_sells_73 ?_
        refine hz_last (f := vSums) hx hb hK hP hD hS 17 1 rfl rfl (Nat.le_of_ble_eq_true rfl) (by omega) dX8_sells_74 (fun H locs hP hD hS => ?_)
        have hP : va_P G vwCl (mW ad y vThrown vN vC vNow vHaze vCold vHot vPipe vDeg vThaw vTrc vTurb vLeft vLoad vWater vTrips vMissed vBRow vBSum vCell vDirt vAim vErr vCor vBrk vTop vLm vRows vCols vDown vRight vBound vStrain vPrice vFirm (upZ vSums 7 ((vSums 7) + 2)) vRays vFalls vSom vHad) H := hP
        have hD : va_D A (mW ad y vThrown vN vC vNow vHaze vCold vHot vPipe vDeg vThaw vTrc vTurb vLeft vLoad vWater vTrips vMissed vBRow vBSum vCell vDirt vAim vErr vCor vBrk vTop vLm vRows vCols vDown vRight vBound vStrain vPrice vFirm (upZ vSums 7 ((vSums 7) + 2)) vRays vFalls vSom vHad) := hD
        refine lv_aload_n hx hb dX8_sells_75 rfl (lv_at hl 5 rfl) ?_
        refine va_get (D := G) (ci := 9) (v := .ref (ad 17)) (C := RX8) (T := TX8) (N := 40) hx hb hts hinwsX80 hown hK hP 0 rfl rfl 19 (by decide) (hts (.fieldLink RX8 59 "HeliokeepModel" "sums" "[J") (List.mem_of_getElem? (i := 4) rfl)) (fun _ h9 => h9) rfl dX8_sells_76 ?_
        refine hz_bipush hx hb dX8_sells_79 (by decide) ?_
        refine lv_dup2_11 hx hb dX8_sells_81 rfl rfl ?_
        refine hz_lald (f := (upZ vSums 7 ((vSums 7) + 2))) hx hb hK hP 17 1 rfl rfl (Nat.le_of_ble_eq_true rfl) (by omega) dX8_sells_82 ?_
        refine lv_iload_n hx hb dX8_sells_83 rfl (lv_at hl 3 rfl) ?_
        refine hz_i2l hx hb dX8_sells_84 (by omega) ?_
        refine hz_ladd hx hb dX8_sells_85 ?_
        refine hz_last (f := (upZ vSums 7 ((vSums 7) + 2))) hx hb hK hP hD hS 17 1 rfl rfl (Nat.le_of_ble_eq_true rfl) (by omega) dX8_sells_86 (fun H locs hP hD hS => ?_)
        have hP : va_P G vwCl (mW ad y vThrown vN vC vNow vHaze vCold vHot vPipe vDeg vThaw vTrc vTurb vLeft vLoad vWater vTrips vMissed vBRow vBSum vCell vDirt vAim vErr vCor vBrk vTop vLm vRows vCols vDown vRight vBound vStrain vPrice vFirm (upZ (upZ vSums 7 ((vSums 7) + 2)) 8 (((upZ vSums 7 ((vSums 7) + 2)) 8) + (2 - made))) vRays vFalls vSom vHad) H := hP
        have hD : va_D A (mW ad y vThrown vN vC vNow vHaze vCold vHot vPipe vDeg vThaw vTrc vTurb vLeft vLoad vWater vTrips vMissed vBRow vBSum vCell vDirt vAim vErr vCor vBrk vTop vLm vRows vCols vDown vRight vBound vStrain vPrice vFirm (upZ (upZ vSums 7 ((vSums 7) + 2)) 8 (((upZ vSums 7 ((vSums 7) + 2)) 8) + (2 - made))) vRays vFalls vSom vHad) := hD
        refine lv_aload_n hx hb dX8_sells_87 rfl (lv_at hl 5 rfl) ?_
        refine va_get (D := G) (ci := 9) (v := .ref (ad 17)) (C := RX8) (T := TX8) (N := 40) hx hb hts hinwsX80 hown hK hP 0 rfl rfl 19 (by decide) (hts (.fieldLink RX8 59 "HeliokeepModel" "sums" "[J") (List.mem_of_getElem? (i := 4) rfl)) (fun _ h9 => h9) rfl dX8_sells_88 ?_
        refine hz_bipush hx hb dX8_sells_91 (by decide) ?_
        refine lv_dup2_11 hx hb dX8_sells_93 rfl rfl ?_
        refine hz_lald (f := (upZ (upZ vSums 7 ((vSums 7) + 2)) 8 (((upZ vSums 7 ((vSums 7) + 2)) 8) + (2 - made)))) hx hb hK hP 17 1 rfl rfl (Nat.le_of_ble_eq_true rfl) (by omega) dX8_sells_94 ?_
        refine lv_iload hx hb dX8_sells_95 (lv_at hl 0 rfl) ?_
        refine hz_i2l hx hb dX8_sells_97 (by omega) ?_
        refine hz_ladd hx hb dX8_sells_98 ?_
        refine hz_last (f := (upZ (upZ vSums 7 ((vSums 7) + 2)) 8 (((upZ vSums 7 ((vSums 7) + 2)) 8) + (2 - made)))) hx hb hK hP hD hS 17 1 rfl rfl (Nat.le_of_ble_eq_true rfl) (by omega) dX8_sells_99 (fun H locs hP hD hS => ?_)
        have hP : va_P G vwCl (mW ad y vThrown vN vC vNow vHaze vCold vHot vPipe vDeg vThaw vTrc vTurb vLeft vLoad vWater vTrips vMissed vBRow vBSum vCell vDirt vAim vErr vCor vBrk vTop vLm vRows vCols vDown vRight vBound vStrain vPrice vFirm (upZ (upZ (upZ vSums 7 ((vSums 7) + 2)) 8 (((upZ vSums 7 ((vSums 7) + 2)) 8) + (2 - made))) 9 (((upZ (upZ vSums 7 ((vSums 7) + 2)) 8 (((upZ vSums 7 ((vSums 7) + 2)) 8) + (2 - made))) 9) + (vFirm (vNow % 24)))) vRays vFalls vSom vHad) H := hP
        have hD : va_D A (mW ad y vThrown vN vC vNow vHaze vCold vHot vPipe vDeg vThaw vTrc vTurb vLeft vLoad vWater vTrips vMissed vBRow vBSum vCell vDirt vAim vErr vCor vBrk vTop vLm vRows vCols vDown vRight vBound vStrain vPrice vFirm (upZ (upZ (upZ vSums 7 ((vSums 7) + 2)) 8 (((upZ vSums 7 ((vSums 7) + 2)) 8) + (2 - made))) 9 (((upZ (upZ vSums 7 ((vSums 7) + 2)) 8 (((upZ vSums 7 ((vSums 7) + 2)) 8) + (2 - made))) 9) + (vFirm (vNow % 24)))) vRays vFalls vSom vHad) := hD
        refine lv_aload_n hx hb dX8_sells_100 rfl (lv_at hl 5 rfl) ?_
        refine va_get (D := G) (ci := 9) (v := .ref (ad 17)) (C := RX8) (T := TX8) (N := 40) hx hb hts hinwsX80 hown hK hP 0 rfl rfl 19 (by decide) (hts (.fieldLink RX8 59 "HeliokeepModel" "sums" "[J") (List.mem_of_getElem? (i := 4) rfl)) (fun _ h9 => h9) rfl dX8_sells_101 ?_
        refine hz_bipush hx hb dX8_sells_104 (by decide) ?_
        refine lv_dup2_11 hx hb dX8_sells_106 rfl rfl ?_
        refine hz_lald (f := (upZ (upZ (upZ vSums 7 ((vSums 7) + 2)) 8 (((upZ vSums 7 ((vSums 7) + 2)) 8) + (2 - made))) 9 (((upZ (upZ vSums 7 ((vSums 7) + 2)) 8 (((upZ vSums 7 ((vSums 7) + 2)) 8) + (2 - made))) 9) + (vFirm (vNow % 24))))) hx hb hK hP 17 1 rfl rfl (Nat.le_of_ble_eq_true rfl) (by omega) dX8_sells_107 ?_
        refine lv_iload hx hb dX8_sells_108 (lv_at hl 1 rfl) ?_
        refine lv_iload hx hb dX8_sells_110 (lv_at hl 0 rfl) ?_
        refine hz_isub hx hb dX8_sells_112 ?_
        refine hz_i2l hx hb dX8_sells_113 (by omega) ?_
        refine hz_ladd hx hb dX8_sells_114 ?_
        refine hz_topl (fun z54 e55 => ?_)
        refine hz_last (f := (upZ (upZ (upZ vSums 7 ((vSums 7) + 2)) 8 (((upZ vSums 7 ((vSums 7) + 2)) 8) + (2 - made))) 9 (((upZ (upZ vSums 7 ((vSums 7) + 2)) 8 (((upZ vSums 7 ((vSums 7) + 2)) 8) + (2 - made))) 9) + (vFirm (vNow % 24))))) hx hb hK hP hD hS 17 1 rfl rfl (Nat.le_of_ble_eq_true rfl) (by omega) dX8_sells_115 (fun H locs hP hD hS => ?_)
        have hP : va_P G vwCl (mW ad y vThrown vN vC vNow vHaze vCold vHot vPipe vDeg vThaw vTrc vTurb vLeft vLoad vWater vTrips vMissed vBRow vBSum vCell vDirt vAim vErr vCor vBrk vTop vLm vRows vCols vDown vRight vBound vStrain vPrice vFirm (upZ (upZ (upZ (upZ vSums 7 ((vSums 7) + 2)) 8 (((upZ vSums 7 ((vSums 7) + 2)) 8) + (2 - made))) 9 (((upZ (upZ vSums 7 ((vSums 7) + 2)) 8 (((upZ vSums 7 ((vSums 7) + 2)) 8) + (2 - made))) 9) + (vFirm (vNow % 24)))) 10 z54) vRays vFalls vSom vHad) H := hP
        have hD : va_D A (mW ad y vThrown vN vC vNow vHaze vCold vHot vPipe vDeg vThaw vTrc vTurb vLeft vLoad vWater vTrips vMissed vBRow vBSum vCell vDirt vAim vErr vCor vBrk vTop vLm vRows vCols vDown vRight vBound vStrain vPrice vFirm (upZ (upZ (upZ (upZ vSums 7 ((vSums 7) + 2)) 8 (((upZ vSums 7 ((vSums 7) + 2)) 8) + (2 - made))) 9 (((upZ (upZ vSums 7 ((vSums 7) + 2)) 8 (((upZ vSums 7 ((vSums 7) + 2)) 8) + (2 - made))) 9) + (vFirm (vNow % 24)))) 10 z54) vRays vFalls vSom vHad) := hD
        refine lv_aload_n hx hb dX8_sells_116 rfl (lv_at hl 5 rfl) ?_
        refine va_get (D := G) (ci := 9) (v := .ref (ad 17)) (C := RX8) (T := TX8) (N := 40) hx hb hts hinwsX80 hown hK hP 0 rfl rfl 19 (by decide) (hts (.fieldLink RX8 59 "HeliokeepModel" "sums" "[J") (List.mem_of_getElem? (i := 4) rfl)) (fun _ h9 => h9) rfl dX8_sells_117 ?_
        refine hz_bipush hx hb dX8_sells_120 (by decide) ?_
        refine lv_dup2_11 hx hb dX8_sells_122 rfl rfl ?_
        refine hz_lald (f := (upZ (upZ (upZ (upZ vSums 7 ((vSums 7) + 2)) 8 (((upZ vSums 7 ((vSums 7) + 2)) 8) + (2 - made))) 9 (((upZ (upZ vSums 7 ((vSums 7) + 2)) 8 (((upZ vSums 7 ((vSums 7) + 2)) 8) + (2 - made))) 9) + (vFirm (vNow % 24)))) 10 z54)) hx hb hK hP 17 1 rfl rfl (Nat.le_of_ble_eq_true rfl) (by omega) dX8_sells_123 ?_
        refine lv_iload hx hb dX8_sells_124 (lv_at hl 2 rfl) ?_
        refine lv_iload hx hb dX8_sells_126 (lv_at hl 0 rfl) ?_
        refine hz_isub hx hb dX8_sells_128 ?_
        refine hz_i2l hx hb dX8_sells_129 (by omega) ?_
        refine hz_ladd hx hb dX8_sells_130 ?_
        refine hz_topl (fun z56 e57 => ?_)
        refine hz_last (f := (upZ (upZ (upZ (upZ vSums 7 ((vSums 7) + 2)) 8 (((upZ vSums 7 ((vSums 7) + 2)) 8) + (2 - made))) 9 (((upZ (upZ vSums 7 ((vSums 7) + 2)) 8 (((upZ vSums 7 ((vSums 7) + 2)) 8) + (2 - made))) 9) + (vFirm (vNow % 24)))) 10 z54)) hx hb hK hP hD hS 17 1 rfl rfl (Nat.le_of_ble_eq_true rfl) (by omega) dX8_sells_131 (fun H locs hP hD hS => ?_)
        have hP : va_P G vwCl (mW ad y vThrown vN vC vNow vHaze vCold vHot vPipe vDeg vThaw vTrc vTurb vLeft vLoad vWater vTrips vMissed vBRow vBSum vCell vDirt vAim vErr vCor vBrk vTop vLm vRows vCols vDown vRight vBound vStrain vPrice vFirm (upZ (upZ (upZ (upZ (upZ vSums 7 ((vSums 7) + 2)) 8 (((upZ vSums 7 ((vSums 7) + 2)) 8) + (2 - made))) 9 (((upZ (upZ vSums 7 ((vSums 7) + 2)) 8 (((upZ vSums 7 ((vSums 7) + 2)) 8) + (2 - made))) 9) + (vFirm (vNow % 24)))) 10 z54) 11 z56) vRays vFalls vSom vHad) H := hP
        have hD : va_D A (mW ad y vThrown vN vC vNow vHaze vCold vHot vPipe vDeg vThaw vTrc vTurb vLeft vLoad vWater vTrips vMissed vBRow vBSum vCell vDirt vAim vErr vCor vBrk vTop vLm vRows vCols vDown vRight vBound vStrain vPrice vFirm (upZ (upZ (upZ (upZ (upZ vSums 7 ((vSums 7) + 2)) 8 (((upZ vSums 7 ((vSums 7) + 2)) 8) + (2 - made))) 9 (((upZ (upZ vSums 7 ((vSums 7) + 2)) 8 (((upZ vSums 7 ((vSums 7) + 2)) 8) + (2 - made))) 9) + (vFirm (vNow % 24)))) 10 z54) 11 z56) vRays vFalls vSom vHad) := hD
        refine lv_aload_n hx hb dX8_sells_132 rfl (lv_at hl 5 rfl) ?_
        refine va_get (D := G) (ci := 9) (v := .ref (ad 17)) (C := RX8) (T := TX8) (N := 40) hx hb hts hinwsX80 hown hK hP 0 rfl rfl 19 (by decide) (hts (.fieldLink RX8 59 "HeliokeepModel" "sums" "[J") (List.mem_of_getElem? (i := 4) rfl)) (fun _ h9 => h9) rfl dX8_sells_133 ?_
        refine hz_bipush hx hb dX8_sells_136 (by decide) ?_
        refine lv_dup2_11 hx hb dX8_sells_138 rfl rfl ?_
        refine hz_lald (f := (upZ (upZ (upZ (upZ (upZ vSums 7 ((vSums 7) + 2)) 8 (((upZ vSums 7 ((vSums 7) + 2)) 8) + (2 - made))) 9 (((upZ (upZ vSums 7 ((vSums 7) + 2)) 8 (((upZ vSums 7 ((vSums 7) + 2)) 8) + (2 - made))) 9) + (vFirm (vNow % 24)))) 10 z54) 11 z56)) hx hb hK hP 17 1 rfl rfl (Nat.le_of_ble_eq_true rfl) (by omega) dX8_sells_139 ?_
        refine lv_iload hx hb dX8_sells_140 (lv_at hl 2 rfl) ?_
        refine lv_iload hx hb dX8_sells_142 (lv_at hl 0 rfl) ?_
        refine hz_isub hx hb dX8_sells_144 ?_
        refine hz_i2l hx hb dX8_sells_145 (by omega) ?_
        refine lv_aload_n hx hb dX8_sells_146 rfl (lv_at hl 5 rfl) ?_
        refine va_get (D := G) (ci := 9) (v := .ref (ad 15)) (C := RX8) (T := TX8) (N := 40) hx hb hts hinwsX80 hown hK hP 0 rfl rfl 17 (by decide) (hts (.fieldLink RX8 53 "HeliokeepModel" "price" "[I") (List.mem_of_getElem? (i := 5) rfl)) (fun _ h9 => h9) rfl dX8_sells_147 ?_
        refine lv_aload_n hx hb dX8_sells_150 rfl (lv_at hl 5 rfl) ?_
        refine va_get (D := G) (ci := 9) (v := zi vNow) (C := RX8) (T := TX8) (N := 40) hx hb hts hinwsX80 hown hK hP 0 rfl rfl 20 (by decide) (hts (.fieldLink RX8 108 "HeliokeepModel" "now" "I") (List.mem_of_getElem? (i := 3) rfl)) (fun _ h9 => h9) rfl dX8_sells_151 ?_
        refine hz_bipush hx hb dX8_sells_154 (by decide) ?_
        refine hz_irem hx hb dX8_sells_156 (by omega) ?_
        refine hz_iald (f := vPrice) hx hb hK hP 15 0 rfl rfl (Nat.le_of_ble_eq_true rfl) (by omega) dX8_sells_157 ?_
        have q58 := hPrice (vNow % 24)
        refine hz_i2l hx hb dX8_sells_158 (by omega) ?_
        refine hz_lmul hx hb dX8_sells_159 ?_
        refine hz_ladd hx hb dX8_sells_160 ?_
        refine hz_topl (fun z59 e60 => ?_)
        refine hz_last (f := (upZ (upZ (upZ (upZ (upZ vSums 7 ((vSums 7) + 2)) 8 (((upZ vSums 7 ((vSums 7) + 2)) 8) + (2 - made))) 9 (((upZ (upZ vSums 7 ((vSums 7) + 2)) 8 (((upZ vSums 7 ((vSums 7) + 2)) 8) + (2 - made))) 9) + (vFirm (vNow % 24)))) 10 z54) 11 z56)) hx hb hK hP hD hS 17 1 rfl rfl (Nat.le_of_ble_eq_true rfl) (by omega) dX8_sells_161 (fun H locs hP hD hS => ?_)
        have hP : va_P G vwCl (mW ad y vThrown vN vC vNow vHaze vCold vHot vPipe vDeg vThaw vTrc vTurb vLeft vLoad vWater vTrips vMissed vBRow vBSum vCell vDirt vAim vErr vCor vBrk vTop vLm vRows vCols vDown vRight vBound vStrain vPrice vFirm (upZ (upZ (upZ (upZ (upZ (upZ vSums 7 ((vSums 7) + 2)) 8 (((upZ vSums 7 ((vSums 7) + 2)) 8) + (2 - made))) 9 (((upZ (upZ vSums 7 ((vSums 7) + 2)) 8 (((upZ vSums 7 ((vSums 7) + 2)) 8) + (2 - made))) 9) + (vFirm (vNow % 24)))) 10 z54) 11 z56) 12 z59) vRays vFalls vSom vHad) H := hP
        have hD : va_D A (mW ad y vThrown vN vC vNow vHaze vCold vHot vPipe vDeg vThaw vTrc vTurb vLeft vLoad vWater vTrips vMissed vBRow vBSum vCell vDirt vAim vErr vCor vBrk vTop vLm vRows vCols vDown vRight vBound vStrain vPrice vFirm (upZ (upZ (upZ (upZ (upZ (upZ vSums 7 ((vSums 7) + 2)) 8 (((upZ vSums 7 ((vSums 7) + 2)) 8) + (2 - made))) 9 (((upZ (upZ vSums 7 ((vSums 7) + 2)) 8 (((upZ vSums 7 ((vSums 7) + 2)) 8) + (2 - made))) 9) + (vFirm (vNow % 24)))) 10 z54) 11 z56) 12 z59) vRays vFalls vSom vHad) := hD
        exact W.vret hx hb hr (fun t ht hW => ⟨⟨((upZ (upZ (upZ (upZ (upZ (upZ vSums 7 ((vSums 7) + 2)) 8 (((upZ vSums 7 ((vSums 7) + 2)) 8) + (2 - made))) 9 (((upZ (upZ vSums 7 ((vSums 7) + 2)) 8 (((upZ vSums 7 ((vSums 7) + 2)) 8) + (2 - made))) 9) + (vFirm (vNow % 24)))) 10 z54) 11 z56) 12 z59)), rfl, (show (upZ (upZ (upZ (upZ (upZ (upZ vSums 7 ((vSums 7) + 2)) 8 (((upZ vSums 7 ((vSums 7) + 2)) 8) + (2 - made))) 9 (((upZ (upZ vSums 7 ((vSums 7) + 2)) 8 (((upZ vSums 7 ((vSums 7) + 2)) 8) + (2 - made))) 9) + (vFirm (vNow % 24)))) 10 z54) 11 z56) 12 z59) = slZ vSums (toZ vTrc) (boZ vTrc made) (made - toZ vTrc + boZ vTrc made) (dlZ vTrc made (vFirm (vNow % 24))) (vFirm (vNow % 24)) (vPrice (vNow % 24)) from by
          have e1 : toZ vTrc = (2 : Int) := by unfold toZ; omega
          have e2 : boZ vTrc made = (2 - made) := by unfold boZ; omega
          have e3 : made - toZ vTrc + boZ vTrc made = ((made - 2) + (2 - made)) := by rw [e1, e2]
          have e4 : dlZ vTrc made (vFirm (vNow % 24)) = (vFirm (vNow % 24)) := by unfold dlZ; omega
          rw [e3, e4, e2, e1]
          subst_vars
          rfl), hz_at hP ht⟩, hS.F ht⟩) hS.2.2 dX8_sells_162
      · refine lv_iload hx hb dX8_sells_54 (lv_at hl 1 rfl) ?_
        refine lv_goto (tgt := 61) hx hb dX8_sells_56 (by decide) ?_
        refine lv_istore (lv' := [(6, zi ((made - 2) + (2 - made))), (5, zi (vFirm (vNow % 24))), (4, zi ((made - 2) + (2 - made))), (3, zi (2 - made)), (2, zi 2), (0, .ref (ad 0)), (1, zi made)]) hx hb dX8_sells_61 hl (by decide) rfl (fun ls hl => ?_)
        refine lv_aload_n hx hb dX8_sells_63 rfl (lv_at hl 5 rfl) ?_
        refine va_get (D := G) (ci := 9) (v := .ref (ad 17)) (C := RX8) (T := TX8) (N := 40) hx hb hts hinwsX80 hown hK hP 0 rfl rfl 19 (by decide) (hts (.fieldLink RX8 59 "HeliokeepModel" "sums" "[J") (List.mem_of_getElem? (i := 4) rfl)) (fun _ h9 => h9) rfl dX8_sells_64 ?_
        refine hz_bipush hx hb dX8_sells_67 (by decide) ?_
        refine lv_dup2_11 hx hb dX8_sells_69 rfl rfl ?_
        refine hz_lald (f := vSums) hx hb hK hP 17 1 rfl rfl (Nat.le_of_ble_eq_true rfl) (by omega) dX8_sells_70 ?_
        refine lv_iload_n hx hb dX8_sells_71 rfl (lv_at hl 4 rfl) ?_
        refine hz_i2l hx hb dX8_sells_72 (by omega) ?_
        refine hz_ladd hx hb dX8_sells_73 ?_
        refine hz_last (f := vSums) hx hb hK hP hD hS 17 1 rfl rfl (Nat.le_of_ble_eq_true rfl) (by omega) dX8_sells_74 (fun H locs hP hD hS => ?_)
        have hP : va_P G vwCl (mW ad y vThrown vN vC vNow vHaze vCold vHot vPipe vDeg vThaw vTrc vTurb vLeft vLoad vWater vTrips vMissed vBRow vBSum vCell vDirt vAim vErr vCor vBrk vTop vLm vRows vCols vDown vRight vBound vStrain vPrice vFirm (upZ vSums 7 ((vSums 7) + 2)) vRays vFalls vSom vHad) H := hP
        have hD : va_D A (mW ad y vThrown vN vC vNow vHaze vCold vHot vPipe vDeg vThaw vTrc vTurb vLeft vLoad vWater vTrips vMissed vBRow vBSum vCell vDirt vAim vErr vCor vBrk vTop vLm vRows vCols vDown vRight vBound vStrain vPrice vFirm (upZ vSums 7 ((vSums 7) + 2)) vRays vFalls vSom vHad) := hD
        refine lv_aload_n hx hb dX8_sells_75 rfl (lv_at hl 5 rfl) ?_
        refine va_get (D := G) (ci := 9) (v := .ref (ad 17)) (C := RX8) (T := TX8) (N := 40) hx hb hts hinwsX80 hown hK hP 0 rfl rfl 19 (by decide) (hts (.fieldLink RX8 59 "HeliokeepModel" "sums" "[J") (List.mem_of_getElem? (i := 4) rfl)) (fun _ h9 => h9) rfl dX8_sells_76 ?_
        refine hz_bipush hx hb dX8_sells_79 (by decide) ?_
        refine lv_dup2_11 hx hb dX8_sells_81 rfl rfl ?_
        refine hz_lald (f := (upZ vSums 7 ((vSums 7) + 2))) hx hb hK hP 17 1 rfl rfl (Nat.le_of_ble_eq_true rfl) (by omega) dX8_sells_82 ?_
        refine lv_iload_n hx hb dX8_sells_83 rfl (lv_at hl 3 rfl) ?_
        refine hz_i2l hx hb dX8_sells_84 (by omega) ?_
        refine hz_ladd hx hb dX8_sells_85 ?_
        refine hz_last (f := (upZ vSums 7 ((vSums 7) + 2))) hx hb hK hP hD hS 17 1 rfl rfl (Nat.le_of_ble_eq_true rfl) (by omega) dX8_sells_86 (fun H locs hP hD hS => ?_)
        have hP : va_P G vwCl (mW ad y vThrown vN vC vNow vHaze vCold vHot vPipe vDeg vThaw vTrc vTurb vLeft vLoad vWater vTrips vMissed vBRow vBSum vCell vDirt vAim vErr vCor vBrk vTop vLm vRows vCols vDown vRight vBound vStrain vPrice vFirm (upZ (upZ vSums 7 ((vSums 7) + 2)) 8 (((upZ vSums 7 ((vSums 7) + 2)) 8) + (2 - made))) vRays vFalls vSom vHad) H := hP
        have hD : va_D A (mW ad y vThrown vN vC vNow vHaze vCold vHot vPipe vDeg vThaw vTrc vTurb vLeft vLoad vWater vTrips vMissed vBRow vBSum vCell vDirt vAim vErr vCor vBrk vTop vLm vRows vCols vDown vRight vBound vStrain vPrice vFirm (upZ (upZ vSums 7 ((vSums 7) + 2)) 8 (((upZ vSums 7 ((vSums 7) + 2)) 8) + (2 - made))) vRays vFalls vSom vHad) := hD
        refine lv_aload_n hx hb dX8_sells_87 rfl (lv_at hl 5 rfl) ?_
        refine va_get (D := G) (ci := 9) (v := .ref (ad 17)) (C := RX8) (T := TX8) (N := 40) hx hb hts hinwsX80 hown hK hP 0 rfl rfl 19 (by decide) (hts (.fieldLink RX8 59 "HeliokeepModel" "sums" "[J") (List.mem_of_getElem? (i := 4) rfl)) (fun _ h9 => h9) rfl dX8_sells_88 ?_
        refine hz_bipush hx hb dX8_sells_91 (by decide) ?_
        refine lv_dup2_11 hx hb dX8_sells_93 rfl rfl ?_
        refine hz_lald (f := (upZ (upZ vSums 7 ((vSums 7) + 2)) 8 (((upZ vSums 7 ((vSums 7) + 2)) 8) + (2 - made)))) hx hb hK hP 17 1 rfl rfl (Nat.le_of_ble_eq_true rfl) (by omega) dX8_sells_94 ?_
        refine lv_iload hx hb dX8_sells_95 (lv_at hl 0 rfl) ?_
        refine hz_i2l hx hb dX8_sells_97 (by omega) ?_
        refine hz_ladd hx hb dX8_sells_98 ?_
        refine hz_last (f := (upZ (upZ vSums 7 ((vSums 7) + 2)) 8 (((upZ vSums 7 ((vSums 7) + 2)) 8) + (2 - made)))) hx hb hK hP hD hS 17 1 rfl rfl (Nat.le_of_ble_eq_true rfl) (by omega) dX8_sells_99 (fun H locs hP hD hS => ?_)
        have hP : va_P G vwCl (mW ad y vThrown vN vC vNow vHaze vCold vHot vPipe vDeg vThaw vTrc vTurb vLeft vLoad vWater vTrips vMissed vBRow vBSum vCell vDirt vAim vErr vCor vBrk vTop vLm vRows vCols vDown vRight vBound vStrain vPrice vFirm (upZ (upZ (upZ vSums 7 ((vSums 7) + 2)) 8 (((upZ vSums 7 ((vSums 7) + 2)) 8) + (2 - made))) 9 (((upZ (upZ vSums 7 ((vSums 7) + 2)) 8 (((upZ vSums 7 ((vSums 7) + 2)) 8) + (2 - made))) 9) + ((made - 2) + (2 - made)))) vRays vFalls vSom vHad) H := hP
        have hD : va_D A (mW ad y vThrown vN vC vNow vHaze vCold vHot vPipe vDeg vThaw vTrc vTurb vLeft vLoad vWater vTrips vMissed vBRow vBSum vCell vDirt vAim vErr vCor vBrk vTop vLm vRows vCols vDown vRight vBound vStrain vPrice vFirm (upZ (upZ (upZ vSums 7 ((vSums 7) + 2)) 8 (((upZ vSums 7 ((vSums 7) + 2)) 8) + (2 - made))) 9 (((upZ (upZ vSums 7 ((vSums 7) + 2)) 8 (((upZ vSums 7 ((vSums 7) + 2)) 8) + (2 - made))) 9) + ((made - 2) + (2 - made)))) vRays vFalls vSom vHad) := hD
        refine lv_aload_n hx hb dX8_sells_100 rfl (lv_at hl 5 rfl) ?_
        refine va_get (D := G) (ci := 9) (v := .ref (ad 17)) (C := RX8) (T := TX8) (N := 40) hx hb hts hinwsX80 hown hK hP 0 rfl rfl 19 (by decide) (hts (.fieldLink RX8 59 "HeliokeepModel" "sums" "[J") (List.mem_of_getElem? (i := 4) rfl)) (fun _ h9 => h9) rfl dX8_sells_101 ?_
        refine hz_bipush hx hb dX8_sells_104 (by decide) ?_
        refine lv_dup2_11 hx hb dX8_sells_106 rfl rfl ?_
        refine hz_lald (f := (upZ (upZ (upZ vSums 7 ((vSums 7) + 2)) 8 (((upZ vSums 7 ((vSums 7) + 2)) 8) + (2 - made))) 9 (((upZ (upZ vSums 7 ((vSums 7) + 2)) 8 (((upZ vSums 7 ((vSums 7) + 2)) 8) + (2 - made))) 9) + ((made - 2) + (2 - made))))) hx hb hK hP 17 1 rfl rfl (Nat.le_of_ble_eq_true rfl) (by omega) dX8_sells_107 ?_
        refine lv_iload hx hb dX8_sells_108 (lv_at hl 1 rfl) ?_
        refine lv_iload hx hb dX8_sells_110 (lv_at hl 0 rfl) ?_
        refine hz_isub hx hb dX8_sells_112 ?_
        refine hz_i2l hx hb dX8_sells_113 (by omega) ?_
        refine hz_ladd hx hb dX8_sells_114 ?_
        refine hz_topl (fun z61 e62 => ?_)
        refine hz_last (f := (upZ (upZ (upZ vSums 7 ((vSums 7) + 2)) 8 (((upZ vSums 7 ((vSums 7) + 2)) 8) + (2 - made))) 9 (((upZ (upZ vSums 7 ((vSums 7) + 2)) 8 (((upZ vSums 7 ((vSums 7) + 2)) 8) + (2 - made))) 9) + ((made - 2) + (2 - made))))) hx hb hK hP hD hS 17 1 rfl rfl (Nat.le_of_ble_eq_true rfl) (by omega) dX8_sells_115 (fun H locs hP hD hS => ?_)
        have hP : va_P G vwCl (mW ad y vThrown vN vC vNow vHaze vCold vHot vPipe vDeg vThaw vTrc vTurb vLeft vLoad vWater vTrips vMissed vBRow vBSum vCell vDirt vAim vErr vCor vBrk vTop vLm vRows vCols vDown vRight vBound vStrain vPrice vFirm (upZ (upZ (upZ (upZ vSums 7 ((vSums 7) + 2)) 8 (((upZ vSums 7 ((vSums 7) + 2)) 8) + (2 - made))) 9 (((upZ (upZ vSums 7 ((vSums 7) + 2)) 8 (((upZ vSums 7 ((vSums 7) + 2)) 8) + (2 - made))) 9) + ((made - 2) + (2 - made)))) 10 z61) vRays vFalls vSom vHad) H := hP
        have hD : va_D A (mW ad y vThrown vN vC vNow vHaze vCold vHot vPipe vDeg vThaw vTrc vTurb vLeft vLoad vWater vTrips vMissed vBRow vBSum vCell vDirt vAim vErr vCor vBrk vTop vLm vRows vCols vDown vRight vBound vStrain vPrice vFirm (upZ (upZ (upZ (upZ vSums 7 ((vSums 7) + 2)) 8 (((upZ vSums 7 ((vSums 7) + 2)) 8) + (2 - made))) 9 (((upZ (upZ vSums 7 ((vSums 7) + 2)) 8 (((upZ vSums 7 ((vSums 7) + 2)) 8) + (2 - made))) 9) + ((made - 2) + (2 - made)))) 10 z61) vRays vFalls vSom vHad) := hD
        refine lv_aload_n hx hb dX8_sells_116 rfl (lv_at hl 5 rfl) ?_
        refine va_get (D := G) (ci := 9) (v := .ref (ad 17)) (C := RX8) (T := TX8) (N := 40) hx hb hts hinwsX80 hown hK hP 0 rfl rfl 19 (by decide) (hts (.fieldLink RX8 59 "HeliokeepModel" "sums" "[J") (List.mem_of_getElem? (i := 4) rfl)) (fun _ h9 => h9) rfl dX8_sells_117 ?_
        refine hz_bipush hx hb dX8_sells_120 (by decide) ?_
        refine lv_dup2_11 hx hb dX8_sells_122 rfl rfl ?_
        refine hz_lald (f := (upZ (upZ (upZ (upZ vSums 7 ((vSums 7) + 2)) 8 (((upZ vSums 7 ((vSums 7) + 2)) 8) + (2 - made))) 9 (((upZ (upZ vSums 7 ((vSums 7) + 2)) 8 (((upZ vSums 7 ((vSums 7) + 2)) 8) + (2 - made))) 9) + ((made - 2) + (2 - made)))) 10 z61)) hx hb hK hP 17 1 rfl rfl (Nat.le_of_ble_eq_true rfl) (by omega) dX8_sells_123 ?_
        refine lv_iload hx hb dX8_sells_124 (lv_at hl 2 rfl) ?_
        refine lv_iload hx hb dX8_sells_126 (lv_at hl 0 rfl) ?_
        refine hz_isub hx hb dX8_sells_128 ?_
        refine hz_i2l hx hb dX8_sells_129 (by omega) ?_
        refine hz_ladd hx hb dX8_sells_130 ?_
        refine hz_topl (fun z63 e64 => ?_)
        refine hz_last (f := (upZ (upZ (upZ (upZ vSums 7 ((vSums 7) + 2)) 8 (((upZ vSums 7 ((vSums 7) + 2)) 8) + (2 - made))) 9 (((upZ (upZ vSums 7 ((vSums 7) + 2)) 8 (((upZ vSums 7 ((vSums 7) + 2)) 8) + (2 - made))) 9) + ((made - 2) + (2 - made)))) 10 z61)) hx hb hK hP hD hS 17 1 rfl rfl (Nat.le_of_ble_eq_true rfl) (by omega) dX8_sells_131 (fun H locs hP hD hS => ?_)
        have hP : va_P G vwCl (mW ad y vThrown vN vC vNow vHaze vCold vHot vPipe vDeg vThaw vTrc vTurb vLeft vLoad vWater vTrips vMissed vBRow vBSum vCell vDirt vAim vErr vCor vBrk vTop vLm vRows vCols vDown vRight vBound vStrain vPrice vFirm (upZ (upZ (upZ (upZ (upZ vSums 7 ((vSums 7) + 2)) 8 (((upZ vSums 7 ((vSums 7) + 2)) 8) + (2 - made))) 9 (((upZ (upZ vSums 7 ((vSums 7) + 2)) 8 (((upZ vSums 7 ((vSums 7) + 2)) 8) + (2 - made))) 9) + ((made - 2) + (2 - made)))) 10 z61) 11 z63) vRays vFalls vSom vHad) H := hP
        have hD : va_D A (mW ad y vThrown vN vC vNow vHaze vCold vHot vPipe vDeg vThaw vTrc vTurb vLeft vLoad vWater vTrips vMissed vBRow vBSum vCell vDirt vAim vErr vCor vBrk vTop vLm vRows vCols vDown vRight vBound vStrain vPrice vFirm (upZ (upZ (upZ (upZ (upZ vSums 7 ((vSums 7) + 2)) 8 (((upZ vSums 7 ((vSums 7) + 2)) 8) + (2 - made))) 9 (((upZ (upZ vSums 7 ((vSums 7) + 2)) 8 (((upZ vSums 7 ((vSums 7) + 2)) 8) + (2 - made))) 9) + ((made - 2) + (2 - made)))) 10 z61) 11 z63) vRays vFalls vSom vHad) := hD
        refine lv_aload_n hx hb dX8_sells_132 rfl (lv_at hl 5 rfl) ?_
        refine va_get (D := G) (ci := 9) (v := .ref (ad 17)) (C := RX8) (T := TX8) (N := 40) hx hb hts hinwsX80 hown hK hP 0 rfl rfl 19 (by decide) (hts (.fieldLink RX8 59 "HeliokeepModel" "sums" "[J") (List.mem_of_getElem? (i := 4) rfl)) (fun _ h9 => h9) rfl dX8_sells_133 ?_
        refine hz_bipush hx hb dX8_sells_136 (by decide) ?_
        refine lv_dup2_11 hx hb dX8_sells_138 rfl rfl ?_
        refine hz_lald (f := (upZ (upZ (upZ (upZ (upZ vSums 7 ((vSums 7) + 2)) 8 (((upZ vSums 7 ((vSums 7) + 2)) 8) + (2 - made))) 9 (((upZ (upZ vSums 7 ((vSums 7) + 2)) 8 (((upZ vSums 7 ((vSums 7) + 2)) 8) + (2 - made))) 9) + ((made - 2) + (2 - made)))) 10 z61) 11 z63)) hx hb hK hP 17 1 rfl rfl (Nat.le_of_ble_eq_true rfl) (by omega) dX8_sells_139 ?_
        refine lv_iload hx hb dX8_sells_140 (lv_at hl 2 rfl) ?_
        refine lv_iload hx hb dX8_sells_142 (lv_at hl 0 rfl) ?_
        refine hz_isub hx hb dX8_sells_144 ?_
        refine hz_i2l hx hb dX8_sells_145 (by omega) ?_
        refine lv_aload_n hx hb dX8_sells_146 rfl (lv_at hl 5 rfl) ?_
        refine va_get (D := G) (ci := 9) (v := .ref (ad 15)) (C := RX8) (T := TX8) (N := 40) hx hb hts hinwsX80 hown hK hP 0 rfl rfl 17 (by decide) (hts (.fieldLink RX8 53 "HeliokeepModel" "price" "[I") (List.mem_of_getElem? (i := 5) rfl)) (fun _ h9 => h9) rfl dX8_sells_147 ?_
        refine lv_aload_n hx hb dX8_sells_150 rfl (lv_at hl 5 rfl) ?_
        refine va_get (D := G) (ci := 9) (v := zi vNow) (C := RX8) (T := TX8) (N := 40) hx hb hts hinwsX80 hown hK hP 0 rfl rfl 20 (by decide) (hts (.fieldLink RX8 108 "HeliokeepModel" "now" "I") (List.mem_of_getElem? (i := 3) rfl)) (fun _ h9 => h9) rfl dX8_sells_151 ?_
        refine hz_bipush hx hb dX8_sells_154 (by decide) ?_
        refine hz_irem hx hb dX8_sells_156 (by omega) ?_
        refine hz_iald (f := vPrice) hx hb hK hP 15 0 rfl rfl (Nat.le_of_ble_eq_true rfl) (by omega) dX8_sells_157 ?_
        have q65 := hPrice (vNow % 24)
        refine hz_i2l hx hb dX8_sells_158 (by omega) ?_
        refine hz_lmul hx hb dX8_sells_159 ?_
        refine hz_ladd hx hb dX8_sells_160 ?_
        refine hz_topl (fun z66 e67 => ?_)
        refine hz_last (f := (upZ (upZ (upZ (upZ (upZ vSums 7 ((vSums 7) + 2)) 8 (((upZ vSums 7 ((vSums 7) + 2)) 8) + (2 - made))) 9 (((upZ (upZ vSums 7 ((vSums 7) + 2)) 8 (((upZ vSums 7 ((vSums 7) + 2)) 8) + (2 - made))) 9) + ((made - 2) + (2 - made)))) 10 z61) 11 z63)) hx hb hK hP hD hS 17 1 rfl rfl (Nat.le_of_ble_eq_true rfl) (by omega) dX8_sells_161 (fun H locs hP hD hS => ?_)
        have hP : va_P G vwCl (mW ad y vThrown vN vC vNow vHaze vCold vHot vPipe vDeg vThaw vTrc vTurb vLeft vLoad vWater vTrips vMissed vBRow vBSum vCell vDirt vAim vErr vCor vBrk vTop vLm vRows vCols vDown vRight vBound vStrain vPrice vFirm (upZ (upZ (upZ (upZ (upZ (upZ vSums 7 ((vSums 7) + 2)) 8 (((upZ vSums 7 ((vSums 7) + 2)) 8) + (2 - made))) 9 (((upZ (upZ vSums 7 ((vSums 7) + 2)) 8 (((upZ vSums 7 ((vSums 7) + 2)) 8) + (2 - made))) 9) + ((made - 2) + (2 - made)))) 10 z61) 11 z63) 12 z66) vRays vFalls vSom vHad) H := hP
        have hD : va_D A (mW ad y vThrown vN vC vNow vHaze vCold vHot vPipe vDeg vThaw vTrc vTurb vLeft vLoad vWater vTrips vMissed vBRow vBSum vCell vDirt vAim vErr vCor vBrk vTop vLm vRows vCols vDown vRight vBound vStrain vPrice vFirm (upZ (upZ (upZ (upZ (upZ (upZ vSums 7 ((vSums 7) + 2)) 8 (((upZ vSums 7 ((vSums 7) + 2)) 8) + (2 - made))) 9 (((upZ (upZ vSums 7 ((vSums 7) + 2)) 8 (((upZ vSums 7 ((vSums 7) + 2)) 8) + (2 - made))) 9) + ((made - 2) + (2 - made)))) 10 z61) 11 z63) 12 z66) vRays vFalls vSom vHad) := hD
        exact W.vret hx hb hr (fun t ht hW => ⟨⟨((upZ (upZ (upZ (upZ (upZ (upZ vSums 7 ((vSums 7) + 2)) 8 (((upZ vSums 7 ((vSums 7) + 2)) 8) + (2 - made))) 9 (((upZ (upZ vSums 7 ((vSums 7) + 2)) 8 (((upZ vSums 7 ((vSums 7) + 2)) 8) + (2 - made))) 9) + ((made - 2) + (2 - made)))) 10 z61) 11 z63) 12 z66)), rfl, (show (upZ (upZ (upZ (upZ (upZ (upZ vSums 7 ((vSums 7) + 2)) 8 (((upZ vSums 7 ((vSums 7) + 2)) 8) + (2 - made))) 9 (((upZ (upZ vSums 7 ((vSums 7) + 2)) 8 (((upZ vSums 7 ((vSums 7) + 2)) 8) + (2 - made))) 9) + ((made - 2) + (2 - made)))) 10 z61) 11 z63) 12 z66) = slZ vSums (toZ vTrc) (boZ vTrc made) (made - toZ vTrc + boZ vTrc made) (dlZ vTrc made (vFirm (vNow % 24))) (vFirm (vNow % 24)) (vPrice (vNow % 24)) from by
          have e1 : toZ vTrc = (2 : Int) := by unfold toZ; omega
          have e2 : boZ vTrc made = (2 - made) := by unfold boZ; omega
          have e3 : made - toZ vTrc + boZ vTrc made = ((made - 2) + (2 - made)) := by rw [e1, e2]
          have e4 : dlZ vTrc made (vFirm (vNow % 24)) = ((made - 2) + (2 - made)) := by unfold dlZ; omega
          rw [e3, e4, e2, e1]
          subst_vars
          rfl), hz_at hP ht⟩, hS.F ht⟩) hS.2.2 dX8_sells_162
abbrev Q_X8_tick (G : va_G) (y : Nat → ClassId) (ad : Nat → Nat) (vThrown vN vC vNow vHaze vCold vHot vPipe vDeg vThaw vTrc vTurb vLeft vLoad vWater vTrips vMissed vBRow vBSum : Int) (vCell vDirt vAim vErr vCor vBrk vTop vLm vRows vCols vDown vRight vBound vStrain vPrice vFirm vSums vRays vFalls vSom vHad : Int → Int)  (A : Nat → Prop) : Array Value → State → Outcome → State → Prop := va_Qv (fun (u : (Int → Int) × (Int → Int) × Int × (Int → Int) × (Int → Int) × (Int → Int) × (Int → Int) × (Int → Int) × (Int → Int) × Int × Int × Int × Int × Int × Int × Int × Int × Int) => ((u.2.2.2.1, u.2.2.2.2.1, u.2.2.2.2.2.1, u.2.2.2.2.2.2.1, u.2.2.2.2.2.2.2.1, u.2.2.2.2.2.2.2.2.1, u.2.2.2.2.2.2.2.2.2.1, u.2.2.2.2.2.2.2.2.2.2.1, u.2.2.2.2.2.2.2.2.2.2.2.1, u.2.2.2.2.2.2.2.2.2.2.2.2.1, u.2.2.2.2.2.2.2.2.2.2.2.2.2.1, u.2.2.2.2.2.2.2.2.2.2.2.2.2.2.1, u.2.2.2.2.2.2.2.2.2.2.2.2.2.2.2.1, u.2.2.2.2.2.2.2.2.2.2.2.2.2.2.2.2.1, u.2.2.2.2.2.2.2.2.2.2.2.2.2.2.2.2.2) = tkF (vN, vC, vHaze, vTrc, vLoad, vCell, vErr, vCor, vBrk, vRows, vCols, vDown, vRight, vBound, vPrice, vFirm) (vAim, vDirt, vTop, vLm, vStrain, vSums, vNow, vCold, vHot, vPipe, vDeg, vThaw, vTurb, vLeft, vTrips)) ∧ (u.2.2.2.2.2.2.2.2.2.1 = vNow + 1) ∧ (∀ k : Int, -1 ≤ u.2.2.2.1 k ∧ u.2.2.2.1 k ≤ 5) ∧ (∀ k : Int, 0 ≤ u.2.2.2.2.1 k ∧ u.2.2.2.2.1 k ≤ 9) ∧ (∀ k : Int, -(16 + u.2.2.2.2.2.2.2.2.2.1) ≤ u.2.2.2.2.2.1 k ∧ u.2.2.2.2.2.1 k ≤ 16 + u.2.2.2.2.2.2.2.2.2.1) ∧ (∀ k : Int, -(16 + u.2.2.2.2.2.2.2.2.2.1) ≤ u.2.2.2.2.2.2.1 k ∧ u.2.2.2.2.2.2.1 k ≤ 16 + u.2.2.2.2.2.2.2.2.2.1) ∧ (∀ k : Int, 0 ≤ u.2.2.2.2.2.2.2.1 k ∧ u.2.2.2.2.2.2.2.1 k ≤ u.2.2.2.2.2.2.2.2.2.1) ∧ (0 ≤ u.2.2.2.2.2.2.2.2.2.2.2.2.2.2.2.2.2 ∧ u.2.2.2.2.2.2.2.2.2.2.2.2.2.2.2.2.2 ≤ u.2.2.2.2.2.2.2.2.2.1) ∧ (0 ≤ u.2.2.2.2.2.2.2.2.2.2.1 ∧ 0 ≤ u.2.2.2.2.2.2.2.2.2.2.2.1 ∧ u.2.2.2.2.2.2.2.2.2.2.1 + u.2.2.2.2.2.2.2.2.2.2.2.1 ≤ 1000) ∧ (0 ≤ u.2.2.2.2.2.2.2.2.2.2.2.2.1 ∧ u.2.2.2.2.2.2.2.2.2.2.2.2.1 ≤ 2) ∧ (0 ≤ u.2.2.2.2.2.2.2.2.2.2.2.2.2.1 ∧ u.2.2.2.2.2.2.2.2.2.2.2.2.2.1 ≤ 40 ∧ (u.2.2.2.2.2.2.2.2.2.2.2.2.1 = 1 → 20 ≤ u.2.2.2.2.2.2.2.2.2.2.2.2.2.1)) ∧ (0 ≤ u.2.2.2.2.2.2.2.2.2.2.2.2.2.2.1 ∧ u.2.2.2.2.2.2.2.2.2.2.2.2.2.2.1 ≤ 3 ∧ (u.2.2.2.2.2.2.2.2.2.2.2.2.1 = 2 → u.2.2.2.2.2.2.2.2.2.2.2.2.2.2.1 ≤ 2)) ∧ (0 ≤ u.2.2.2.2.2.2.2.2.2.2.2.2.2.2.2.1 ∧ u.2.2.2.2.2.2.2.2.2.2.2.2.2.2.2.1 ≤ 2) ∧ (0 ≤ u.2.2.2.2.2.2.2.2.2.2.2.2.2.2.2.2.1 ∧ u.2.2.2.2.2.2.2.2.2.2.2.2.2.2.2.2.1 ≤ 2 ∧ (u.2.2.2.2.2.2.2.2.2.2.2.2.2.2.2.1 = 1 → 1 ≤ u.2.2.2.2.2.2.2.2.2.2.2.2.2.2.2.2.1))) (fun (u : (Int → Int) × (Int → Int) × Int × (Int → Int) × (Int → Int) × (Int → Int) × (Int → Int) × (Int → Int) × (Int → Int) × Int × Int × Int × Int × Int × Int × Int × Int × Int) t => va_P G vwCl (mW ad y vThrown vN vC u.2.2.2.2.2.2.2.2.2.1 vHaze u.2.2.2.2.2.2.2.2.2.2.1 u.2.2.2.2.2.2.2.2.2.2.2.1 u.2.2.2.2.2.2.2.2.2.2.2.2.1 u.2.2.2.2.2.2.2.2.2.2.2.2.2.1 u.2.2.2.2.2.2.2.2.2.2.2.2.2.2.1 vTrc u.2.2.2.2.2.2.2.2.2.2.2.2.2.2.2.1 u.2.2.2.2.2.2.2.2.2.2.2.2.2.2.2.2.1 vLoad vWater u.2.2.2.2.2.2.2.2.2.2.2.2.2.2.2.2.2 u.2.2.1 vBRow vBSum vCell u.2.2.2.2.1 u.2.2.2.1 vErr vCor vBrk u.2.2.2.2.2.1 u.2.2.2.2.2.2.1 vRows vCols vDown vRight vBound u.2.2.2.2.2.2.2.1 vPrice vFirm u.2.2.2.2.2.2.2.2.1 u.1 u.2.1 vSom vHad) t.heap) A
set_option maxHeartbeats 4000000 in
set_option maxRecDepth 100000 in
theorem c_X8_tick (l : Launch) (G : va_G) (y : Nat → ClassId) (ad : Nat → Nat) (sz : Nat) (vThrown vN vC vNow vHaze vCold vHot vPipe vDeg vThaw vTrc vTurb vLeft vLoad vWater vTrips vMissed vBRow vBSum : Int) (vCell vDirt vAim vErr vCor vBrk vTop vLm vRows vCols vDown vRight vBound vStrain vPrice vFirm vSums vRays vFalls vSom vHad : Int → Int)  (hN : 0 ≤ vN ∧ vN ≤ 12) (hC : 0 ≤ vC ∧ vC ≤ 4) (hNow : 0 ≤ vNow ∧ vNow ≤ 9999) (hHaze : 0 ≤ vHaze ∧ vHaze ≤ 9) (hCell : ∀ k : Int, 0 ≤ vCell k ∧ vCell k ≤ 63) (hDirt : ∀ k : Int, 0 ≤ vDirt k ∧ vDirt k ≤ 9) (hTop : ∀ k : Int, -(16 + vNow) ≤ vTop k ∧ vTop k ≤ 16 + vNow) (hLm : ∀ k : Int, -(16 + vNow) ≤ vLm k ∧ vLm k ≤ 16 + vNow) (hRows : ∀ k : Int, 0 ≤ vRows k ∧ vRows k ≤ 8) (hCols : ∀ k : Int, 0 ≤ vCols k ∧ vCols k ≤ 8) (hDown : ∀ k : Int, -1 ≤ vDown k ∧ vDown k ≤ 1) (hRight : ∀ k : Int, -1 ≤ vRight k ∧ vRight k ≤ 1) (hAim : ∀ k : Int, -1 ≤ vAim k ∧ vAim k ≤ 5) (hErr : ∀ k : Int, -3 ≤ vErr k ∧ vErr k ≤ 3) (hCor : ∀ k : Int, -3 ≤ vCor k ∧ vCor k ≤ 3) (hBrk : ∀ k : Int, 0 ≤ vBrk k ∧ vBrk k ≤ 1) (hBound : ∀ k : Int, 0 ≤ vBound k ∧ vBound k ≤ 9999) (hSalt : 0 ≤ vCold ∧ 0 ≤ vHot ∧ vCold + vHot ≤ 1000) (hPipe : 0 ≤ vPipe ∧ vPipe ≤ 2) (hDeg : 0 ≤ vDeg ∧ vDeg ≤ 40 ∧ (vPipe = 1 → 20 ≤ vDeg)) (hThaw : 0 ≤ vThaw ∧ vThaw ≤ 3 ∧ (vPipe = 2 → vThaw ≤ 2)) (hTrc : 0 ≤ vTrc ∧ vTrc ≤ 1) (hTurb : 0 ≤ vTurb ∧ vTurb ≤ 2) (hLeft : 0 ≤ vLeft ∧ vLeft ≤ 2 ∧ (vTurb = 1 → 1 ≤ vLeft)) (hLoad : 0 ≤ vLoad ∧ vLoad ≤ 20) (hPrice : ∀ k : Int, 0 ≤ vPrice k ∧ vPrice k ≤ 99) (hFirm : ∀ k : Int, 0 ≤ vFirm k ∧ vFirm k ≤ 200) (hStrain : ∀ k : Int, 0 ≤ vStrain k ∧ vStrain k ≤ vNow) (hTrips : 0 ≤ vTrips ∧ vTrips ≤ vNow) (hn : vNow ≤ 9998) : Met l yX8_tick wsX8_tick ({ frames := 5, cells := 0, slots := 0, locals := 117 }) (va_Pc [.ref (ad 0)] (HPre G (tyL y) (mW ad y vThrown vN vC vNow vHaze vCold vHot vPipe vDeg vThaw vTrc vTurb vLeft vLoad vWater vTrips vMissed vBRow vBSum vCell vDirt vAim vErr vCor vBrk vTop vLm vRows vCols vDown vRight vBound vStrain vPrice vFirm vSums vRays vFalls vSom vHad) sz)) (Q_X8_tick G y ad vThrown vN vC vNow vHaze vCold vHot vPipe vDeg vThaw vTrc vTurb vLeft vLoad vWater vTrips vMissed vBRow vBSum vCell vDirt vAim vErr vCor vBrk vTop vLm vRows vCols vDown vRight vBound vStrain vPrice vFirm vSums vRays vFalls vSom vHad (va_A (mW ad y vThrown vN vC vNow vHaze vCold vHot vPipe vDeg vThaw vTrc vTurb vLeft vLoad vWater vTrips vMissed vBRow vBSum vCell vDirt vAim vErr vCor vBrk vTop vLm vRows vCols vDown vRight vBound vStrain vPrice vFirm vSums vRays vFalls vSom vHad) sz)) 0 0 (va_A (mW ad y vThrown vN vC vNow vHaze vCold vHot vPipe vDeg vThaw vTrc vTurb vLeft vLoad vWater vTrips vMissed vBRow vBSum vCell vDirt vAim vErr vCor vBrk vTop vLm vRows vCols vDown vRight vBound vStrain vPrice vFirm vSums vRays vFalls vSom vHad) sz) := by
  refine hz_ofW (Qf := Q_X8_tick G y ad vThrown vN vC vNow vHaze vCold vHot vPipe vDeg vThaw vTrc vTurb vLeft vLoad vWater vTrips vMissed vBRow vBSum vCell vDirt vAim vErr vCor vBrk vTop vLm vRows vCols vDown vRight vBound vStrain vPrice vFirm vSums vRays vFalls vSom vHad) (cc := cX8_tick) (maxL := 2) (ret := none) (by decide) rfl (Nat.le_of_ble_eq_true rfl) ?_
  intro p e s m below meth c A ls hx hb hr hts hown hin hlocks hml hP hK hA hD hS hl
  have hown : s.vm.findClass RX8 = some m.cls := hown
  have hl : lv_has ls 2 [(0, .ref (ad 0))] := hl
  have hinwsX80 : ∀ w ∈ wsX80, w ∈ wsX8_tick := fun _ h => List.mem_cons_of_mem _ (List.mem_append_right _ (h))
  refine lv_aload_n hx hb dX8_tick_0 rfl (lv_at hl 0 rfl) ?_
  refine lv_aload_n hx hb dX8_tick_1 rfl (lv_at hl 0 rfl) ?_
  refine lv_aload_n hx hb dX8_tick_2 rfl (lv_at hl 0 rfl) ?_
  refine hz_callWi (As := []) (rest := [.ref (ad 0), .ref (ad 0)]) ⟨hx, hb, hml, hown, hts⟩ (c_X8_shines l G y ad _ vThrown vN vC vNow vHaze vCold vHot vPipe vDeg vThaw vTrc vTurb vLeft vLoad vWater vTrips vMissed vBRow vBSum vCell vDirt vAim vErr vCor vBrk vTop vLm vRows vCols vDown vRight vBound vStrain vPrice vFirm vSums vRays vFalls vSom vHad  hN hC hNow hHaze hCell hDirt hTop hLm hRows hCols hDown hRight hAim hErr hCor hBrk hBound) (cwV 0 hts gX8_tick_X8_shines rfl rfl rfl (by decide +kernel) ⟨Nat.le_of_ble_eq_true rfl, Nat.le_of_ble_eq_true rfl⟩) hP hK hD hS hA 0 9 rfl rfl rfl rfl hl.1 rfl (Nat.le_of_ble_eq_true rfl) dX8_tick_3 ⟨Nat.zero_le _, Nat.zero_le _⟩ (fun _ => rfl) (fun u H locs hu hP hD hS => ?_)
  obtain ⟨r_1, s_2, s_3, s_4, n_5, n_6, n_7, n_8⟩ := u
  have p9 : r_1 = (if trN (flZ vN vAim vErr vCor (ryZ vN vC vNow vHaze vCell vDirt vTop vLm vRows vCols vDown vRight) (-1) 0) vBound 6 = 1 then 0 else alZ (flZ vN vAim vErr vCor (ryZ vN vC vNow vHaze vCell vDirt vTop vLm vRows vCols vDown vRight) (-1) 0)) := hu.1
  have p10 : 0 ≤ r_1 ∧ r_1 ≤ 68400 := hu.2.1
  have p11 : n_5 = (if trN (flZ vN vAim vErr vCor (ryZ vN vC vNow vHaze vCell vDirt vTop vLm vRows vCols vDown vRight) (-1) 0) vBound 6 = 1 then adZ (adZ (adZ vSums 0 (alZ (flZ vN vAim vErr vCor (ryZ vN vC vNow vHaze vCell vDirt vTop vLm vRows vCols vDown vRight) (-1) 0) + (msZ vN vAim vErr vCor (ryZ vN vC vNow vHaze vCell vDirt vTop vLm vRows vCols vDown vRight) (-1) 0))) 1 (msZ vN vAim vErr vCor (ryZ vN vC vNow vHaze vCell vDirt vTop vLm vRows vCols vDown vRight) (-1) 0)) 2 (alZ (flZ vN vAim vErr vCor (ryZ vN vC vNow vHaze vCell vDirt vTop vLm vRows vCols vDown vRight) (-1) 0)) else adZ (adZ (adZ vSums 0 (alZ (flZ vN vAim vErr vCor (ryZ vN vC vNow vHaze vCell vDirt vTop vLm vRows vCols vDown vRight) (-1) 0) + (msZ vN vAim vErr vCor (ryZ vN vC vNow vHaze vCell vDirt vTop vLm vRows vCols vDown vRight) (-1) 0))) 1 (msZ vN vAim vErr vCor (ryZ vN vC vNow vHaze vCell vDirt vTop vLm vRows vCols vDown vRight) (-1) 0)) 3 (alZ (flZ vN vAim vErr vCor (ryZ vN vC vNow vHaze vCell vDirt vTop vLm vRows vCols vDown vRight) (-1) 0))) := hu.2.2.1
  have p12 : n_6 = (if trN (flZ vN vAim vErr vCor (ryZ vN vC vNow vHaze vCell vDirt vTop vLm vRows vCols vDown vRight) (-1) 0) vBound 6 = 1 then vTrips + 1 else vTrips) := hu.2.2.2.1
  have p13 : n_7 = (if trN (flZ vN vAim vErr vCor (ryZ vN vC vNow vHaze vCell vDirt vTop vLm vRows vCols vDown vRight) (-1) 0) vBound 6 = 1 then snZ vStrain (flZ vN vAim vErr vCor (ryZ vN vC vNow vHaze vCell vDirt vTop vLm vRows vCols vDown vRight) (-1) 0) vBound 6 else vStrain) := hu.2.2.2.2.1
  have p14 : n_8 = (if trN (flZ vN vAim vErr vCor (ryZ vN vC vNow vHaze vCell vDirt vTop vLm vRows vCols vDown vRight) (-1) 0) vBound 6 = 1 then stZ vAim vBrk vN else vAim) := hu.2.2.2.2.2.1
  have p15 : ∀ k : Int, -1 ≤ n_8 k ∧ n_8 k ≤ 5 := hu.2.2.2.2.2.2
  have hP : va_P G vwCl (mW ad y vThrown vN vC vNow vHaze vCold vHot vPipe vDeg vThaw vTrc vTurb vLeft vLoad vWater n_6 s_4 vBRow vBSum vCell vDirt n_8 vErr vCor vBrk vTop vLm vRows vCols vDown vRight vBound n_7 vPrice vFirm n_5 s_2 s_3 vSom vHad) H := hP
  have hD : va_D A (mW ad y vThrown vN vC vNow vHaze vCold vHot vPipe vDeg vThaw vTrc vTurb vLeft vLoad vWater n_6 s_4 vBRow vBSum vCell vDirt n_8 vErr vCor vBrk vTop vLm vRows vCols vDown vRight vBound n_7 vPrice vFirm n_5 s_2 s_3 vSom vHad) := hD
  refine hz_callWi (As := [zi r_1]) (rest := [.ref (ad 0)]) ⟨hx, hb, hml, hown, hts⟩ (c_X8_comes l G y ad _ vThrown vN vC vNow vHaze vCold vHot vPipe vDeg vThaw vTrc vTurb vLeft vLoad vWater n_6 s_4 vBRow vBSum vCell vDirt n_8 vErr vCor vBrk vTop vLm vRows vCols vDown vRight vBound n_7 vPrice vFirm n_5 s_2 s_3 vSom vHad r_1 hSalt hPipe (by omega)) (cwV 1 hts gX8_tick_X8_comes rfl rfl rfl (by decide +kernel) ⟨Nat.le_of_ble_eq_true rfl, Nat.le_of_ble_eq_true rfl⟩) hP hK hD hS hA 0 9 rfl rfl rfl rfl hl.1 rfl (Nat.le_of_ble_eq_true rfl) dX8_tick_6 ⟨Nat.zero_le _, Nat.zero_le _⟩ (fun _ => rfl) (fun u H locs hu hP hD hS => ?_)
  obtain ⟨r_16, n_17, n_18, n_19⟩ := u
  have p20 : r_16 = cmZ vPipe r_1 vCold := hu.1
  have p21 : n_17 = vCold - r_16 := hu.2.1
  have p22 : n_18 = vHot + r_16 := hu.2.2.1
  have p23 : n_19 = adZ (adZ n_5 4 (r_1 - 100 * r_16)) 5 r_16 := hu.2.2.2.1
  have p24 : 0 ≤ n_17 ∧ 0 ≤ n_18 ∧ n_17 + n_18 ≤ 1000 := hu.2.2.2.2.1
  have p25 : 0 ≤ r_16 ∧ r_16 ≤ 1000 := hu.2.2.2.2.2
  have hP : va_P G vwCl (mW ad y vThrown vN vC vNow vHaze n_17 n_18 vPipe vDeg vThaw vTrc vTurb vLeft vLoad vWater n_6 s_4 vBRow vBSum vCell vDirt n_8 vErr vCor vBrk vTop vLm vRows vCols vDown vRight vBound n_7 vPrice vFirm n_19 s_2 s_3 vSom vHad) H := hP
  have hD : va_D A (mW ad y vThrown vN vC vNow vHaze n_17 n_18 vPipe vDeg vThaw vTrc vTurb vLeft vLoad vWater n_6 s_4 vBRow vBSum vCell vDirt n_8 vErr vCor vBrk vTop vLm vRows vCols vDown vRight vBound n_7 vPrice vFirm n_19 s_2 s_3 vSom vHad) := hD
  refine hz_callWv (As := [zi r_16]) (rest := []) ⟨hx, hb, hml, hown, hts⟩ (c_X8_pipes l G y ad _ vThrown vN vC vNow vHaze n_17 n_18 vPipe vDeg vThaw vTrc vTurb vLeft vLoad vWater n_6 s_4 vBRow vBSum vCell vDirt n_8 vErr vCor vBrk vTop vLm vRows vCols vDown vRight vBound n_7 vPrice vFirm n_19 s_2 s_3 vSom vHad r_16 hPipe hDeg hThaw hTrc (by omega)) (cwV 1 hts gX8_tick_X8_pipes rfl rfl rfl (by decide +kernel) ⟨Nat.le_of_ble_eq_true rfl, Nat.le_of_ble_eq_true rfl⟩) hP hK hD hS hA 0 9 rfl rfl rfl rfl hl.1 rfl (Nat.le_of_ble_eq_true rfl) dX8_tick_9 ⟨Nat.zero_le _, Nat.zero_le _⟩ (fun _ => rfl) (fun u H locs hu hP hD hS => ?_)
  obtain ⟨n_26, n_27, n_28⟩ := u
  have p29 : n_26 = npZ vPipe vDeg vThaw vTrc r_16 := hu.1
  have p30 : n_27 = ndZ vPipe vDeg vThaw vTrc r_16 := hu.2.1
  have p31 : n_28 = ntZ vPipe vThaw vTrc := hu.2.2.1
  have p32 : 0 ≤ n_26 ∧ n_26 ≤ 2 := hu.2.2.2.1
  have p33 : 0 ≤ n_27 ∧ n_27 ≤ 40 ∧ (n_26 = 1 → 20 ≤ n_27) := hu.2.2.2.2.1
  have p34 : 0 ≤ n_28 ∧ n_28 ≤ 3 ∧ (n_26 = 2 → n_28 ≤ 2) := hu.2.2.2.2.2
  have hP : va_P G vwCl (mW ad y vThrown vN vC vNow vHaze n_17 n_18 n_26 n_27 n_28 vTrc vTurb vLeft vLoad vWater n_6 s_4 vBRow vBSum vCell vDirt n_8 vErr vCor vBrk vTop vLm vRows vCols vDown vRight vBound n_7 vPrice vFirm n_19 s_2 s_3 vSom vHad) H := hP
  have hD : va_D A (mW ad y vThrown vN vC vNow vHaze n_17 n_18 n_26 n_27 n_28 vTrc vTurb vLeft vLoad vWater n_6 s_4 vBRow vBSum vCell vDirt n_8 vErr vCor vBrk vTop vLm vRows vCols vDown vRight vBound n_7 vPrice vFirm n_19 s_2 s_3 vSom vHad) := hD
  refine lv_aload_n hx hb dX8_tick_12 rfl (lv_at hl 0 rfl) ?_
  refine lv_aload_n hx hb dX8_tick_13 rfl (lv_at hl 0 rfl) ?_
  refine hz_callWi (As := []) (rest := [.ref (ad 0)]) ⟨hx, hb, hml, hown, hts⟩ (c_X8_turns l G y ad _ vThrown vN vC vNow vHaze n_17 n_18 n_26 n_27 n_28 vTrc vTurb vLeft vLoad vWater n_6 s_4 vBRow vBSum vCell vDirt n_8 vErr vCor vBrk vTop vLm vRows vCols vDown vRight vBound n_7 vPrice vFirm n_19 s_2 s_3 vSom vHad  hNow p24 hTurb hLeft hLoad) (cwV 0 hts gX8_tick_X8_turns rfl rfl rfl (by decide +kernel) ⟨Nat.le_of_ble_eq_true rfl, Nat.le_of_ble_eq_true rfl⟩) hP hK hD hS hA 0 9 rfl rfl rfl rfl hl.1 rfl (Nat.le_of_ble_eq_true rfl) dX8_tick_14 ⟨Nat.zero_le _, Nat.zero_le _⟩ (fun _ => rfl) (fun u H locs hu hP hD hS => ?_)
  obtain ⟨r_35, n_36, n_37, n_38, n_39, n_40⟩ := u
  have p41 : r_35 = tuZ vTurb vLoad n_18 * (10 - strZ vNow / 5) := hu.1
  have p42 : 0 ≤ r_35 ∧ r_35 ≤ 200 := hu.2.1
  have p43 : n_36 = n_17 + tuZ vTurb vLoad n_18 := hu.2.2.1
  have p44 : n_37 = n_18 - tuZ vTurb vLoad n_18 := hu.2.2.2.1
  have p45 : n_38 = nbZ vTurb vLeft := hu.2.2.2.2.1
  have p46 : n_39 = nlZ vTurb vLeft := hu.2.2.2.2.2.1
  have p47 : n_40 = adZ n_19 6 r_35 := hu.2.2.2.2.2.2.1
  have p48 : 0 ≤ n_36 ∧ 0 ≤ n_37 ∧ n_36 + n_37 ≤ 1000 := hu.2.2.2.2.2.2.2.1
  have p49 : 0 ≤ n_38 ∧ n_38 ≤ 2 := hu.2.2.2.2.2.2.2.2.1
  have p50 : 0 ≤ n_39 ∧ n_39 ≤ 2 ∧ (n_38 = 1 → 1 ≤ n_39) := hu.2.2.2.2.2.2.2.2.2
  have hP : va_P G vwCl (mW ad y vThrown vN vC vNow vHaze n_36 n_37 n_26 n_27 n_28 vTrc n_38 n_39 vLoad vWater n_6 s_4 vBRow vBSum vCell vDirt n_8 vErr vCor vBrk vTop vLm vRows vCols vDown vRight vBound n_7 vPrice vFirm n_40 s_2 s_3 vSom vHad) H := hP
  have hD : va_D A (mW ad y vThrown vN vC vNow vHaze n_36 n_37 n_26 n_27 n_28 vTrc n_38 n_39 vLoad vWater n_6 s_4 vBRow vBSum vCell vDirt n_8 vErr vCor vBrk vTop vLm vRows vCols vDown vRight vBound n_7 vPrice vFirm n_40 s_2 s_3 vSom vHad) := hD
  refine hz_callWv (As := [zi r_35]) (rest := []) ⟨hx, hb, hml, hown, hts⟩ (c_X8_sells l G y ad _ vThrown vN vC vNow vHaze n_36 n_37 n_26 n_27 n_28 vTrc n_38 n_39 vLoad vWater n_6 s_4 vBRow vBSum vCell vDirt n_8 vErr vCor vBrk vTop vLm vRows vCols vDown vRight vBound n_7 vPrice vFirm n_40 s_2 s_3 vSom vHad r_35 hNow hTrc hPrice hFirm (by omega)) (cwV 1 hts gX8_tick_X8_sells rfl rfl rfl (by decide +kernel) ⟨Nat.le_of_ble_eq_true rfl, Nat.le_of_ble_eq_true rfl⟩) hP hK hD hS hA 0 9 rfl rfl rfl rfl hl.1 rfl (Nat.le_of_ble_eq_true rfl) dX8_tick_17 ⟨Nat.zero_le _, Nat.zero_le _⟩ (fun _ => rfl) (fun n_51 H locs hu hP hD hS => ?_)
  have p52 : n_51 = slZ n_40 (toZ vTrc) (boZ vTrc r_35) (r_35 - toZ vTrc + boZ vTrc r_35) (dlZ vTrc r_35 (vFirm (vNow % 24))) (vFirm (vNow % 24)) (vPrice (vNow % 24)) := hu
  have hP : va_P G vwCl (mW ad y vThrown vN vC vNow vHaze n_36 n_37 n_26 n_27 n_28 vTrc n_38 n_39 vLoad vWater n_6 s_4 vBRow vBSum vCell vDirt n_8 vErr vCor vBrk vTop vLm vRows vCols vDown vRight vBound n_7 vPrice vFirm n_51 s_2 s_3 vSom vHad) H := hP
  have hD : va_D A (mW ad y vThrown vN vC vNow vHaze n_36 n_37 n_26 n_27 n_28 vTrc n_38 n_39 vLoad vWater n_6 s_4 vBRow vBSum vCell vDirt n_8 vErr vCor vBrk vTop vLm vRows vCols vDown vRight vBound n_7 vPrice vFirm n_51 s_2 s_3 vSom vHad) := hD
  refine hz_iconst hx hb dX8_tick_20 ?_
  refine lv_istore_n (lv' := [(1, zi 0), (0, .ref (ad 0))]) hx hb dX8_tick_21 rfl hl (by decide) rfl (fun ls hl => ?_)
  have L22 : ∀ (n : Nat) (kc : Int) (f : Int → Int) (g2 : Int → Int) (H : Heap) (locs : List Loc), (0 ≤ kc ∧ kc ≤ vC) → (f = drZ vTop vDown kc) → (g2 = drZ vLm vRight kc) → ((vC - kc).toNat) < n → va_P G vwCl (mW ad y vThrown vN vC vNow vHaze n_36 n_37 n_26 n_27 n_28 vTrc n_38 n_39 vLoad vWater n_6 s_4 vBRow vBSum vCell vDirt n_8 vErr vCor vBrk f g2 vRows vCols vDown vRight vBound n_7 vPrice vFirm n_51 s_2 s_3 vSom vHad) H → va_D A (mW ad y vThrown vN vC vNow vHaze n_36 n_37 n_26 n_27 n_28 vTrc n_38 n_39 vLoad vWater n_6 s_4 vBRow vBSum vCell vDirt n_8 vErr vCor vBrk f g2 vRows vCols vDown vRight vBound n_7 vPrice vFirm n_51 s_2 s_3 vSom vHad) → va_S A s.heap H locs → ∀ ls : Array Slot, lv_has ls 2 [(0, .ref (ad 0)), (1, zi kc)] → W p l e (headSpec wsX8_tick ({ frames := 5, cells := 0, slots := 0, locals := 117 })).room s m ([.ref (ad 0)] : List Value).toArray below meth c H locs 0 0 (MQ below (Q_X8_tick G y ad vThrown vN vC vNow vHaze vCold vHot vPipe vDeg vThaw vTrc vTurb vLeft vLoad vWater vTrips vMissed vBRow vBSum vCell vDirt vAim vErr vCor vBrk vTop vLm vRows vCols vDown vRight vBound vStrain vPrice vFirm vSums vRays vFalls vSom vHad A) ([.ref (ad 0)] : List Value).toArray s 0 0 A) (F0 m 22 ls []) := by
    intro n
    induction n with
    | zero => exact fun kc f g2 H locs h_k22 h_f22 h_g22 hm => absurd hm (Nat.not_lt_zero _)
    | succ n ih22 =>
      intro kc f g2 H locs h_k22 h_f22 h_g22 hm22 hP hD hS ls hl
      refine lv_iload_n hx hb dX8_tick_22 rfl (lv_at hl 1 rfl) ?_
      refine lv_aload_n hx hb dX8_tick_23 rfl (lv_at hl 0 rfl) ?_
      refine va_get (D := G) (ci := 9) (v := zi vC) (C := RX8) (T := TX8) (N := 40) hx hb hts hinwsX80 hown hK hP 0 rfl rfl 8 (by decide) (hts (.fieldLink RX8 117 "HeliokeepModel" "clouds" "I") (List.mem_of_getElem? (i := 1) rfl)) (fun _ h9 => h9) rfl dX8_tick_24 ?_
      refine hz_icmp_ge (tgt := 66) hx hb dX8_tick_27 (by decide) (by omega) (fun c53 => ?_) (fun c53 => ?_)
      · refine lv_aload_n hx hb dX8_tick_66 rfl (lv_at hl 0 rfl) ?_
        refine lv_dup hx hb dX8_tick_67 rfl ?_
        refine va_get (D := G) (ci := 9) (v := zi vNow) (C := RX8) (T := TX8) (N := 40) hx hb hts hinwsX80 hown hK hP 0 rfl rfl 20 (by decide) (hts (.fieldLink RX8 108 "HeliokeepModel" "now" "I") (List.mem_of_getElem? (i := 6) rfl)) (fun _ h9 => h9) rfl dX8_tick_68 ?_
        refine hz_iconst hx hb dX8_tick_71 ?_
        refine hz_iadd hx hb dX8_tick_72 ?_
        refine va_put (D := G) (ci := 9) (v := zi (vNow + 1)) (ty := .int) (C := RX8) (T := TX8) (N := 40) hx hb hts hinwsX80 tyX8 tyX8_ok nmX8 hown hK hP hD hS 0 rfl rfl 20 (by decide) (hts (.fieldLink RX8 108 "HeliokeepModel" "now" "I") (List.mem_of_getElem? (i := 6) rfl)) (fun _ h9 => h9) rfl (by decide +kernel) rfl rfl (Nat.le_of_ble_eq_true rfl) dX8_tick_73 (fun H locs hP hD hS => ?_)
        have hP : va_P G vwCl (mW ad y vThrown vN vC (vNow + 1) vHaze n_36 n_37 n_26 n_27 n_28 vTrc n_38 n_39 vLoad vWater n_6 s_4 vBRow vBSum vCell vDirt n_8 vErr vCor vBrk f g2 vRows vCols vDown vRight vBound n_7 vPrice vFirm n_51 s_2 s_3 vSom vHad) H := hP
        have hD : va_D A (mW ad y vThrown vN vC (vNow + 1) vHaze n_36 n_37 n_26 n_27 n_28 vTrc n_38 n_39 vLoad vWater n_6 s_4 vBRow vBSum vCell vDirt n_8 vErr vCor vBrk f g2 vRows vCols vDown vRight vBound n_7 vPrice vFirm n_51 s_2 s_3 vSom vHad) := hD
        refine hz_iconst hx hb dX8_tick_76 ?_
        refine lv_istore_n (lv' := [(1, zi 0), (0, .ref (ad 0))]) hx hb dX8_tick_77 rfl hl (by decide) rfl (fun ls hl => ?_)
        have L78 : ∀ (n : Nat) (k : Int) (f2 : Int → Int) (H : Heap) (locs : List Loc), (0 ≤ k ∧ k ≤ vN) → (k = 0 ∨ (vNow + 1) % 24 = 0) → (f2 = diZ vDirt k) → ((vN - k).toNat) < n → va_P G vwCl (mW ad y vThrown vN vC (vNow + 1) vHaze n_36 n_37 n_26 n_27 n_28 vTrc n_38 n_39 vLoad vWater n_6 s_4 vBRow vBSum vCell f2 n_8 vErr vCor vBrk f g2 vRows vCols vDown vRight vBound n_7 vPrice vFirm n_51 s_2 s_3 vSom vHad) H → va_D A (mW ad y vThrown vN vC (vNow + 1) vHaze n_36 n_37 n_26 n_27 n_28 vTrc n_38 n_39 vLoad vWater n_6 s_4 vBRow vBSum vCell f2 n_8 vErr vCor vBrk f g2 vRows vCols vDown vRight vBound n_7 vPrice vFirm n_51 s_2 s_3 vSom vHad) → va_S A s.heap H locs → ∀ ls : Array Slot, lv_has ls 2 [(0, .ref (ad 0)), (1, zi k)] → W p l e (headSpec wsX8_tick ({ frames := 5, cells := 0, slots := 0, locals := 117 })).room s m ([.ref (ad 0)] : List Value).toArray below meth c H locs 0 0 (MQ below (Q_X8_tick G y ad vThrown vN vC vNow vHaze vCold vHot vPipe vDeg vThaw vTrc vTurb vLeft vLoad vWater vTrips vMissed vBRow vBSum vCell vDirt vAim vErr vCor vBrk vTop vLm vRows vCols vDown vRight vBound vStrain vPrice vFirm vSums vRays vFalls vSom vHad A) ([.ref (ad 0)] : List Value).toArray s 0 0 A) (F0 m 78 ls []) := by
          intro n
          induction n with
          | zero => exact fun k f2 H locs h_k78 h_q78 h_f78 hm => absurd hm (Nat.not_lt_zero _)
          | succ n ih78 =>
            intro k f2 H locs h_k78 h_q78 h_f78 hm78 hP hD hS ls hl
            refine lv_iload_n hx hb dX8_tick_78 rfl (lv_at hl 1 rfl) ?_
            refine lv_aload_n hx hb dX8_tick_79 rfl (lv_at hl 0 rfl) ?_
            refine va_get (D := G) (ci := 9) (v := zi vN) (C := RX8) (T := TX8) (N := 40) hx hb hts hinwsX80 hown hK hP 0 rfl rfl 1 (by decide) (hts (.fieldLink RX8 82 "HeliokeepModel" "mirrors" "I") (List.mem_of_getElem? (i := 7) rfl)) (fun _ h9 => h9) rfl dX8_tick_80 ?_
            refine hz_icmp_ge (tgt := 122) hx hb dX8_tick_83 (by decide) (by omega) (fun c54 => ?_) (fun c54 => ?_)
            · exact W.vret hx hb hr (fun t ht hW => ⟨⟨(s_2, s_3, s_4, n_8, f2, f, g2, n_7, n_51, (vNow + 1), n_36, n_37, n_26, n_27, n_28, n_38, n_39, n_6), rfl, ⟨(show (n_8, f2, f, g2, n_7, n_51, (vNow + 1), n_36, n_37, n_26, n_27, n_28, n_38, n_39, n_6) = tkF (vN, vC, vHaze, vTrc, vLoad, vCell, vErr, vCor, vBrk, vRows, vCols, vDown, vRight, vBound, vPrice, vFirm) (vAim, vDirt, vTop, vLm, vStrain, vSums, vNow, vCold, vHot, vPipe, vDeg, vThaw, vTurb, vLeft, vTrips) from by
          have ed : f2 = (if (vNow + 1) % 24 = 0 then diZ vDirt vN else vDirt) := by
            rw [h_f78]
            by_cases q : (vNow + 1) % 24 = 0
            · rw [if_pos q]; exact congrArg (diZ vDirt) (by omega)
            · rw [if_neg q, show k = 0 from by omega]; exact diZ_0
          have ec1 : f = drZ vTop vDown vC := by rw [h_f22]; exact congrArg (drZ vTop vDown) (by omega)
          have ec2 : g2 = drZ vLm vRight vC := by rw [h_g22]; exact congrArg (drZ vLm vRight) (by omega)
          rw [ed, ec1, ec2, p52, p47, p41, p43, p44, p45, p46, p29, p30, p31, p23, p21, p22, p20, p11, p12, p13, p14, p9]
          rfl), (show (vNow + 1) = vNow + 1 from by omega), (show ∀ k : Int, -1 ≤ n_8 k ∧ n_8 k ≤ 5 from p15), (show ∀ k : Int, 0 ≤ f2 k ∧ f2 k ≤ 9 from by rw [h_f78]; exact diZ_rng hDirt), (show ∀ k : Int, -(16 + (vNow + 1)) ≤ f k ∧ f k ≤ 16 + (vNow + 1) from fun k => by
          have q1 := hTop k
          have q2 := hDown k
          rw [h_f22]
          unfold drZ
          split <;> omega), (show ∀ k : Int, -(16 + (vNow + 1)) ≤ g2 k ∧ g2 k ≤ 16 + (vNow + 1) from fun k => by
          have q1 := hLm k
          have q2 := hRight k
          rw [h_g22]
          unfold drZ
          split <;> omega), (show ∀ k : Int, 0 ≤ n_7 k ∧ n_7 k ≤ (vNow + 1) from fun k => by
          have q1 := hStrain k
          rw [p13]
          by_cases q : trN (flZ vN vAim vErr vCor (ryZ vN vC vNow vHaze vCell vDirt vTop vLm vRows vCols vDown vRight) (-1) 0) vBound 6 = 1
          · rw [if_pos q]; unfold snZ; split <;> omega
          · rw [if_neg q]; omega), (show 0 ≤ n_6 ∧ n_6 ≤ (vNow + 1) from by
          rw [p12]
          split <;> omega), (show 0 ≤ n_36 ∧ 0 ≤ n_37 ∧ n_36 + n_37 ≤ 1000 from p48), (show 0 ≤ n_26 ∧ n_26 ≤ 2 from p32), (show 0 ≤ n_27 ∧ n_27 ≤ 40 ∧ (n_26 = 1 → 20 ≤ n_27) from p33), (show 0 ≤ n_28 ∧ n_28 ≤ 3 ∧ (n_26 = 2 → n_28 ≤ 2) from p34), (show 0 ≤ n_38 ∧ n_38 ≤ 2 from p49), (show 0 ≤ n_39 ∧ n_39 ≤ 2 ∧ (n_38 = 1 → 1 ≤ n_39) from p50)⟩, hz_at hP ht⟩, hS.F ht⟩) hS.2.2 dX8_tick_122
            · refine lv_aload_n hx hb dX8_tick_86 rfl (lv_at hl 0 rfl) ?_
              refine va_get (D := G) (ci := 9) (v := zi (vNow + 1)) (C := RX8) (T := TX8) (N := 40) hx hb hts hinwsX80 hown hK hP 0 rfl rfl 20 (by decide) (hts (.fieldLink RX8 108 "HeliokeepModel" "now" "I") (List.mem_of_getElem? (i := 6) rfl)) (fun _ h9 => h9) rfl dX8_tick_87 ?_
              refine hz_bipush hx hb dX8_tick_90 (by decide) ?_
              refine hz_irem hx hb dX8_tick_92 (by omega) ?_
              refine hz_if_ne (tgt := 122) hx hb dX8_tick_93 (by decide) (by omega) (fun c55 => ?_) (fun c55 => ?_)
              · exact W.vret hx hb hr (fun t ht hW => ⟨⟨(s_2, s_3, s_4, n_8, f2, f, g2, n_7, n_51, (vNow + 1), n_36, n_37, n_26, n_27, n_28, n_38, n_39, n_6), rfl, ⟨(show (n_8, f2, f, g2, n_7, n_51, (vNow + 1), n_36, n_37, n_26, n_27, n_28, n_38, n_39, n_6) = tkF (vN, vC, vHaze, vTrc, vLoad, vCell, vErr, vCor, vBrk, vRows, vCols, vDown, vRight, vBound, vPrice, vFirm) (vAim, vDirt, vTop, vLm, vStrain, vSums, vNow, vCold, vHot, vPipe, vDeg, vThaw, vTurb, vLeft, vTrips) from by
          have ed : f2 = (if (vNow + 1) % 24 = 0 then diZ vDirt vN else vDirt) := by
            rw [h_f78]
            by_cases q : (vNow + 1) % 24 = 0
            · rw [if_pos q]; exact congrArg (diZ vDirt) (by omega)
            · rw [if_neg q, show k = 0 from by omega]; exact diZ_0
          have ec1 : f = drZ vTop vDown vC := by rw [h_f22]; exact congrArg (drZ vTop vDown) (by omega)
          have ec2 : g2 = drZ vLm vRight vC := by rw [h_g22]; exact congrArg (drZ vLm vRight) (by omega)
          rw [ed, ec1, ec2, p52, p47, p41, p43, p44, p45, p46, p29, p30, p31, p23, p21, p22, p20, p11, p12, p13, p14, p9]
          rfl), (show (vNow + 1) = vNow + 1 from by omega), (show ∀ k : Int, -1 ≤ n_8 k ∧ n_8 k ≤ 5 from p15), (show ∀ k : Int, 0 ≤ f2 k ∧ f2 k ≤ 9 from by rw [h_f78]; exact diZ_rng hDirt), (show ∀ k : Int, -(16 + (vNow + 1)) ≤ f k ∧ f k ≤ 16 + (vNow + 1) from fun k => by
          have q1 := hTop k
          have q2 := hDown k
          rw [h_f22]
          unfold drZ
          split <;> omega), (show ∀ k : Int, -(16 + (vNow + 1)) ≤ g2 k ∧ g2 k ≤ 16 + (vNow + 1) from fun k => by
          have q1 := hLm k
          have q2 := hRight k
          rw [h_g22]
          unfold drZ
          split <;> omega), (show ∀ k : Int, 0 ≤ n_7 k ∧ n_7 k ≤ (vNow + 1) from fun k => by
          have q1 := hStrain k
          rw [p13]
          by_cases q : trN (flZ vN vAim vErr vCor (ryZ vN vC vNow vHaze vCell vDirt vTop vLm vRows vCols vDown vRight) (-1) 0) vBound 6 = 1
          · rw [if_pos q]; unfold snZ; split <;> omega
          · rw [if_neg q]; omega), (show 0 ≤ n_6 ∧ n_6 ≤ (vNow + 1) from by
          rw [p12]
          split <;> omega), (show 0 ≤ n_36 ∧ 0 ≤ n_37 ∧ n_36 + n_37 ≤ 1000 from p48), (show 0 ≤ n_26 ∧ n_26 ≤ 2 from p32), (show 0 ≤ n_27 ∧ n_27 ≤ 40 ∧ (n_26 = 1 → 20 ≤ n_27) from p33), (show 0 ≤ n_28 ∧ n_28 ≤ 3 ∧ (n_26 = 2 → n_28 ≤ 2) from p34), (show 0 ≤ n_38 ∧ n_38 ≤ 2 from p49), (show 0 ≤ n_39 ∧ n_39 ≤ 2 ∧ (n_38 = 1 → 1 ≤ n_39) from p50)⟩, hz_at hP ht⟩, hS.F ht⟩) hS.2.2 dX8_tick_122
              · refine lv_aload_n hx hb dX8_tick_96 rfl (lv_at hl 0 rfl) ?_
                refine va_get (D := G) (ci := 9) (v := .ref (ad 2)) (C := RX8) (T := TX8) (N := 40) hx hb hts hinwsX80 hown hK hP 0 rfl rfl 3 (by decide) (hts (.fieldLink RX8 13 "HeliokeepModel" "dirt" "[I") (List.mem_of_getElem? (i := 8) rfl)) (fun _ h9 => h9) rfl dX8_tick_97 ?_
                refine lv_iload_n hx hb dX8_tick_100 rfl (lv_at hl 1 rfl) ?_
                refine lv_aload_n hx hb dX8_tick_101 rfl (lv_at hl 0 rfl) ?_
                refine va_get (D := G) (ci := 9) (v := .ref (ad 2)) (C := RX8) (T := TX8) (N := 40) hx hb hts hinwsX80 hown hK hP 0 rfl rfl 3 (by decide) (hts (.fieldLink RX8 13 "HeliokeepModel" "dirt" "[I") (List.mem_of_getElem? (i := 8) rfl)) (fun _ h9 => h9) rfl dX8_tick_102 ?_
                have qd : 0 ≤ f2 k ∧ f2 k ≤ 9 := by rw [h_f78]; exact diZ_rng hDirt k
                refine lv_iload_n hx hb dX8_tick_105 rfl (lv_at hl 1 rfl) ?_
                refine hz_iald (f := f2) hx hb hK hP 2 0 rfl rfl (Nat.le_of_ble_eq_true rfl) (by omega) dX8_tick_106 ?_
                refine hz_iconst hx hb dX8_tick_107 ?_
                refine hz_iadd hx hb dX8_tick_108 ?_
                refine hz_iconst hx hb dX8_tick_109 ?_
                refine hz_bipush hx hb dX8_tick_110 (by decide) ?_
                refine hz_callSi (As := [zi ((f2 k) + 1), zi 0, zi 9]) (rest := [zi k, .ref (ad 2)]) ⟨hx, hb, hml, hown, hts⟩ (c_X8_held l ((f2 k) + 1) 0 9 (by omega) (by omega) (by omega)) (va_cwS 3 hts gX8_tick_X8_held rfl rfl rfl (by decide +kernel) ⟨Nat.le_of_ble_eq_true rfl, Nat.le_of_ble_eq_true rfl⟩) rfl hl.1 rfl (Nat.le_of_ble_eq_true rfl) dX8_tick_112 ⟨Nat.zero_le _, Nat.zero_le _⟩ ?_
                refine hz_iast (f := f2) hx hb hK hP hD hS 2 0 rfl rfl (Nat.le_of_ble_eq_true rfl) (by omega) dX8_tick_115 (fun H locs hP hD hS => ?_)
                have hP : va_P G vwCl (mW ad y vThrown vN vC (vNow + 1) vHaze n_36 n_37 n_26 n_27 n_28 vTrc n_38 n_39 vLoad vWater n_6 s_4 vBRow vBSum vCell (upZ f2 k (hdZ ((f2 k) + 1) 0 9)) n_8 vErr vCor vBrk f g2 vRows vCols vDown vRight vBound n_7 vPrice vFirm n_51 s_2 s_3 vSom vHad) H := hP
                have hD : va_D A (mW ad y vThrown vN vC (vNow + 1) vHaze n_36 n_37 n_26 n_27 n_28 vTrc n_38 n_39 vLoad vWater n_6 s_4 vBRow vBSum vCell (upZ f2 k (hdZ ((f2 k) + 1) 0 9)) n_8 vErr vCor vBrk f g2 vRows vCols vDown vRight vBound n_7 vPrice vFirm n_51 s_2 s_3 vSom vHad) := hD
                refine hz_iinc (v := (k + 1)) (lv' := [(1, zi (k + 1)), (0, .ref (ad 0))]) hx hb dX8_tick_116 hl (k := 1) rfl (by omega) (by decide) rfl (fun ls hl => ?_)
                refine lv_goto (tgt := 78) hx hb dX8_tick_119 (by decide) ?_
                exact ih78 (k + 1) (upZ f2 k (hdZ ((f2 k) + 1) 0 9)) _ _ (by omega) (by omega) (by rw [h_f78]; exact diZ_s (by omega)) (by omega) hP hD hS ls (lv_sub hl [1, 0] rfl)
        exact L78 _ 0 vDirt _ _ (by omega) (by omega) (diZ_0.symm) (Nat.lt_succ_self _) hP hD hS ls (lv_sub hl [1, 0] rfl)
      · refine lv_aload_n hx hb dX8_tick_30 rfl (lv_at hl 0 rfl) ?_
        refine va_get (D := G) (ci := 9) (v := .ref (ad 7)) (C := RX8) (T := TX8) (N := 40) hx hb hts hinwsX80 hown hK hP 0 rfl rfl 9 (by decide) (hts (.fieldLink RX8 29 "HeliokeepModel" "top" "[I") (List.mem_of_getElem? (i := 2) rfl)) (fun _ h9 => h9) rfl dX8_tick_31 ?_
        refine lv_iload_n hx hb dX8_tick_34 rfl (lv_at hl 1 rfl) ?_
        refine lv_dup2_11 hx hb dX8_tick_35 rfl rfl ?_
        refine hz_iald (f := f) hx hb hK hP 7 0 rfl rfl (Nat.le_of_ble_eq_true rfl) (by omega) dX8_tick_36 ?_
        refine lv_aload_n hx hb dX8_tick_37 rfl (lv_at hl 0 rfl) ?_
        refine va_get (D := G) (ci := 9) (v := .ref (ad 11)) (C := RX8) (T := TX8) (N := 40) hx hb hts hinwsX80 hown hK hP 0 rfl rfl 13 (by decide) (hts (.fieldLink RX8 41 "HeliokeepModel" "down" "[I") (List.mem_of_getElem? (i := 3) rfl)) (fun _ h9 => h9) rfl dX8_tick_38 ?_
        refine lv_iload_n hx hb dX8_tick_41 rfl (lv_at hl 1 rfl) ?_
        refine hz_iald (f := vDown) hx hb hK hP 11 0 rfl rfl (Nat.le_of_ble_eq_true rfl) (by omega) dX8_tick_42 ?_
        have q56 := hDown kc
        refine hz_iadd hx hb dX8_tick_43 ?_
        refine hz_iast (f := f) hx hb hK hP hD hS 7 0 rfl rfl (Nat.le_of_ble_eq_true rfl) (by omega) dX8_tick_44 (fun H locs hP hD hS => ?_)
        have hP : va_P G vwCl (mW ad y vThrown vN vC vNow vHaze n_36 n_37 n_26 n_27 n_28 vTrc n_38 n_39 vLoad vWater n_6 s_4 vBRow vBSum vCell vDirt n_8 vErr vCor vBrk (upZ f kc ((f kc) + (vDown kc))) g2 vRows vCols vDown vRight vBound n_7 vPrice vFirm n_51 s_2 s_3 vSom vHad) H := hP
        have hD : va_D A (mW ad y vThrown vN vC vNow vHaze n_36 n_37 n_26 n_27 n_28 vTrc n_38 n_39 vLoad vWater n_6 s_4 vBRow vBSum vCell vDirt n_8 vErr vCor vBrk (upZ f kc ((f kc) + (vDown kc))) g2 vRows vCols vDown vRight vBound n_7 vPrice vFirm n_51 s_2 s_3 vSom vHad) := hD
        refine lv_aload_n hx hb dX8_tick_45 rfl (lv_at hl 0 rfl) ?_
        refine va_get (D := G) (ci := 9) (v := .ref (ad 8)) (C := RX8) (T := TX8) (N := 40) hx hb hts hinwsX80 hown hK hP 0 rfl rfl 10 (by decide) (hts (.fieldLink RX8 32 "HeliokeepModel" "leftmost" "[I") (List.mem_of_getElem? (i := 4) rfl)) (fun _ h9 => h9) rfl dX8_tick_46 ?_
        refine lv_iload_n hx hb dX8_tick_49 rfl (lv_at hl 1 rfl) ?_
        refine lv_dup2_11 hx hb dX8_tick_50 rfl rfl ?_
        refine hz_iald (f := g2) hx hb hK hP 8 0 rfl rfl (Nat.le_of_ble_eq_true rfl) (by omega) dX8_tick_51 ?_
        refine lv_aload_n hx hb dX8_tick_52 rfl (lv_at hl 0 rfl) ?_
        refine va_get (D := G) (ci := 9) (v := .ref (ad 12)) (C := RX8) (T := TX8) (N := 40) hx hb hts hinwsX80 hown hK hP 0 rfl rfl 14 (by decide) (hts (.fieldLink RX8 44 "HeliokeepModel" "right" "[I") (List.mem_of_getElem? (i := 5) rfl)) (fun _ h9 => h9) rfl dX8_tick_53 ?_
        refine lv_iload_n hx hb dX8_tick_56 rfl (lv_at hl 1 rfl) ?_
        refine hz_iald (f := vRight) hx hb hK hP 12 0 rfl rfl (Nat.le_of_ble_eq_true rfl) (by omega) dX8_tick_57 ?_
        have q57 := hRight kc
        refine hz_iadd hx hb dX8_tick_58 ?_
        refine hz_iast (f := g2) hx hb hK hP hD hS 8 0 rfl rfl (Nat.le_of_ble_eq_true rfl) (by omega) dX8_tick_59 (fun H locs hP hD hS => ?_)
        have hP : va_P G vwCl (mW ad y vThrown vN vC vNow vHaze n_36 n_37 n_26 n_27 n_28 vTrc n_38 n_39 vLoad vWater n_6 s_4 vBRow vBSum vCell vDirt n_8 vErr vCor vBrk (upZ f kc ((f kc) + (vDown kc))) (upZ g2 kc ((g2 kc) + (vRight kc))) vRows vCols vDown vRight vBound n_7 vPrice vFirm n_51 s_2 s_3 vSom vHad) H := hP
        have hD : va_D A (mW ad y vThrown vN vC vNow vHaze n_36 n_37 n_26 n_27 n_28 vTrc n_38 n_39 vLoad vWater n_6 s_4 vBRow vBSum vCell vDirt n_8 vErr vCor vBrk (upZ f kc ((f kc) + (vDown kc))) (upZ g2 kc ((g2 kc) + (vRight kc))) vRows vCols vDown vRight vBound n_7 vPrice vFirm n_51 s_2 s_3 vSom vHad) := hD
        refine hz_iinc (v := (kc + 1)) (lv' := [(1, zi (kc + 1)), (0, .ref (ad 0))]) hx hb dX8_tick_60 hl (k := 1) rfl (by omega) (by decide) rfl (fun ls hl => ?_)
        refine lv_goto (tgt := 22) hx hb dX8_tick_63 (by decide) ?_
        exact ih22 (kc + 1) (upZ f kc ((f kc) + (vDown kc))) (upZ g2 kc ((g2 kc) + (vRight kc))) _ _ (by omega) (by rw [h_f22]; exact drZ_s (by omega)) (by rw [h_g22]; exact drZ_s (by omega)) (by omega) hP hD hS ls (lv_sub hl [1, 0] rfl)
  exact L22 _ 0 vTop vLm _ _ (by omega) (drZ_0.symm) (drZ_0.symm) (Nat.lt_succ_self _) hP hD hS ls (lv_sub hl [1, 0] rfl)
