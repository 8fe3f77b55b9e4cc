noncomputable def ryZ (n cl now haze : Int) (cell dirt top lm rows cols down right : Int → Int) : Int → Int := fun j => pwZ n cl now haze cell dirt top lm rows cols down right j 0 / 10
theorem flZ_cong {n : Int} {aim err cor rays rays2 : Int → Int} {other bb q : Int} (h : ∀ j : Int, 0 ≤ j → j < n → rays j = rays2 j) : flZ n aim err cor rays other bb q = flZ n aim err cor rays2 other bb q := by
  by_cases hn : 0 ≤ n
  · exact smZ_cong (k := n) (fun j h0 h1 => by unfold ctZ; rw [h j h0 h1]) n.toNat (by omega)
  · unfold flZ
    rw [show n.toNat = 0 by omega]
    rfl
/-! a tick, as functions of whole numbers -/
theorem alZ_cong {f g : Int → Int} (h : ∀ q : Int, 0 ≤ q → q ≤ 5 → f q = g q) : alZ f = alZ g := smZ_cong (k := 6) (fun j a b => h j a (by omega)) 6 (by omega)
theorem alZ_rng {f : Int → Int} (h : ∀ q : Int, 0 ≤ q → q ≤ 5 → 0 ≤ f q ∧ f q ≤ 11400) : 0 ≤ alZ f ∧ alZ f ≤ 68400 := by
  have := smZ_rng (f := f) (b := 11400) (k := 6) (fun j a b => h j a (by omega)) (by omega) 6 (by omega)
  unfold alZ
  omega
theorem msZ_cong {n : Int} {aim err cor rays rays2 : Int → Int} {other bb : Int} (h : ∀ j : Int, 0 ≤ j → j < n → rays j = rays2 j) : msZ n aim err cor rays other bb = msZ n aim err cor rays2 other bb := by
  by_cases hn : 0 ≤ n
  · exact smZ_cong (k := n) (fun j h0 h1 => by unfold mtZ; rw [h j h0 h1]) n.toNat (by omega)
  · unfold msZ
    rw [show n.toNat = 0 by omega]
    rfl
theorem trN_cong {f g b : Int → Int} (h : ∀ q : Int, 0 ≤ q → q ≤ 5 → f q = g q) : trN f b 6 = trN g b 6 := by
  refine isZ_c ⟨fun ⟨j, a, c, d⟩ => ⟨j, a, c, ?_⟩, fun ⟨j, a, c, d⟩ => ⟨j, a, c, ?_⟩⟩
  · rw [← h j a (by omega)]; exact d
  · rw [h j a (by omega)]; exact d
def adZ (f : Int → Int) (i v : Int) : Int → Int := upZ f i (f i + v)
/-- the strain of the panels below j, behind a trip -/
def snZ (st fa bo : Int → Int) (j : Int) : Int → Int := fun k => if (0 ≤ k ∧ k < j) ∧ bo k < fa k then st k + 1 else st k
theorem snZ_0 {st fa bo : Int → Int} : snZ st fa bo 0 = st := by funext k; unfold snZ; exact if_neg (by omega)
theorem snZ_y {st fa bo : Int → Int} {k : Int} (hk : 0 ≤ k) (h : bo k < fa k) : upZ (snZ st fa bo k) k (snZ st fa bo k k + 1) = snZ st fa bo (k + 1) := by
  funext i
  by_cases e : i = k
  · subst e; rw [upZ_s rfl]; unfold snZ; rw [if_neg (by omega), if_pos (by omega)]
  · rw [upZ_n e]; unfold snZ; by_cases q : (0 ≤ i ∧ i < k) ∧ bo i < fa i
    · rw [if_pos q, if_pos (by omega)]
    · rw [if_neg q, if_neg (by omega)]
theorem snZ_n {st fa bo : Int → Int} {k : Int} (hk : 0 ≤ k) (h : ¬ bo k < fa k) : upZ (snZ st fa bo k) k (snZ st fa bo k k + 0) = snZ st fa bo (k + 1) := by
  funext i
  by_cases e : i = k
  · subst e; rw [upZ_s rfl]; unfold snZ; rw [if_neg (by omega), if_neg (by omega)]; omega
  · rw [upZ_n e]; unfold snZ; by_cases q : (0 ≤ i ∧ i < k) ∧ bo i < fa i
    · rw [if_pos q, if_pos (by omega)]
    · rw [if_neg q, if_neg (by omega)]
theorem snZ_cong {st f g bo : Int → Int} (h : ∀ q : Int, 0 ≤ q → q ≤ 5 → f q = g q) : snZ st f bo 6 = snZ st g bo 6 := by
  funext i
  unfold snZ
  by_cases q : 0 ≤ i ∧ i < 6
  · rw [h i q.1 (by omega)]
  · rw [if_neg (fun z => q z.1), if_neg (fun z => q z.1)]
/-- the aims of the mirrors below j, behind a trip -/
def stZ (aim brk : Int → Int) (j : Int) : Int → Int := fun k => if (0 ≤ k ∧ k < j) ∧ ¬ brk k = 1 then -1 else aim k
theorem stZ_0 {aim brk : Int → Int} : stZ aim brk 0 = aim := by funext k; unfold stZ; exact if_neg (by omega)
theorem stZ_n {aim brk : Int → Int} {k : Int} (hk : 0 ≤ k) (h : ¬ brk k = 1) : upZ (stZ aim brk k) k (-1) = stZ aim brk (k + 1) := by
  funext i
  by_cases e : i = k
  · subst e; rw [upZ_s rfl]; unfold stZ; rw [if_pos (by omega)]
  · rw [upZ_n e]; unfold stZ; by_cases q : (0 ≤ i ∧ i < k) ∧ ¬ brk i = 1
    · rw [if_pos q, if_pos (by omega)]
    · rw [if_neg q, if_neg (by omega)]
theorem stZ_y {aim brk : Int → Int} {k : Int} (hk : 0 ≤ k) (h : brk k = 1) : upZ (stZ aim brk k) k (stZ aim brk k k) = stZ aim brk (k + 1) := by
  funext i
  by_cases e : i = k
  · subst e; rw [upZ_s rfl]; unfold stZ; rw [if_neg (by omega), if_neg (by omega)]
  · rw [upZ_n e]; unfold stZ; by_cases q : (0 ≤ i ∧ i < k) ∧ ¬ brk i = 1
    · rw [if_pos q, if_pos (by omega)]
    · rw [if_neg q, if_neg (by omega)]
theorem stZ_rng {aim brk : Int → Int} {j : Int} (h : ∀ k : Int, -1 ≤ aim k ∧ aim k ≤ 5) : ∀ k : Int, -1 ≤ stZ aim brk j k ∧ stZ aim brk j k ≤ 5 := fun k => by
  have := h k
  unfold stZ
  split <;> omega
/-- a row of clouds drifts -/
def drZ (a d : Int → Int) (j : Int) : Int → Int := fun i => if 0 ≤ i ∧ i < j then a i + d i else a i
theorem drZ_0 {a d : Int → Int} : drZ a d 0 = a := by funext k; unfold drZ; exact if_neg (by omega)
theorem drZ_s {a d : Int → Int} {k : Int} (hk : 0 ≤ k) : upZ (drZ a d k) k (drZ a d k k + d k) = drZ a d (k + 1) := by
  funext i
  by_cases e : i = k
  · subst e; rw [upZ_s rfl]; unfold drZ; rw [if_neg (by omega), if_pos (by omega)]
  · rw [upZ_n e]; unfold drZ; by_cases q : 0 ≤ i ∧ i < k
    · rw [if_pos q, if_pos (by omega)]
    · rw [if_neg q, if_neg (by omega)]
/-- dirt comes to the mirrors below j -/
def diZ (a : Int → Int) (j : Int) : Int → Int := fun i => if 0 ≤ i ∧ i < j then hdZ (a i + 1) 0 9 else a i
theorem diZ_0 {a : Int → Int} : diZ a 0 = a := by funext k; unfold diZ; exact if_neg (by omega)
theorem diZ_s {a : Int → Int} {k : Int} (hk : 0 ≤ k) : upZ (diZ a k) k (hdZ (diZ a k k + 1) 0 9) = diZ a (k + 1) := by
  funext i
  by_cases e : i = k
  · subst e; rw [upZ_s rfl]; unfold diZ; rw [if_neg (by omega), if_pos (by omega)]
  · rw [upZ_n e]; unfold diZ; by_cases q : 0 ≤ i ∧ i < k
    · rw [if_pos q, if_pos (by omega)]
    · rw [if_neg q, if_neg (by omega)]
theorem diZ_rng {a : Int → Int} {j : Int} (h : ∀ k : Int, 0 ≤ a k ∧ a k ≤ 9) : ∀ k : Int, 0 ≤ diZ a j k ∧ diZ a j k ≤ 9 := fun k => by
  have := h k
  have := hdZ_rng (v := a k + 1) (a := 0) (b := 9) (by omega)
  unfold diZ
  split <;> omega
/-- salt that comes to the hot tank -/
def cmZ (pipe heat cold : Int) : Int := if ¬ pipe = 1 then 0 else if heat / 100 < cold then heat / 100 else cold
/-- the pipe -/
def dwZ (deg units : Int) : Int := if 0 < units then hdZ (deg + 5) 0 40 else deg - 2
def dgZ (deg trc units : Int) : Int := if trc = 1 ∧ dwZ deg units < 22 then 22 else dwZ deg units
def npZ (pipe deg thaw trc units : Int) : Int := if pipe = 2 then (if trc = 1 ∧ thaw + 1 = 3 then 1 else 2) else if pipe = 1 then (if dgZ deg trc units < 20 then 2 else 1) else pipe
def ndZ (pipe deg thaw trc units : Int) : Int := if pipe = 2 then (if trc = 1 ∧ thaw + 1 = 3 then 22 else deg) else if pipe = 1 then dgZ deg trc units else deg
def ntZ (pipe thaw trc : Int) : Int := if pipe = 2 then (if trc = 1 then thaw + 1 else 0) else if pipe = 1 then 0 else thaw
/-- the turbine -/
def tuZ (turb load hot : Int) : Int := if ¬ turb = 2 then 0 else if load < hot then load else hot
def nbZ (turb left : Int) : Int := if turb = 1 then (if left - 1 = 0 then 2 else 1) else turb
def nlZ (turb left : Int) : Int := if turb = 1 then left - 1 else left
/-- what is sold -/
def toZ (trc : Int) : Int := if trc = 1 then 2 else 0
def boZ (trc made : Int) : Int := if made < toZ trc then toZ trc - made else 0
def dlZ (trc made due : Int) : Int := if made - toZ trc + boZ trc made < due then made - toZ trc + boZ trc made else due
def slZ (sums : Int → Int) (takes bo rest dl due price : Int) : Int → Int := adZ (adZ (adZ (adZ (adZ (adZ sums 7 takes) 8 bo) 9 dl) 10 (due - dl)) 11 (rest - dl)) 12 ((rest - dl) * price)
theorem mul_20 {u w : Int} (hu : 0 ≤ u ∧ u ≤ 20) (hw : 0 ≤ w ∧ w ≤ 10) : 0 ≤ u * w ∧ u * w ≤ 200 := by
  have h1 : 0 ≤ u * w := Int.mul_nonneg hu.1 hw.1
  have h2 : u * w ≤ 20 * 10 := Int.mul_le_mul hu.2 hw.2 hw.1 (by omega)
  omega
/-- what stays and what changes in ticks: aims, dirt, clouds' places, strain, sums; the tick, salt, pipe, turbine, trips -/
abbrev TS : Type := (Int → Int) × (Int → Int) × (Int → Int) × (Int → Int) × (Int → Int) × (Int → Int) × Int × Int × Int × Int × Int × Int × Int × Int × Int
abbrev TC : Type := Int × Int × Int × Int × Int × (Int → Int) × (Int → Int) × (Int → Int) × (Int → Int) × (Int → Int) × (Int → Int) × (Int → Int) × (Int → Int) × (Int → Int) × (Int → Int) × (Int → Int)
def tkE (c : TC) (t : TS) (aim strain sums : Int → Int) (trips heat units u : Int) : TS :=
  match c, t with
  | (xn, xc, xh, xt, xl, xce, xer, xco, xbr, xro, xcl, xdo, xri, xbo, xpr, xfi), (ya, yd, yt, yl, ys, yu, yn, yc, yh, yp, yg, yw, yb, yf, yr) =>
    (aim, (if (yn + 1) % 24 = 0 then diZ yd xn else yd), drZ yt xdo xc, drZ yl xri xc, strain,
     slZ (adZ (adZ (adZ sums 4 (heat - 100 * units)) 5 units) 6 (u * (10 - strZ yn / 5))) (toZ xt) (boZ xt (u * (10 - strZ yn / 5))) (u * (10 - strZ yn / 5) - toZ xt + boZ xt (u * (10 - strZ yn / 5))) (dlZ xt (u * (10 - strZ yn / 5)) (xfi (yn % 24))) (xfi (yn % 24)) (xpr (yn % 24)),
     yn + 1, yc - units + u, yh + units - u, npZ yp yg yw xt units, ndZ yp yg yw xt units, ntZ yp yw xt, nbZ yb yf, nlZ yb yf, trips)
def tkD (c : TC) (t : TS) (aim strain sums : Int → Int) (trips heat : Int) : TS :=
  match c, t with
  | (xn, xc, xh, xt, xl, xce, xer, xco, xbr, xro, xcl, xdo, xri, xbo, xpr, xfi), (ya, yd, yt, yl, ys, yu, yn, yc, yh, yp, yg, yw, yb, yf, yr) =>
    tkE c t aim strain sums trips heat (cmZ yp heat yc) (tuZ yb xl (yh + cmZ yp heat yc))
noncomputable def tkC (c : TC) (t : TS) (fx : Int → Int) (al ms tr : Int) : TS :=
  match c, t with
  | (xn, xc, xh, xt, xl, xce, xer, xco, xbr, xro, xcl, xdo, xri, xbo, xpr, xfi), (ya, yd, yt, yl, ys, yu, yn, yc, yh, yp, yg, yw, yb, yf, yr) =>
    tkD c t (if tr = 1 then stZ ya xbr xn else ya) (if tr = 1 then snZ ys fx xbo 6 else ys) (if tr = 1 then adZ (adZ (adZ yu 0 (al + ms)) 1 ms) 2 al else adZ (adZ (adZ yu 0 (al + ms)) 1 ms) 3 al) (if tr = 1 then yr + 1 else yr) (if tr = 1 then 0 else al)
noncomputable def tkF (c : TC) (t : TS) : TS :=
  match c, t with
  | (xn, xc, xh, xt, xl, xce, xer, xco, xbr, xro, xcl, xdo, xri, xbo, xpr, xfi), (ya, yd, yt, yl, ys, yu, yn, yc, yh, yp, yg, yw, yb, yf, yr) =>
    tkC c t (flZ xn ya xer xco (ryZ xn xc yn xh xce yd yt yl xro xcl xdo xri) (-1) 0) (alZ (flZ xn ya xer xco (ryZ xn xc yn xh xce yd yt yl xro xcl xdo xri) (-1) 0)) (msZ xn ya xer xco (ryZ xn xc yn xh xce yd yt yl xro xcl xdo xri) (-1) 0) (trN (flZ xn ya xer xco (ryZ xn xc yn xh xce yd yt yl xro xcl xdo xri) (-1) 0) xbo 6)
noncomputable def itF (c : TC) : Nat → TS → TS
  | 0, t => t
  | n + 1, t => tkF c (itF c n t)
noncomputable def sfZ (n : Int) (aim err cor rays bound : Int → Int) : Int := isZ (trN (flZ n aim err cor rays (-1) 0) bound 6 = 0 ∧ ∀ k : Int, 0 ≤ k → k < n → trN (flZ n aim err cor rays k (-1)) bound 6 = 0 ∧ trN (flZ n aim err cor rays k 1) bound 6 = 0)

theorem itF_s {c : TC} {t : TS} {k : Int} (h : 0 ≤ k) : itF c (k + 1).toNat t = tkF c (itF c k.toNat t) := by
  rw [tN_s h]
  rfl
noncomputable def sfN (n : Int) (aim err cor rays bound : Int → Int) (k : Int) : Int := isZ (trN (flZ n aim err cor rays (-1) 0) bound 6 = 0 ∧ ∀ j : Int, 0 ≤ j → j < k → trN (flZ n aim err cor rays j (-1)) bound 6 = 0 ∧ trN (flZ n aim err cor rays j 1) bound 6 = 0)
theorem sfN_0 {n : Int} {aim err cor rays bound : Int → Int} {v : Int} (h : (trN (flZ n aim err cor rays (-1) 0) bound 6 = 0 ∧ v = 1) ∨ (¬ trN (flZ n aim err cor rays (-1) 0) bound 6 = 0 ∧ v = 0)) : v = sfN n aim err cor rays bound 0 := by
  rcases h with ⟨h1, h2⟩ | ⟨h1, h2⟩
  · rw [h2]; exact (isZ_1 ⟨h1, fun j a b => by omega⟩).symm
  · rw [h2]; exact (isZ_0 (fun q => h1 q.1)).symm
theorem sfN_s {n : Int} {aim err cor rays bound : Int → Int} {v w k : Int} (hk : 0 ≤ k) (hv : v = sfN n aim err cor rays bound k) (hv1 : v = 1) (h : (trN (flZ n aim err cor rays k (-1)) bound 6 = 0 ∧ trN (flZ n aim err cor rays k 1) bound 6 = 0 ∧ w = 1) ∨ ((¬ trN (flZ n aim err cor rays k (-1)) bound 6 = 0 ∨ ¬ trN (flZ n aim err cor rays k 1) bound 6 = 0) ∧ w = 0)) : w = sfN n aim err cor rays bound (k + 1) := by
  have h0 := isZ_y (hv.symm.trans hv1)
  rcases h with ⟨h1, h2, h3⟩ | ⟨h1, h2⟩
  · rw [h3]
    refine (isZ_1 ⟨h0.1, fun j a b => ?_⟩).symm
    by_cases e : j = k
    · rw [e]; exact ⟨h1, h2⟩
    · exact h0.2 j a (by omega)
  · rw [h2]
    refine (isZ_0 (fun q => ?_)).symm
    have q1 := q.2 k hk (by omega)
    rcases h1 with h1 | h1
    · exact h1 q1.1
    · exact h1 q1.2
theorem sfN_e {n : Int} {aim err cor rays rays2 bound : Int → Int} {v k : Int} (hv : v = sfN n aim err cor rays bound k) (hk : 0 ≤ k ∧ k ≤ n) (h : k = n ∨ v = 0) (hr : ∀ j : Int, 0 ≤ j → j < n → rays j = rays2 j) : v = sfZ n aim err cor rays2 bound := by
  have e : sfZ n aim err cor rays2 bound = sfN n aim err cor rays bound n := by
    have q : ∀ o b : Int, trN (flZ n aim err cor rays2 o b) bound 6 = trN (flZ n aim err cor rays o b) bound 6 := fun o b => trN_cong (fun q _ _ => (flZ_cong hr).symm)
    refine isZ_c ⟨fun z => ⟨by rw [← q]; exact z.1, fun j a b => by rw [← q, ← q]; exact z.2 j a b⟩, fun z => ⟨by rw [q]; exact z.1, fun j a b => by rw [q, q]; exact z.2 j a b⟩⟩
  rw [e]
  rcases h with h | h
  · rw [hv, h]
  · rw [h]
    have h1 := isZ_n (hv.symm.trans h)
    exact (isZ_0 (fun z => h1 ⟨z.1, fun j a b => z.2 j a (by omega)⟩)).symm
