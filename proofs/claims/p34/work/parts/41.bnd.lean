set_option maxHeartbeats 4000000 in
theorem b_mirrorIs (l : Launch) (hlt : l.stackTraces = false) (G : va_G) (ah : Nat → Nat) (zE : Nat) (y : Nat → ClassId) (sz : Nat) (S : ST) (its : Int) (what : Int) (hI : FC zE S) (hk : 0 ≤ its ∧ its < S.2.1 0) (hw : 0 ≤ what ∧ what ≤ 7) : Met l yX7_mirrorIs wsX7_mirrorIs ({ frames := 7, cells := 2, slots := 12, locals := 116 }) (va_Pc [.ref (ah 0), zi its, zi what] (HPreG zE G (tyL y) (wH ah y S) sz)) (QXi G (fun (u : Unit) => (if what = 0 then (S.2.2 0) its else if what = 1 then (S.2.2 1) its else if what = 2 then (S.2.2 2) its else if what = 3 then (S.2.2 4) its else if what = 4 then (S.2.2 5) its else if what = 5 then cvZ (S.2.1 1) (S.2.2 6) (S.2.2 7) (S.2.2 8) (S.2.2 9) (S.2.2 10) (S.2.2 11) ((S.2.2 0) its) 0 else if what = 6 then shZ (S.2.1 0) (S.2.2 0) ((S.2.2 0) its) (S.2.1 2) else dstZ ((S.2.2 0) its))) (fun (u : Unit) => True) (fun (u : Unit) => wH ah y (S)) (va_A (wH ah y S) sz)) 2 12 (va_A (wH ah y S) sz) := by
  have qN := hI.N
  have qC := hI.C
  have qNow := hI.Now
  exact met_of (c_X7_mirrorIs l hlt G ah S.1 zE y sz (S.2.1 0) (S.2.1 1) (S.2.1 2) (S.2.1 3) (S.2.1 4) (S.2.1 5) (S.2.1 6) (S.2.1 7) (S.2.1 8) (S.2.1 9) (S.2.1 10) (S.2.1 11) (S.2.1 12) (S.2.1 13) (S.2.1 14) (S.2.1 15) (S.2.1 16) (S.2.1 17) (S.2.1 18) (S.2.2 0) (S.2.2 1) (S.2.2 2) (S.2.2 3) (S.2.2 4) (S.2.2 5) (S.2.2 6) (S.2.2 7) (S.2.2 8) (S.2.2 9) (S.2.2 10) (S.2.2 11) (S.2.2 12) (S.2.2 13) (S.2.2 14) (S.2.2 15) (S.2.2 16) (S.2.2 17) (S.2.2 18) (S.2.2 19) (S.2.2 20) (S.2.2 21) (S.2.2 22) (S.2.2 23) its what  hI.Z hI.Tk hI.N hI.C hI.Now hI.Cell hI.Top hI.Lm hI.Rows hI.Cols hI.Down hI.Right hI.Brk (by omega) (by omega)) (fun E st t q => by
    obtain ⟨u, -, ⟨q, -⟩, -⟩ := q
    rcases q with ⟨_, q⟩ | ⟨_, q⟩ <;> (first | omega | (split at q <;> omega) | (simp only [] at q; omega))) (fun _ _ _ _ _ q => by
    obtain ⟨⟨r, u, e1, ⟨e2, -⟩, hP⟩, hF⟩ := q
    exact ⟨⟨r, u, e1, ⟨e2, trivial⟩, hP⟩, hF⟩)
set_option maxHeartbeats 4000000 in
theorem b_power (l : Launch) (hlt : l.stackTraces = false) (G : va_G) (ah : Nat → Nat) (zE : Nat) (y : Nat → ClassId) (sz : Nat) (S : ST) (its : Int) (ticks : Int) (hI : FC zE S) (hk : 0 ≤ its ∧ its < S.2.1 0) (ht : 0 ≤ ticks ∧ ticks ≤ 24) : Met l yX7_power wsX7_power ({ frames := 7, cells := 2, slots := 12, locals := 117 }) (va_Pc [.ref (ah 0), zi its, zi ticks] (HPreG zE G (tyL y) (wH ah y S) sz)) (QXi G (fun (u : Unit) => pwS S its ticks) (fun (u : Unit) => True) (fun (u : Unit) => wH ah y (S)) (va_A (wH ah y S) sz)) 2 12 (va_A (wH ah y S) sz) := by
  have qN := hI.N
  have qC := hI.C
  have qNow := hI.Now
  exact met_of (c_X7_power l hlt G ah S.1 zE y sz (S.2.1 0) (S.2.1 1) (S.2.1 2) (S.2.1 3) (S.2.1 4) (S.2.1 5) (S.2.1 6) (S.2.1 7) (S.2.1 8) (S.2.1 9) (S.2.1 10) (S.2.1 11) (S.2.1 12) (S.2.1 13) (S.2.1 14) (S.2.1 15) (S.2.1 16) (S.2.1 17) (S.2.1 18) (S.2.2 0) (S.2.2 1) (S.2.2 2) (S.2.2 3) (S.2.2 4) (S.2.2 5) (S.2.2 6) (S.2.2 7) (S.2.2 8) (S.2.2 9) (S.2.2 10) (S.2.2 11) (S.2.2 12) (S.2.2 13) (S.2.2 14) (S.2.2 15) (S.2.2 16) (S.2.2 17) (S.2.2 18) (S.2.2 19) (S.2.2 20) (S.2.2 21) (S.2.2 22) (S.2.2 23) its ticks  hI.Z hI.Tk hI.N hI.C hI.Now hI.Haze hI.Cell hI.Dirt hI.Top hI.Lm hI.Rows hI.Cols hI.Down hI.Right (by omega) (by omega)) (fun E st t q => by
    obtain ⟨u, -, ⟨q, -⟩, -⟩ := q
    rcases q with ⟨_, q⟩ | ⟨_, q⟩ <;> (first | omega | (split at q <;> omega) | (simp only [] at q; omega))) (fun _ _ _ _ _ q => by
    obtain ⟨⟨r, u, e1, ⟨e2, -⟩, hP⟩, hF⟩ := q
    exact ⟨⟨r, u, e1, ⟨e2, trivial⟩, hP⟩, hF⟩)
set_option maxHeartbeats 4000000 in
theorem b_drift (l : Launch) (hlt : l.stackTraces = false) (G : va_G) (ah : Nat → Nat) (zE : Nat) (y : Nat → ClassId) (sz : Nat) (S : ST) (its : Int) (by1 : Int) (hI : FC zE S) (hk : 0 ≤ its ∧ its < S.2.1 0) (hb : -6 ≤ by1 ∧ by1 ≤ 6) : Met l yX7_drift wsX7_drift ({ frames := 7, cells := 2, slots := 12, locals := 117 }) (va_Pc [.ref (ah 0), zi its, zi by1] (HPreG zE G (tyL y) (wH ah y S) sz)) (QXv G (fun (u : Unit) => True) (fun (u : Unit) => wH ah y (sA S 3 (upZ (S.2.2 3) its (hdZ ((S.2.2 3 its) + by1) (-3) 3)))) (va_A (wH ah y S) sz)) 2 12 (va_A (wH ah y S) sz) := by
  have qN := hI.N
  have qC := hI.C
  have qNow := hI.Now
  exact met_of (c_X7_drift l hlt G ah S.1 zE y sz (S.2.1 0) (S.2.1 1) (S.2.1 2) (S.2.1 3) (S.2.1 4) (S.2.1 5) (S.2.1 6) (S.2.1 7) (S.2.1 8) (S.2.1 9) (S.2.1 10) (S.2.1 11) (S.2.1 12) (S.2.1 13) (S.2.1 14) (S.2.1 15) (S.2.1 16) (S.2.1 17) (S.2.1 18) (S.2.2 0) (S.2.2 1) (S.2.2 2) (S.2.2 3) (S.2.2 4) (S.2.2 5) (S.2.2 6) (S.2.2 7) (S.2.2 8) (S.2.2 9) (S.2.2 10) (S.2.2 11) (S.2.2 12) (S.2.2 13) (S.2.2 14) (S.2.2 15) (S.2.2 16) (S.2.2 17) (S.2.2 18) (S.2.2 19) (S.2.2 20) (S.2.2 21) (S.2.2 22) (S.2.2 23) its by1  hI.Z hI.N hI.Err (by omega) (by omega)) (fun E st t q => by
    obtain ⟨u, -, ⟨q, -⟩, -⟩ := q
    rcases q with ⟨_, q⟩ | ⟨_, q⟩ <;> (first | omega | (split at q <;> omega) | (simp only [] at q; omega))) (fun _ _ _ _ _ q => by
    obtain ⟨⟨u, e1, -, hP⟩, hF⟩ := q
    exact ⟨⟨u, e1, trivial, hP⟩, hF⟩)
set_option maxHeartbeats 4000000 in
theorem b_correct (l : Launch) (hlt : l.stackTraces = false) (G : va_G) (ah : Nat → Nat) (zE : Nat) (y : Nat → ClassId) (sz : Nat) (S : ST) (its : Int) (by1 : Int) (hI : FC zE S) (hk : 0 ≤ its ∧ its < S.2.1 0) (hb : -3 ≤ by1 ∧ by1 ≤ 3) : Met l yX7_correct wsX7_correct ({ frames := 7, cells := 2, slots := 12, locals := 117 }) (va_Pc [.ref (ah 0), zi its, zi by1] (HPreG zE G (tyL y) (wH ah y S) sz)) (QXi G (fun (u : Unit) => (S.2.2 4) its) (fun (u : Unit) => True) (fun (u : Unit) => wH ah y (sA S 4 (upZ (S.2.2 4) its by1))) (va_A (wH ah y S) sz)) 2 12 (va_A (wH ah y S) sz) := by
  have qN := hI.N
  have qC := hI.C
  have qNow := hI.Now
  exact met_of (c_X7_correct l hlt G ah S.1 zE y sz (S.2.1 0) (S.2.1 1) (S.2.1 2) (S.2.1 3) (S.2.1 4) (S.2.1 5) (S.2.1 6) (S.2.1 7) (S.2.1 8) (S.2.1 9) (S.2.1 10) (S.2.1 11) (S.2.1 12) (S.2.1 13) (S.2.1 14) (S.2.1 15) (S.2.1 16) (S.2.1 17) (S.2.1 18) (S.2.2 0) (S.2.2 1) (S.2.2 2) (S.2.2 3) (S.2.2 4) (S.2.2 5) (S.2.2 6) (S.2.2 7) (S.2.2 8) (S.2.2 9) (S.2.2 10) (S.2.2 11) (S.2.2 12) (S.2.2 13) (S.2.2 14) (S.2.2 15) (S.2.2 16) (S.2.2 17) (S.2.2 18) (S.2.2 19) (S.2.2 20) (S.2.2 21) (S.2.2 22) (S.2.2 23) its by1  hI.Z hI.N (by omega) (by omega)) (fun E st t q => by
    obtain ⟨u, -, ⟨q, -⟩, -⟩ := q
    rcases q with ⟨_, q⟩ | ⟨_, q⟩ <;> (first | omega | (split at q <;> omega) | (simp only [] at q; omega))) (fun _ _ _ _ _ q => by
    obtain ⟨⟨r, u, e1, ⟨e2, -⟩, hP⟩, hF⟩ := q
    exact ⟨⟨r, u, e1, ⟨e2, trivial⟩, hP⟩, hF⟩)
set_option maxHeartbeats 4000000 in
theorem b_aim (l : Launch) (hlt : l.stackTraces = false) (G : va_G) (ah : Nat → Nat) (zE : Nat) (y : Nat → ClassId) (sz : Nat) (S : ST) (its : Int) (at1 : Int) (hI : FC zE S) (hk : 0 ≤ its ∧ its < S.2.1 0) (ha : -1 ≤ at1 ∧ at1 ≤ 5) (hbr : ¬ S.2.2 5 its = 1) : Met l yX7_aim wsX7_aim ({ frames := 7, cells := 3, slots := 18, locals := 117 }) (va_Pc [.ref (ah 0), zi its, zi at1] (HPreG zE G (tyL y) (wH ah y S) sz)) (QXi G (fun (u : Unit) => (S.2.2 2) its) (fun (u : Unit) => True) (fun (u : Unit) => wH ah y (sA S 2 (upZ (S.2.2 2) its at1))) (va_A (wH ah y S) sz)) 3 18 (va_A (wH ah y S) sz) := by
  have qN := hI.N
  have qC := hI.C
  have qNow := hI.Now
  exact met_of (c_X7_aim l hlt G ah S.1 zE y sz (S.2.1 0) (S.2.1 1) (S.2.1 2) (S.2.1 3) (S.2.1 4) (S.2.1 5) (S.2.1 6) (S.2.1 7) (S.2.1 8) (S.2.1 9) (S.2.1 10) (S.2.1 11) (S.2.1 12) (S.2.1 13) (S.2.1 14) (S.2.1 15) (S.2.1 16) (S.2.1 17) (S.2.1 18) (S.2.2 0) (S.2.2 1) (S.2.2 2) (S.2.2 3) (S.2.2 4) (S.2.2 5) (S.2.2 6) (S.2.2 7) (S.2.2 8) (S.2.2 9) (S.2.2 10) (S.2.2 11) (S.2.2 12) (S.2.2 13) (S.2.2 14) (S.2.2 15) (S.2.2 16) (S.2.2 17) (S.2.2 18) (S.2.2 19) (S.2.2 20) (S.2.2 21) (S.2.2 22) (S.2.2 23) its at1  hI.Z hI.N hI.Brk (by omega) (by omega)) (fun E st t q => by
    obtain ⟨u, -, ⟨q, -⟩, -⟩ := q
    rcases q with ⟨_, q⟩ | ⟨_, q⟩ | ⟨_, q⟩ <;> (first | omega | (split at q <;> omega) | (simp only [] at q; omega))) (fun _ _ _ _ _ q => by
    obtain ⟨⟨r, u, e1, ⟨e2, -⟩, hP⟩, hF⟩ := q
    exact ⟨⟨r, u, e1, ⟨e2, trivial⟩, hP⟩, hF⟩)
set_option maxHeartbeats 4000000 in
theorem b_fail (l : Launch) (hlt : l.stackTraces = false) (G : va_G) (ah : Nat → Nat) (zE : Nat) (y : Nat → ClassId) (sz : Nat) (S : ST) (its : Int) (is1 : Int) (hI : FC zE S) (hk : 0 ≤ its ∧ its < S.2.1 0) (hb : is1 = 0 ∨ is1 = 1) : Met l yX7_fail wsX7_fail ({ frames := 7, cells := 1, slots := 6, locals := 116 }) (va_Pc [.ref (ah 0), zi its, zi is1] (HPreG zE G (tyL y) (wH ah y S) sz)) (QXi G (fun (u : Unit) => (S.2.2 5) its) (fun (u : Unit) => True) (fun (u : Unit) => wH ah y (sA S 5 (upZ (S.2.2 5) its is1))) (va_A (wH ah y S) sz)) 1 6 (va_A (wH ah y S) sz) := by
  have qN := hI.N
  have qC := hI.C
  have qNow := hI.Now
  exact met_of (c_X7_fail l hlt G ah S.1 zE y sz (S.2.1 0) (S.2.1 1) (S.2.1 2) (S.2.1 3) (S.2.1 4) (S.2.1 5) (S.2.1 6) (S.2.1 7) (S.2.1 8) (S.2.1 9) (S.2.1 10) (S.2.1 11) (S.2.1 12) (S.2.1 13) (S.2.1 14) (S.2.1 15) (S.2.1 16) (S.2.1 17) (S.2.1 18) (S.2.2 0) (S.2.2 1) (S.2.2 2) (S.2.2 3) (S.2.2 4) (S.2.2 5) (S.2.2 6) (S.2.2 7) (S.2.2 8) (S.2.2 9) (S.2.2 10) (S.2.2 11) (S.2.2 12) (S.2.2 13) (S.2.2 14) (S.2.2 15) (S.2.2 16) (S.2.2 17) (S.2.2 18) (S.2.2 19) (S.2.2 20) (S.2.2 21) (S.2.2 22) (S.2.2 23) its is1  hI.Z hI.N hI.Brk (by omega) (by omega)) (fun E st t q => by
    obtain ⟨u, -, ⟨q, -⟩, -⟩ := q
    rcases q with ⟨_, q⟩ <;> (first | omega | (split at q <;> omega) | (simp only [] at q; omega))) (fun _ _ _ _ _ q => by
    obtain ⟨⟨r, u, e1, ⟨e2, -⟩, hP⟩, hF⟩ := q
    exact ⟨⟨r, u, e1, ⟨e2, trivial⟩, hP⟩, hF⟩)
set_option maxHeartbeats 4000000 in
theorem b_haze (l : Launch) (hlt : l.stackTraces = false) (G : va_G) (ah : Nat → Nat) (zE : Nat) (y : Nat → ClassId) (sz : Nat) (S : ST) (its : Int) (hI : FC zE S) (hh : 0 ≤ its ∧ its ≤ 9) : Met l yX7_haze wsX7_haze ({ frames := 7, cells := 1, slots := 6, locals := 117 }) (va_Pc [.ref (ah 0), zi its] (HPreG zE G (tyL y) (wH ah y S) sz)) (QXi G (fun (u : Unit) => (S.2.1 3)) (fun (u : Unit) => True) (fun (u : Unit) => wH ah y (sI S 3 its)) (va_A (wH ah y S) sz)) 1 6 (va_A (wH ah y S) sz) := by
  have qN := hI.N
  have qC := hI.C
  have qNow := hI.Now
  exact met_of (c_X7_haze l hlt G ah S.1 zE y sz (S.2.1 0) (S.2.1 1) (S.2.1 2) (S.2.1 3) (S.2.1 4) (S.2.1 5) (S.2.1 6) (S.2.1 7) (S.2.1 8) (S.2.1 9) (S.2.1 10) (S.2.1 11) (S.2.1 12) (S.2.1 13) (S.2.1 14) (S.2.1 15) (S.2.1 16) (S.2.1 17) (S.2.1 18) (S.2.2 0) (S.2.2 1) (S.2.2 2) (S.2.2 3) (S.2.2 4) (S.2.2 5) (S.2.2 6) (S.2.2 7) (S.2.2 8) (S.2.2 9) (S.2.2 10) (S.2.2 11) (S.2.2 12) (S.2.2 13) (S.2.2 14) (S.2.2 15) (S.2.2 16) (S.2.2 17) (S.2.2 18) (S.2.2 19) (S.2.2 20) (S.2.2 21) (S.2.2 22) (S.2.2 23) its  (by omega)) (fun E st t q => by
    obtain ⟨u, -, ⟨q, -⟩, -⟩ := q
    rcases q with ⟨_, q⟩ <;> (first | omega | (split at q <;> omega) | (simp only [] at q; omega))) (fun _ _ _ _ _ q => by
    obtain ⟨⟨r, u, e1, ⟨e2, -⟩, hP⟩, hF⟩ := q
    exact ⟨⟨r, u, e1, ⟨e2, trivial⟩, hP⟩, hF⟩)
set_option maxHeartbeats 4000000 in
theorem b_bound (l : Launch) (hlt : l.stackTraces = false) (G : va_G) (ah : Nat → Nat) (zE : Nat) (y : Nat → ClassId) (sz : Nat) (S : ST) (panel : Int) (its : Int) (hI : FC zE S) (hp : 0 ≤ panel ∧ panel ≤ 5) (hb : 0 ≤ its ∧ its ≤ 9999) : Met l yX7_bound wsX7_bound ({ frames := 7, cells := 2, slots := 12, locals := 117 }) (va_Pc [.ref (ah 0), zi panel, zi its] (HPreG zE G (tyL y) (wH ah y S) sz)) (QXi G (fun (u : Unit) => (S.2.2 12) panel) (fun (u : Unit) => True) (fun (u : Unit) => wH ah y (sA S 12 (upZ (S.2.2 12) panel its))) (va_A (wH ah y S) sz)) 2 12 (va_A (wH ah y S) sz) := by
  have qN := hI.N
  have qC := hI.C
  have qNow := hI.Now
  exact met_of (c_X7_bound l hlt G ah S.1 zE y sz (S.2.1 0) (S.2.1 1) (S.2.1 2) (S.2.1 3) (S.2.1 4) (S.2.1 5) (S.2.1 6) (S.2.1 7) (S.2.1 8) (S.2.1 9) (S.2.1 10) (S.2.1 11) (S.2.1 12) (S.2.1 13) (S.2.1 14) (S.2.1 15) (S.2.1 16) (S.2.1 17) (S.2.1 18) (S.2.2 0) (S.2.2 1) (S.2.2 2) (S.2.2 3) (S.2.2 4) (S.2.2 5) (S.2.2 6) (S.2.2 7) (S.2.2 8) (S.2.2 9) (S.2.2 10) (S.2.2 11) (S.2.2 12) (S.2.2 13) (S.2.2 14) (S.2.2 15) (S.2.2 16) (S.2.2 17) (S.2.2 18) (S.2.2 19) (S.2.2 20) (S.2.2 21) (S.2.2 22) (S.2.2 23) panel its  (by omega) (by omega)) (fun E st t q => by
    obtain ⟨u, -, ⟨q, -⟩, -⟩ := q
    rcases q with ⟨_, q⟩ | ⟨_, q⟩ <;> (first | omega | (split at q <;> omega) | (simp only [] at q; omega))) (fun _ _ _ _ _ q => by
    obtain ⟨⟨r, u, e1, ⟨e2, -⟩, hP⟩, hF⟩ := q
    exact ⟨⟨r, u, e1, ⟨e2, trivial⟩, hP⟩, hF⟩)
set_option maxHeartbeats 4000000 in
theorem b_strain (l : Launch) (hlt : l.stackTraces = false) (G : va_G) (ah : Nat → Nat) (zE : Nat) (y : Nat → ClassId) (sz : Nat) (S : ST) (panel : Int) (hI : FC zE S) (hp : 0 ≤ panel ∧ panel ≤ 5) : Met l yX7_strain wsX7_strain ({ frames := 7, cells := 1, slots := 6, locals := 115 }) (va_Pc [.ref (ah 0), zi panel] (HPreG zE G (tyL y) (wH ah y S) sz)) (QXi G (fun (u : Unit) => (S.2.2 13) panel) (fun (u : Unit) => True) (fun (u : Unit) => wH ah y (S)) (va_A (wH ah y S) sz)) 1 6 (va_A (wH ah y S) sz) := by
  have qN := hI.N
  have qC := hI.C
  have qNow := hI.Now
  exact met_of (c_X7_strain l hlt G ah S.1 zE y sz (S.2.1 0) (S.2.1 1) (S.2.1 2) (S.2.1 3) (S.2.1 4) (S.2.1 5) (S.2.1 6) (S.2.1 7) (S.2.1 8) (S.2.1 9) (S.2.1 10) (S.2.1 11) (S.2.1 12) (S.2.1 13) (S.2.1 14) (S.2.1 15) (S.2.1 16) (S.2.1 17) (S.2.1 18) (S.2.2 0) (S.2.2 1) (S.2.2 2) (S.2.2 3) (S.2.2 4) (S.2.2 5) (S.2.2 6) (S.2.2 7) (S.2.2 8) (S.2.2 9) (S.2.2 10) (S.2.2 11) (S.2.2 12) (S.2.2 13) (S.2.2 14) (S.2.2 15) (S.2.2 16) (S.2.2 17) (S.2.2 18) (S.2.2 19) (S.2.2 20) (S.2.2 21) (S.2.2 22) (S.2.2 23) panel  (by omega)) (fun E st t q => by
    obtain ⟨u, -, ⟨q, -⟩, -⟩ := q
    rcases q with ⟨_, q⟩ <;> (first | omega | (split at q <;> omega) | (simp only [] at q; omega))) (fun _ _ _ _ _ q => by
    obtain ⟨⟨r, u, e1, ⟨e2, -⟩, hP⟩, hF⟩ := q
    exact ⟨⟨r, u, e1, ⟨e2, trivial⟩, hP⟩, hF⟩)
set_option maxHeartbeats 4000000 in
theorem b_trace (l : Launch) (G : va_G) (ah : Nat → Nat) (zE : Nat) (y : Nat → ClassId) (sz : Nat) (S : ST) (is1 : Int) (hI : FC zE S) (hb : is1 = 0 ∨ is1 = 1) : Met l yX7_trace wsX7_trace ({ frames := 0, cells := 0, slots := 0, locals := 0 }) (va_Pc [.ref (ah 0), zi is1] (HPreG zE G (tyL y) (wH ah y S) sz)) (QXi G (fun (u : Unit) => (S.2.1 9)) (fun (u : Unit) => True) (fun (u : Unit) => wH ah y (sI S 9 is1)) (va_A (wH ah y S) sz)) 0 0 (va_A (wH ah y S) sz) := by
  have qN := hI.N
  have qC := hI.C
  have qNow := hI.Now
  exact met_mo (c_X7_trace l G ah S.1 zE y sz (S.2.1 0) (S.2.1 1) (S.2.1 2) (S.2.1 3) (S.2.1 4) (S.2.1 5) (S.2.1 6) (S.2.1 7) (S.2.1 8) (S.2.1 9) (S.2.1 10) (S.2.1 11) (S.2.1 12) (S.2.1 13) (S.2.1 14) (S.2.1 15) (S.2.1 16) (S.2.1 17) (S.2.1 18) (S.2.2 0) (S.2.2 1) (S.2.2 2) (S.2.2 3) (S.2.2 4) (S.2.2 5) (S.2.2 6) (S.2.2 7) (S.2.2 8) (S.2.2 9) (S.2.2 10) (S.2.2 11) (S.2.2 12) (S.2.2 13) (S.2.2 14) (S.2.2 15) (S.2.2 16) (S.2.2 17) (S.2.2 18) (S.2.2 19) (S.2.2 20) (S.2.2 21) (S.2.2 22) (S.2.2 23) is1  hI.Trc (by omega)) (fun _ _ _ _ _ q => by
    obtain ⟨⟨r, u, e1, ⟨e2, -⟩, hP⟩, hF⟩ := q
    exact ⟨⟨r, u, e1, ⟨e2, trivial⟩, hP⟩, hF⟩)
set_option maxHeartbeats 4000000 in
theorem b_load (l : Launch) (hlt : l.stackTraces = false) (G : va_G) (ah : Nat → Nat) (zE : Nat) (y : Nat → ClassId) (sz : Nat) (S : ST) (its : Int) (hI : FC zE S) (hl : 1 ≤ its ∧ its ≤ 20) : Met l yX7_load wsX7_load ({ frames := 7, cells := 1, slots := 6, locals := 117 }) (va_Pc [.ref (ah 0), zi its] (HPreG zE G (tyL y) (wH ah y S) sz)) (QXi G (fun (u : Int × Int) => (S.2.1 12)) (fun (u : Int × Int) => u.2 = (if S.2.1 10 = 0 then 1 else S.2.1 10) ∧ u.1 = (if S.2.1 10 = 0 then 2 else S.2.1 11)) (fun (u : Int × Int) => wH ah y (sI (sI (sI S 12 its) 11 u.1) 10 u.2)) (va_A (wH ah y S) sz)) 1 6 (va_A (wH ah y S) sz) := by
  have qN := hI.N
  have qC := hI.C
  have qNow := hI.Now
  exact met_of (c_X7_load l hlt G ah S.1 zE y sz (S.2.1 0) (S.2.1 1) (S.2.1 2) (S.2.1 3) (S.2.1 4) (S.2.1 5) (S.2.1 6) (S.2.1 7) (S.2.1 8) (S.2.1 9) (S.2.1 10) (S.2.1 11) (S.2.1 12) (S.2.1 13) (S.2.1 14) (S.2.1 15) (S.2.1 16) (S.2.1 17) (S.2.1 18) (S.2.2 0) (S.2.2 1) (S.2.2 2) (S.2.2 3) (S.2.2 4) (S.2.2 5) (S.2.2 6) (S.2.2 7) (S.2.2 8) (S.2.2 9) (S.2.2 10) (S.2.2 11) (S.2.2 12) (S.2.2 13) (S.2.2 14) (S.2.2 15) (S.2.2 16) (S.2.2 17) (S.2.2 18) (S.2.2 19) (S.2.2 20) (S.2.2 21) (S.2.2 22) (S.2.2 23) its  hI.Turb (by omega)) (fun E st t q => by
    obtain ⟨u, -, ⟨q, -⟩, -⟩ := q
    rcases q with ⟨_, q⟩ <;> (first | omega | (split at q <;> omega) | (simp only [] at q; omega))) (fun _ _ _ _ _ q => by
    obtain ⟨⟨r, u, e1, ⟨e2, e3⟩, hP⟩, hF⟩ := q
    exact ⟨⟨r, u, e1, ⟨e2, e3.2.2, e3.2.1⟩, hP⟩, hF⟩)
set_option maxHeartbeats 4000000 in
theorem b_price (l : Launch) (hlt : l.stackTraces = false) (G : va_G) (ah : Nat → Nat) (zE : Nat) (y : Nat → ClassId) (sz : Nat) (S : ST) (hour : Int) (its : Int) (hI : FC zE S) (hp : 0 ≤ hour ∧ hour ≤ 23) (hb : 0 ≤ its ∧ its ≤ 99) : Met l yX7_price wsX7_price ({ frames := 7, cells := 2, slots := 12, locals := 117 }) (va_Pc [.ref (ah 0), zi hour, zi its] (HPreG zE G (tyL y) (wH ah y S) sz)) (QXi G (fun (u : Unit) => (S.2.2 14) hour) (fun (u : Unit) => True) (fun (u : Unit) => wH ah y (sA S 14 (upZ (S.2.2 14) hour its))) (va_A (wH ah y S) sz)) 2 12 (va_A (wH ah y S) sz) := by
  have qN := hI.N
  have qC := hI.C
  have qNow := hI.Now
  exact met_of (c_X7_price l hlt G ah S.1 zE y sz (S.2.1 0) (S.2.1 1) (S.2.1 2) (S.2.1 3) (S.2.1 4) (S.2.1 5) (S.2.1 6) (S.2.1 7) (S.2.1 8) (S.2.1 9) (S.2.1 10) (S.2.1 11) (S.2.1 12) (S.2.1 13) (S.2.1 14) (S.2.1 15) (S.2.1 16) (S.2.1 17) (S.2.1 18) (S.2.2 0) (S.2.2 1) (S.2.2 2) (S.2.2 3) (S.2.2 4) (S.2.2 5) (S.2.2 6) (S.2.2 7) (S.2.2 8) (S.2.2 9) (S.2.2 10) (S.2.2 11) (S.2.2 12) (S.2.2 13) (S.2.2 14) (S.2.2 15) (S.2.2 16) (S.2.2 17) (S.2.2 18) (S.2.2 19) (S.2.2 20) (S.2.2 21) (S.2.2 22) (S.2.2 23) hour its  (by omega) (by omega)) (fun E st t q => by
    obtain ⟨u, -, ⟨q, -⟩, -⟩ := q
    rcases q with ⟨_, q⟩ | ⟨_, q⟩ <;> (first | omega | (split at q <;> omega) | (simp only [] at q; omega))) (fun _ _ _ _ _ q => by
    obtain ⟨⟨r, u, e1, ⟨e2, -⟩, hP⟩, hF⟩ := q
    exact ⟨⟨r, u, e1, ⟨e2, trivial⟩, hP⟩, hF⟩)
set_option maxHeartbeats 4000000 in
theorem b_firm (l : Launch) (hlt : l.stackTraces = false) (G : va_G) (ah : Nat → Nat) (zE : Nat) (y : Nat → ClassId) (sz : Nat) (S : ST) (hour : Int) (amount : Int) (hI : FC zE S) (hp : 0 ≤ hour ∧ hour ≤ 23) (hb : 0 ≤ amount ∧ amount ≤ 200) : Met l yX7_firm wsX7_firm ({ frames := 7, cells := 2, slots := 12, locals := 117 }) (va_Pc [.ref (ah 0), zi hour, zi amount] (HPreG zE G (tyL y) (wH ah y S) sz)) (QXi G (fun (u : Unit) => (S.2.2 15) hour) (fun (u : Unit) => True) (fun (u : Unit) => wH ah y (sA S 15 (upZ (S.2.2 15) hour amount))) (va_A (wH ah y S) sz)) 2 12 (va_A (wH ah y S) sz) := by
  have qN := hI.N
  have qC := hI.C
  have qNow := hI.Now
  exact met_of (c_X7_firm l hlt G ah S.1 zE y sz (S.2.1 0) (S.2.1 1) (S.2.1 2) (S.2.1 3) (S.2.1 4) (S.2.1 5) (S.2.1 6) (S.2.1 7) (S.2.1 8) (S.2.1 9) (S.2.1 10) (S.2.1 11) (S.2.1 12) (S.2.1 13) (S.2.1 14) (S.2.1 15) (S.2.1 16) (S.2.1 17) (S.2.1 18) (S.2.2 0) (S.2.2 1) (S.2.2 2) (S.2.2 3) (S.2.2 4) (S.2.2 5) (S.2.2 6) (S.2.2 7) (S.2.2 8) (S.2.2 9) (S.2.2 10) (S.2.2 11) (S.2.2 12) (S.2.2 13) (S.2.2 14) (S.2.2 15) (S.2.2 16) (S.2.2 17) (S.2.2 18) (S.2.2 19) (S.2.2 20) (S.2.2 21) (S.2.2 22) (S.2.2 23) hour amount  (by omega) (by omega)) (fun E st t q => by
    obtain ⟨u, -, ⟨q, -⟩, -⟩ := q
    rcases q with ⟨_, q⟩ | ⟨_, q⟩ <;> (first | omega | (split at q <;> omega) | (simp only [] at q; omega))) (fun _ _ _ _ _ q => by
    obtain ⟨⟨r, u, e1, ⟨e2, -⟩, hP⟩, hF⟩ := q
    exact ⟨⟨r, u, e1, ⟨e2, trivial⟩, hP⟩, hF⟩)
set_option maxHeartbeats 4000000 in
theorem b_plantIs (l : Launch) (hlt : l.stackTraces = false) (G : va_G) (ah : Nat → Nat) (zE : Nat) (y : Nat → ClassId) (sz : Nat) (S : ST) (what : Int) (hI : FC zE S) (hw : 0 ≤ what ∧ what ≤ 10) : Met l yX7_plantIs wsX7_plantIs ({ frames := 6, cells := 1, slots := 6, locals := 95 }) (va_Pc [.ref (ah 0), zi what] (HPreG zE G (tyL y) (wH ah y S) sz)) (QXi G (fun (u : Unit) => (if what = 0 then (S.2.1 2) else if what = 1 then strZ (S.2.1 2) else if what = 2 then (S.2.1 4) else if what = 3 then (S.2.1 5) else if what = 4 then (S.2.1 7) else if what = 5 then (S.2.1 6) else if what = 6 then (S.2.1 9) else if what = 7 then (S.2.1 10) else if what = 8 then (S.2.1 12) else if what = 9 then (S.2.1 13) else (S.2.1 14))) (fun (u : Unit) => True) (fun (u : Unit) => wH ah y (S)) (va_A (wH ah y S) sz)) 1 6 (va_A (wH ah y S) sz) := by
  have qN := hI.N
  have qC := hI.C
  have qNow := hI.Now
  exact met_of (c_X7_plantIs l hlt G ah S.1 zE y sz (S.2.1 0) (S.2.1 1) (S.2.1 2) (S.2.1 3) (S.2.1 4) (S.2.1 5) (S.2.1 6) (S.2.1 7) (S.2.1 8) (S.2.1 9) (S.2.1 10) (S.2.1 11) (S.2.1 12) (S.2.1 13) (S.2.1 14) (S.2.1 15) (S.2.1 16) (S.2.1 17) (S.2.1 18) (S.2.2 0) (S.2.2 1) (S.2.2 2) (S.2.2 3) (S.2.2 4) (S.2.2 5) (S.2.2 6) (S.2.2 7) (S.2.2 8) (S.2.2 9) (S.2.2 10) (S.2.2 11) (S.2.2 12) (S.2.2 13) (S.2.2 14) (S.2.2 15) (S.2.2 16) (S.2.2 17) (S.2.2 18) (S.2.2 19) (S.2.2 20) (S.2.2 21) (S.2.2 22) (S.2.2 23) what  hI.Now hI.Trc (by omega)) (fun E st t q => by
    obtain ⟨u, -, ⟨q, -⟩, -⟩ := q
    rcases q with ⟨_, q⟩ <;> (first | omega | (split at q <;> omega) | (simp only [] at q; omega))) (fun _ _ _ _ _ q => by
    obtain ⟨⟨r, u, e1, ⟨e2, -⟩, hP⟩, hF⟩ := q
    exact ⟨⟨r, u, e1, ⟨e2, trivial⟩, hP⟩, hF⟩)
set_option maxHeartbeats 4000000 in
theorem b_sum (l : Launch) (hlt : l.stackTraces = false) (G : va_G) (ah : Nat → Nat) (zE : Nat) (y : Nat → ClassId) (sz : Nat) (S : ST) (what : Int) (hI : FC zE S) (hw : 0 ≤ what ∧ what ≤ 12) : Met l yX7_sum wsX7_sum ({ frames := 7, cells := 1, slots := 6, locals := 117 }) (va_Pc [.ref (ah 0), zi what] (HPreG zE G (tyL y) (wH ah y S) sz)) (QXl G (fun (u : Unit) => (S.2.2 16) what) (fun (u : Unit) => True) (fun (u : Unit) => wH ah y (S)) (va_A (wH ah y S) sz)) 1 6 (va_A (wH ah y S) sz) := by
  have qN := hI.N
  have qC := hI.C
  have qNow := hI.Now
  exact met_of (c_X7_sum l hlt G ah S.1 zE y sz (S.2.1 0) (S.2.1 1) (S.2.1 2) (S.2.1 3) (S.2.1 4) (S.2.1 5) (S.2.1 6) (S.2.1 7) (S.2.1 8) (S.2.1 9) (S.2.1 10) (S.2.1 11) (S.2.1 12) (S.2.1 13) (S.2.1 14) (S.2.1 15) (S.2.1 16) (S.2.1 17) (S.2.1 18) (S.2.2 0) (S.2.2 1) (S.2.2 2) (S.2.2 3) (S.2.2 4) (S.2.2 5) (S.2.2 6) (S.2.2 7) (S.2.2 8) (S.2.2 9) (S.2.2 10) (S.2.2 11) (S.2.2 12) (S.2.2 13) (S.2.2 14) (S.2.2 15) (S.2.2 16) (S.2.2 17) (S.2.2 18) (S.2.2 19) (S.2.2 20) (S.2.2 21) (S.2.2 22) (S.2.2 23) what  (by omega)) (fun E st t q => by
    obtain ⟨u, -, ⟨q, -⟩, -⟩ := q
    rcases q with ⟨_, q⟩ <;> (first | omega | (split at q <;> omega) | (simp only [] at q; omega))) (fun _ _ _ _ _ q => by
    obtain ⟨⟨r, u, e1, ⟨e2, -⟩, hP⟩, hF⟩ := q
    exact ⟨⟨r, u, e1, ⟨e2, trivial⟩, hP⟩, hF⟩)
set_option maxHeartbeats 4000000 in
theorem b_flux (l : Launch) (hlt : l.stackTraces = false) (G : va_G) (ah : Nat → Nat) (zE : Nat) (y : Nat → ClassId) (sz : Nat) (S : ST) (panel : Int) (hI : FC zE S) (hp : 0 ≤ panel ∧ panel ≤ 5) : Met l yX7_flux wsX7_flux ({ frames := 7, cells := 1, slots := 6, locals := 155 }) (va_Pc [.ref (ah 0), zi panel] (HPreG zE G (tyL y) (wH ah y S) sz)) (QXi G (fun (u : (Int → Int) × Int) => flS S panel) (fun (u : (Int → Int) × Int) => True) (fun (u : (Int → Int) × Int) => wH ah y (sF S u.1 u.2)) (va_A (wH ah y S) sz)) 1 6 (va_A (wH ah y S) sz) := by
  have qN := hI.N
  have qC := hI.C
  have qNow := hI.Now
  exact met_of (c_X7_flux l hlt G ah S.1 zE y sz (S.2.1 0) (S.2.1 1) (S.2.1 2) (S.2.1 3) (S.2.1 4) (S.2.1 5) (S.2.1 6) (S.2.1 7) (S.2.1 8) (S.2.1 9) (S.2.1 10) (S.2.1 11) (S.2.1 12) (S.2.1 13) (S.2.1 14) (S.2.1 15) (S.2.1 16) (S.2.1 17) (S.2.1 18) (S.2.2 0) (S.2.2 1) (S.2.2 2) (S.2.2 3) (S.2.2 4) (S.2.2 5) (S.2.2 6) (S.2.2 7) (S.2.2 8) (S.2.2 9) (S.2.2 10) (S.2.2 11) (S.2.2 12) (S.2.2 13) (S.2.2 14) (S.2.2 15) (S.2.2 16) (S.2.2 17) (S.2.2 18) (S.2.2 19) (S.2.2 20) (S.2.2 21) (S.2.2 22) (S.2.2 23) panel  hI.Z hI.Tk hI.N hI.C hI.Now hI.Haze hI.Cell hI.Dirt hI.Top hI.Lm hI.Rows hI.Cols hI.Down hI.Right hI.Aim hI.Err hI.Cor (by omega)) (fun E st t q => by
    obtain ⟨u, -, ⟨q, -⟩, -⟩ := q
    rcases q with ⟨_, q⟩ <;> (first | omega | (split at q <;> omega) | (simp only [] at q; omega))) (fun _ _ _ _ _ q => by
    obtain ⟨⟨r, u, e1, ⟨e2, -⟩, hP⟩, hF⟩ := q
    exact ⟨⟨r, u, e1, ⟨e2, trivial⟩, hP⟩, hF⟩)
set_option maxHeartbeats 4000000 in
theorem b_fluxAnew (l : Launch) (hlt : l.stackTraces = false) (G : va_G) (ah : Nat → Nat) (zE : Nat) (y : Nat → ClassId) (sz : Nat) (S : ST) (panel : Int) (hI : FC zE S) (hp : 0 ≤ panel ∧ panel ≤ 5) : Met l yX7_fluxAnew wsX7_fluxAnew ({ frames := 7, cells := 1, slots := 6, locals := 131 }) (va_Pc [.ref (ah 0), zi panel] (HPreG zE G (tyL y) (wH ah y S) sz)) (QXi G (fun (u : Unit) => flS S panel) (fun (u : Unit) => True) (fun (u : Unit) => wH ah y (S)) (va_A (wH ah y S) sz)) 1 6 (va_A (wH ah y S) sz) := by
  have qN := hI.N
  have qC := hI.C
  have qNow := hI.Now
  exact met_of (c_X7_fluxAnew l hlt G ah S.1 zE y sz (S.2.1 0) (S.2.1 1) (S.2.1 2) (S.2.1 3) (S.2.1 4) (S.2.1 5) (S.2.1 6) (S.2.1 7) (S.2.1 8) (S.2.1 9) (S.2.1 10) (S.2.1 11) (S.2.1 12) (S.2.1 13) (S.2.1 14) (S.2.1 15) (S.2.1 16) (S.2.1 17) (S.2.1 18) (S.2.2 0) (S.2.2 1) (S.2.2 2) (S.2.2 3) (S.2.2 4) (S.2.2 5) (S.2.2 6) (S.2.2 7) (S.2.2 8) (S.2.2 9) (S.2.2 10) (S.2.2 11) (S.2.2 12) (S.2.2 13) (S.2.2 14) (S.2.2 15) (S.2.2 16) (S.2.2 17) (S.2.2 18) (S.2.2 19) (S.2.2 20) (S.2.2 21) (S.2.2 22) (S.2.2 23) panel  hI.Z hI.Tk hI.N hI.C hI.Now hI.Haze hI.Cell hI.Dirt hI.Top hI.Lm hI.Rows hI.Cols hI.Down hI.Right hI.Aim hI.Err hI.Cor (by omega)) (fun E st t q => by
    obtain ⟨u, -, ⟨q, -⟩, -⟩ := q
    rcases q with ⟨_, q⟩ <;> (first | omega | (split at q <;> omega) | (simp only [] at q; omega))) (fun _ _ _ _ _ q => by
    obtain ⟨⟨r, u, e1, ⟨e2, -⟩, hP⟩, hF⟩ := q
    exact ⟨⟨r, u, e1, ⟨e2, trivial⟩, hP⟩, hF⟩)
set_option maxHeartbeats 4000000 in
theorem b_isSafe (l : Launch) (G : va_G) (ah : Nat → Nat) (zE : Nat) (y : Nat → ClassId) (sz : Nat) (S : ST)  (hI : FC zE S) : Met l yX7_isSafe wsX7_isSafe ({ frames := 7, cells := 0, slots := 0, locals := 155 }) (va_Pc [.ref (ah 0)] (HPreG zE G (tyL y) (wH ah y S) sz)) (QXi G (fun (u : (Int → Int) × Int) => sfS S) (fun (u : (Int → Int) × Int) => True) (fun (u : (Int → Int) × Int) => wH ah y (sF S u.1 u.2)) (va_A (wH ah y S) sz)) 0 0 (va_A (wH ah y S) sz) := by
  have qN := hI.N
  have qC := hI.C
  have qNow := hI.Now
  exact met_mo (c_X7_isSafe l G ah S.1 zE y sz (S.2.1 0) (S.2.1 1) (S.2.1 2) (S.2.1 3) (S.2.1 4) (S.2.1 5) (S.2.1 6) (S.2.1 7) (S.2.1 8) (S.2.1 9) (S.2.1 10) (S.2.1 11) (S.2.1 12) (S.2.1 13) (S.2.1 14) (S.2.1 15) (S.2.1 16) (S.2.1 17) (S.2.1 18) (S.2.2 0) (S.2.2 1) (S.2.2 2) (S.2.2 3) (S.2.2 4) (S.2.2 5) (S.2.2 6) (S.2.2 7) (S.2.2 8) (S.2.2 9) (S.2.2 10) (S.2.2 11) (S.2.2 12) (S.2.2 13) (S.2.2 14) (S.2.2 15) (S.2.2 16) (S.2.2 17) (S.2.2 18) (S.2.2 19) (S.2.2 20) (S.2.2 21) (S.2.2 22) (S.2.2 23)   hI.Z hI.Tk hI.N hI.C hI.Now hI.Haze hI.Cell hI.Dirt hI.Top hI.Lm hI.Rows hI.Cols hI.Down hI.Right hI.Aim hI.Err hI.Cor hI.Bound) (fun _ _ _ _ _ q => by
    obtain ⟨⟨r, u, e1, ⟨e2, -⟩, hP⟩, hF⟩ := q
    exact ⟨⟨r, u, e1, ⟨e2, trivial⟩, hP⟩, hF⟩)
set_option maxHeartbeats 4000000 in
theorem b_bestAnew (l : Launch) (hlt : l.stackTraces = false) (G : va_G) (ah : Nat → Nat) (zE : Nat) (y : Nat → ClassId) (sz : Nat) (S : ST) (sid : Int) (hI : FC zE S) (hs : 0 ≤ sid ∧ sid < 4096) (ho : okZ sid (S.2.1 0) (S.2.2 5) = 1) (hb : ¬ (bsS S sid).1 = -1) : Met l yX7_bestAnew wsX7_bestAnew ({ frames := 8, cells := 2, slots := 12, locals := 178 }) (va_Pc [.ref (ah 0), zi sid] (HPreG zE G (tyL y) (wH ah y S) sz)) (QXi G (fun (u : BT) => (bsS S sid).2) (fun (u : BT) => True) (fun (u : BT) => wH ah y (sB S u)) (va_A (wH ah y S) sz)) 2 12 (va_A (wH ah y S) sz) := by
  have qN := hI.N
  have qC := hI.C
  have qNow := hI.Now
  exact met_of (c_X7_bestAnew l hlt G ah S.1 zE y sz (S.2.1 0) (S.2.1 1) (S.2.1 2) (S.2.1 3) (S.2.1 4) (S.2.1 5) (S.2.1 6) (S.2.1 7) (S.2.1 8) (S.2.1 9) (S.2.1 10) (S.2.1 11) (S.2.1 12) (S.2.1 13) (S.2.1 14) (S.2.1 15) (S.2.1 16) (S.2.1 17) (S.2.1 18) (S.2.2 0) (S.2.2 1) (S.2.2 2) (S.2.2 3) (S.2.2 4) (S.2.2 5) (S.2.2 6) (S.2.2 7) (S.2.2 8) (S.2.2 9) (S.2.2 10) (S.2.2 11) (S.2.2 12) (S.2.2 13) (S.2.2 14) (S.2.2 15) (S.2.2 16) (S.2.2 17) (S.2.2 18) (S.2.2 19) (S.2.2 20) (S.2.2 21) (S.2.2 22) (S.2.2 23) sid  hI.Z hI.Tk hI.N hI.C hI.Now hI.Haze hI.Cell hI.Dirt hI.Top hI.Lm hI.Rows hI.Cols hI.Down hI.Right hI.Aim hI.Err hI.Cor hI.Brk hI.Bound (by omega)) (fun E st t q => by
    obtain ⟨u, -, ⟨q, -⟩, -⟩ := q
    have hb2 : ¬ (bstZ sid (S.2.1 0) (S.2.2 2) (S.2.2 3) (S.2.2 4) (ryZ (S.2.1 0) (S.2.1 1) (S.2.1 2) (S.2.1 3) (S.2.2 0) (S.2.2 1) (S.2.2 6) (S.2.2 7) (S.2.2 8) (S.2.2 9) (S.2.2 10) (S.2.2 11)) (S.2.2 12)).1 = -1 := hb
    rcases q with ⟨_, q⟩ | ⟨_, q⟩ <;> (first | omega | (split at q <;> omega) | (simp only [] at q; omega))) (fun _ _ _ _ _ q => by
    obtain ⟨⟨r, u, e1, ⟨e2, -⟩, hP⟩, hF⟩ := q
    exact ⟨⟨r, u, e1, ⟨e2, trivial⟩, hP⟩, hF⟩)
set_option maxHeartbeats 4000000 in
theorem b_kept (l : Launch) (G : va_G) (ah : Nat → Nat) (zE : Nat) (y : Nat → ClassId) (sz : Nat) (S : ST)  (hI : FC zE S) : Met l yX7_kept wsX7_kept ({ frames := 0, cells := 0, slots := 0, locals := 0 }) (va_Pc [.ref (ah 0)] (HPreG zE G (tyL y) (wH ah y S) sz)) (va_Qf (fun (r : UInt32) (u : Unit) => r = (kpL (zL ((S.2.2 16) 3)) (zL ((S.2.2 16) 4))) ∧ True) (fun u t => va_P G vwCl (wH ah y (S)) t.heap) (va_A (wH ah y S) sz)) 0 0 (va_A (wH ah y S) sz) := by
  have qN := hI.N
  have qC := hI.C
  have qNow := hI.Now
  exact met_mo (c_X7_kept l G ah S.1 zE y sz (S.2.1 0) (S.2.1 1) (S.2.1 2) (S.2.1 3) (S.2.1 4) (S.2.1 5) (S.2.1 6) (S.2.1 7) (S.2.1 8) (S.2.1 9) (S.2.1 10) (S.2.1 11) (S.2.1 12) (S.2.1 13) (S.2.1 14) (S.2.1 15) (S.2.1 16) (S.2.1 17) (S.2.1 18) (S.2.2 0) (S.2.2 1) (S.2.2 2) (S.2.2 3) (S.2.2 4) (S.2.2 5) (S.2.2 6) (S.2.2 7) (S.2.2 8) (S.2.2 9) (S.2.2 10) (S.2.2 11) (S.2.2 12) (S.2.2 13) (S.2.2 14) (S.2.2 15) (S.2.2 16) (S.2.2 17) (S.2.2 18) (S.2.2 19) (S.2.2 20) (S.2.2 21) (S.2.2 22) (S.2.2 23)   ) (fun _ _ _ _ _ q => by
    obtain ⟨⟨r, u, e1, ⟨e2, -⟩, hP⟩, hF⟩ := q
    exact ⟨⟨r, u, e1, ⟨e2, trivial⟩, hP⟩, hF⟩)
set_option maxHeartbeats 4000000 in
theorem b_pass (l : Launch) (hlt : l.stackTraces = false) (G : va_G) (ah : Nat → Nat) (zE : Nat) (y : Nat → ClassId) (sz : Nat) (S : ST) (hI : FC zE S) (hn : S.2.1 2 + 1 ≤ 9999) : Met l yX7_pass wsX7_pass ({ frames := 8, cells := 2, slots := 12, locals := 179 }) (va_Pc [.ref (ah 0), zi 1] (HPreG zE G (tyL y) (wH ah y S) sz)) (va_Qi (fun (r : Int32) (u : ST) => r = zI (S.2.1 2 + 1) ∧ TK S u ∧ FC zE u) (fun u t => va_P G vwCl (wH ah y u) t.heap ∧ va_D (va_A (wH ah y S) sz) (wH ah y u)) (va_A (wH ah y S) sz)) 2 12 (va_A (wH ah y S) sz) := by
  exact met_of (c_X7_pass l hlt G ah S.1 zE y sz (S.2.1 0) (S.2.1 1) (S.2.1 2) (S.2.1 3) (S.2.1 4) (S.2.1 5) (S.2.1 6) (S.2.1 7) (S.2.1 8) (S.2.1 9) (S.2.1 10) (S.2.1 11) (S.2.1 12) (S.2.1 13) (S.2.1 14) (S.2.1 15) (S.2.1 16) (S.2.1 17) (S.2.1 18) (S.2.2 0) (S.2.2 1) (S.2.2 2) (S.2.2 3) (S.2.2 4) (S.2.2 5) (S.2.2 6) (S.2.2 7) (S.2.2 8) (S.2.2 9) (S.2.2 10) (S.2.2 11) (S.2.2 12) (S.2.2 13) (S.2.2 14) (S.2.2 15) (S.2.2 16) (S.2.2 17) (S.2.2 18) (S.2.2 19) (S.2.2 20) (S.2.2 21) (S.2.2 22) (S.2.2 23) 1 (S.2.1 8) hI.Z hI.Tk hI.N hI.C hI.Now hI.Haze hI.Cell hI.Dirt hI.Top hI.Lm hI.Rows hI.Cols hI.Down hI.Right hI.Aim hI.Err hI.Cor hI.Brk hI.Bound hI.Salt hI.Pipe hI.Deg hI.Thaw hI.Trc hI.Turb hI.Left hI.Load hI.Price hI.Firm hI.Strain hI.Trips (by omega) (fun _ => rfl)) (fun E st t q => by
    obtain ⟨u, -, ⟨q, -⟩, -⟩ := q
    rcases q with ⟨_, q⟩ | ⟨_, q⟩ <;> omega) (fun _ _ _ _ hp q => by
    obtain ⟨⟨r, ⟨f, mi, nAim, nDirt, nTop, nLm, nStrain, nSums, nNow, nCold, nHot, nPipe, nDeg, nThaw, nTurb, nLeft, nTrips, nW⟩, e1, ⟨e2, e3⟩, hP⟩, hF⟩ := q
    have hD := hp.2.1.2.2.2.self (sz := sz)
    have hz := tk_all (f := f) (mi := mi) hI hn (e3.2.1) (e3.2.2.1) (e3.2.2.2.2.1) (e3.2.2.2.2.2.1) (e3.2.2.2.2.2.2.1) (e3.2.2.2.2.2.2.2.1) (e3.2.2.2.2.2.2.2.2.1) (e3.2.2.2.2.2.2.2.2.2.1) (e3.2.2.2.2.2.2.2.2.2.2.1) (e3.2.2.2.2.2.2.2.2.2.2.2.1) (e3.2.2.2.2.2.2.2.2.2.2.2.2.1) (e3.2.2.2.2.2.2.2.2.2.2.2.2.2.1) (e3.2.2.2.2.2.2.2.2.2.2.2.2.2.2.1) (e3.2.2.2.2.2.2.2.2.2.2.2.2.2.2.2)
    exact ⟨⟨r, sP S f mi nAim nDirt nTop nLm nStrain nSums nNow nCold nHot nPipe nDeg nThaw nTurb nLeft nTrips, e1, ⟨e2, hz⟩, hP, hz_Dc hD (wH_fst rfl rfl rfl)⟩, hF⟩)
set_option maxHeartbeats 4000000 in
theorem b_clear (l : Launch) (G : va_G) (ah : Nat → Nat) (zE : Nat) (y : Nat → ClassId) (sz : Nat) (S : ST) (hI : FC zE S) : Met l yX7_clear wsX7_clear ({ frames := 2, cells := 0, slots := 0, locals := 60 }) (va_Pc [.ref (ah 0)] (HPreG zE G (tyL y) (wH ah y S) sz)) (va_Qi (fun (r : Int32) (u : LZ) => r = zI (S.2.1 1) ∧ LZok u (S.2.1 0) 0 ∧ LZe u zE) (fun u t => va_P G vwCl (wH ah y (sI (sZ S u) 1 0)) t.heap ∧ va_D (va_A (wH ah y S) sz) (wH ah y (sI (sZ S u) 1 0))) (va_A (wH ah y S) sz)) 0 0 (va_A (wH ah y S) sz) := by
  exact (c_X7_clear l G ah S.1 zE zE y sz (S.2.1 0) (S.2.1 1) (S.2.1 2) (S.2.1 3) (S.2.1 4) (S.2.1 5) (S.2.1 6) (S.2.1 7) (S.2.1 8) (S.2.1 9) (S.2.1 10) (S.2.1 11) (S.2.1 12) (S.2.1 13) (S.2.1 14) (S.2.1 15) (S.2.1 16) (S.2.1 17) (S.2.1 18) (S.2.2 0) (S.2.2 1) (S.2.2 2) (S.2.2 3) (S.2.2 4) (S.2.2 5) (S.2.2 6) (S.2.2 7) (S.2.2 8) (S.2.2 9) (S.2.2 10) (S.2.2 11) (S.2.2 12) (S.2.2 13) (S.2.2 14) (S.2.2 15) (S.2.2 16) (S.2.2 17) (S.2.2 18) (S.2.2 19) (S.2.2 20) (S.2.2 21) (S.2.2 22) (S.2.2 23) hI.Z hI.C hI.Ze)
