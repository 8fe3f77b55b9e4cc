/-! the class's state as one thing, and what holds of it -/
abbrev ST : Type := LZ × (Nat → Int) × (Nat → Int → Int)
def wH (ah : Nat → Nat) (y : Nat → ClassId) (S : ST) : va_W := hW ah S.1 y (S.2.1 0) (S.2.1 1) (S.2.1 2) (S.2.1 3) (S.2.1 4) (S.2.1 5) (S.2.1 6) (S.2.1 7) (S.2.1 8) (S.2.1 9) (S.2.1 10) (S.2.1 11) (S.2.1 12) (S.2.1 13) (S.2.1 14) (S.2.1 15) (S.2.1 16) (S.2.1 17) (S.2.1 18) (S.2.2 0) (S.2.2 1) (S.2.2 2) (S.2.2 3) (S.2.2 4) (S.2.2 5) (S.2.2 6) (S.2.2 7) (S.2.2 8) (S.2.2 9) (S.2.2 10) (S.2.2 11) (S.2.2 12) (S.2.2 13) (S.2.2 14) (S.2.2 15) (S.2.2 16) (S.2.2 17) (S.2.2 18) (S.2.2 19) (S.2.2 20) (S.2.2 21) (S.2.2 22) (S.2.2 23)
def dW (o0 : Nat) (y : Nat → ClassId) (d : Int → Int) : va_W := [(o0, .inl (y 0, 29, .inl (IA d)))]
def sI (S : ST) (k : Nat) (v : Int) : ST := (S.1, (fun j => if j = k then v else S.2.1 j), S.2.2)
def sA (S : ST) (k : Nat) (f : Int → Int) : ST := (S.1, S.2.1, fun j => if j = k then f else S.2.2 j)
def sZ (S : ST) (z : LZ) : ST := (z, S.2)
/-- what a look at the light leaves -/
def sF (S : ST) (f : Int → Int) (mi : Int) : ST := (S.1, (fun j => if j = 15 then mi else S.2.1 j), fun j => if j = 18 then f else S.2.2 j)
/-- what a search leaves -/
abbrev BT : Type := (Int → Int) × Int × (Int → Int) × (Int → Int) × (Int → Int) × (Int → Int) × Int × Int
def sB (S : ST) (t : BT) : ST := (S.1, (fun j => if j = 16 then t.2.1 else if j = 17 then t.2.2.2.2.2.2.1 else if j = 18 then t.2.2.2.2.2.2.2 else S.2.1 j), fun j => if j = 19 then t.1 else if j = 20 then t.2.2.1 else if j = 21 then t.2.2.2.1 else if j = 22 then t.2.2.2.2.1 else if j = 23 then t.2.2.2.2.2.1 else S.2.2 j)
theorem wH_fst {ah : Nat → Nat} {y : Nat → ClassId} {S S2 : ST} (hz : S2.1 = S.1) (hn : S2.2.1 0 = S.2.1 0) (hc : S2.2.1 1 = S.2.1 1) : (wH ah y S2).map Prod.fst = (wH ah y S).map Prod.fst := by
  unfold wH
  rw [hz, hn, hc]
  exact hW_fst
/-- the facts of the class -/
def FC (zE : Nat) (S : ST) : Prop := (LZok S.1 (S.2.1 0) (S.2.1 1)) ∧ (LZe S.1 zE) ∧ (∀ k : Int, 0 ≤ k → k < 64 → (S.2.2 17) k = ocZ (S.2.1 0) (S.2.2 0) k) ∧ (0 ≤ (S.2.1 0) ∧ (S.2.1 0) ≤ 12) ∧ (0 ≤ (S.2.1 1) ∧ (S.2.1 1) ≤ 4) ∧ (0 ≤ (S.2.1 2) ∧ (S.2.1 2) ≤ 9999) ∧ (0 ≤ (S.2.1 3) ∧ (S.2.1 3) ≤ 9) ∧ (0 ≤ (S.2.1 4) ∧ 0 ≤ (S.2.1 5) ∧ (S.2.1 4) + (S.2.1 5) ≤ 1000) ∧ (0 ≤ (S.2.1 6) ∧ (S.2.1 6) ≤ 2) ∧ (0 ≤ (S.2.1 7) ∧ (S.2.1 7) ≤ 40 ∧ ((S.2.1 6) = 1 → 20 ≤ (S.2.1 7))) ∧ ((S.2.1 6) = 2 → 0 ≤ (S.2.1 8) ∧ (S.2.1 8) ≤ 2) ∧ (0 ≤ (S.2.1 9) ∧ (S.2.1 9) ≤ 1) ∧ (0 ≤ (S.2.1 10) ∧ (S.2.1 10) ≤ 2) ∧ (0 ≤ (S.2.1 11) ∧ (S.2.1 11) ≤ 2 ∧ ((S.2.1 10) = 1 → 1 ≤ (S.2.1 11))) ∧ (0 ≤ (S.2.1 12) ∧ (S.2.1 12) ≤ 20) ∧ (0 ≤ (S.2.1 13) ∧ (S.2.1 13) ≤ 1000) ∧ (0 ≤ (S.2.1 14) ∧ (S.2.1 14) ≤ (S.2.1 2)) ∧ (∀ k : Int, 0 ≤ (S.2.2 0) k ∧ (S.2.2 0) k ≤ 63) ∧ (∀ k : Int, 0 ≤ (S.2.2 1) k ∧ (S.2.2 1) k ≤ 9) ∧ (∀ k : Int, -1 ≤ (S.2.2 2) k ∧ (S.2.2 2) k ≤ 5) ∧ (∀ k : Int, -3 ≤ (S.2.2 3) k ∧ (S.2.2 3) k ≤ 3) ∧ (∀ k : Int, -3 ≤ (S.2.2 4) k ∧ (S.2.2 4) k ≤ 3) ∧ (∀ k : Int, 0 ≤ (S.2.2 5) k ∧ (S.2.2 5) k ≤ 1) ∧ (∀ k : Int, -(16 + (S.2.1 2)) ≤ (S.2.2 6) k ∧ (S.2.2 6) k ≤ 16 + (S.2.1 2)) ∧ (∀ k : Int, -(16 + (S.2.1 2)) ≤ (S.2.2 7) k ∧ (S.2.2 7) k ≤ 16 + (S.2.1 2)) ∧ (∀ k : Int, 0 ≤ (S.2.2 8) k ∧ (S.2.2 8) k ≤ 8) ∧ (∀ k : Int, 0 ≤ (S.2.2 9) k ∧ (S.2.2 9) k ≤ 8) ∧ (∀ k : Int, -1 ≤ (S.2.2 10) k ∧ (S.2.2 10) k ≤ 1) ∧ (∀ k : Int, -1 ≤ (S.2.2 11) k ∧ (S.2.2 11) k ≤ 1) ∧ (∀ k : Int, 0 ≤ (S.2.2 12) k ∧ (S.2.2 12) k ≤ 9999) ∧ (∀ k : Int, 0 ≤ (S.2.2 13) k ∧ (S.2.2 13) k ≤ (S.2.1 2)) ∧ (∀ k : Int, 0 ≤ (S.2.2 14) k ∧ (S.2.2 14) k ≤ 99) ∧ (∀ k : Int, 0 ≤ (S.2.2 15) k ∧ (S.2.2 15) k ≤ 200) ∧ (∀ k9 : Int, (S.2.1 0) ≤ k9 → (S.2.2 1) k9 = 0 ∧ (S.2.2 3) k9 = 0 ∧ (S.2.2 4) k9 = 0 ∧ (S.2.2 5) k9 = 0) ∧ (∀ k : Int, 0 ≤ k → k ≤ 12 → 0 ≤ (S.2.2 16) k ∧ (S.2.2 16) k ≤ 100000 * (S.2.1 2)) ∧ ((S.2.2 16) 0 = (S.2.2 16) 1 + (S.2.2 16) 2 + (S.2.2 16) 3 ∧ (S.2.2 16) 3 = (S.2.2 16) 4 + 100 * (S.2.2 16) 5 ∧ (S.2.2 16) 6 + (S.2.2 16) 8 = (S.2.2 16) 7 + (S.2.2 16) 9 + (S.2.2 16) 11 ∧ (S.2.2 16) 12 ≤ 99 * (S.2.2 16) 11) ∧ ((S.2.1 14) ≤ alZ (S.2.2 13) ∧ alZ (S.2.2 13) ≤ 6 * (S.2.1 14)) ∧ ((S.2.1 10) = 0 → (S.2.1 12) = 0) ∧ (((S.2.1 6) = 0 → (S.2.1 7) = 0) ∧ ((S.2.1 6) = 2 → 18 ≤ (S.2.1 7) ∧ (S.2.1 7) < 20))
/-- the facts of the law's own row -/
def FD (S : ST) (d : Int → Int) : Prop := (d 0 = (S.2.1 0)) ∧ (d 1 = (S.2.1 2)) ∧ (0 ≤ d 2 ∧ (S.2.1 4) + (S.2.1 5) = 100 + d 2) ∧ (d 3 = (S.2.1 1)) ∧ (d 4 = (S.2.2 16) 9 + (S.2.2 16) 10) ∧ (∀ h : Int, 0 ≤ h → h < 24 → d (5 + h) = (S.2.2 15) h)
theorem FC.Z {zE : Nat} {S : ST} (h : FC zE S) : LZok S.1 (S.2.1 0) (S.2.1 1) := h.1
theorem FC.Ze {zE : Nat} {S : ST} (h : FC zE S) : LZe S.1 zE := h.2.1
theorem FC.Tk {zE : Nat} {S : ST} (h : FC zE S) : ∀ k : Int, 0 ≤ k → k < 64 → (S.2.2 17) k = ocZ (S.2.1 0) (S.2.2 0) k := h.2.2.1
theorem FC.N {zE : Nat} {S : ST} (h : FC zE S) : 0 ≤ (S.2.1 0) ∧ (S.2.1 0) ≤ 12 := h.2.2.2.1
theorem FC.C {zE : Nat} {S : ST} (h : FC zE S) : 0 ≤ (S.2.1 1) ∧ (S.2.1 1) ≤ 4 := h.2.2.2.2.1
theorem FC.Now {zE : Nat} {S : ST} (h : FC zE S) : 0 ≤ (S.2.1 2) ∧ (S.2.1 2) ≤ 9999 := h.2.2.2.2.2.1
theorem FC.Haze {zE : Nat} {S : ST} (h : FC zE S) : 0 ≤ (S.2.1 3) ∧ (S.2.1 3) ≤ 9 := h.2.2.2.2.2.2.1
theorem FC.Salt {zE : Nat} {S : ST} (h : FC zE S) : 0 ≤ (S.2.1 4) ∧ 0 ≤ (S.2.1 5) ∧ (S.2.1 4) + (S.2.1 5) ≤ 1000 := h.2.2.2.2.2.2.2.1
theorem FC.Pipe {zE : Nat} {S : ST} (h : FC zE S) : 0 ≤ (S.2.1 6) ∧ (S.2.1 6) ≤ 2 := h.2.2.2.2.2.2.2.2.1
theorem FC.Deg {zE : Nat} {S : ST} (h : FC zE S) : 0 ≤ (S.2.1 7) ∧ (S.2.1 7) ≤ 40 ∧ ((S.2.1 6) = 1 → 20 ≤ (S.2.1 7)) := h.2.2.2.2.2.2.2.2.2.1
theorem FC.Thaw {zE : Nat} {S : ST} (h : FC zE S) : (S.2.1 6) = 2 → 0 ≤ (S.2.1 8) ∧ (S.2.1 8) ≤ 2 := h.2.2.2.2.2.2.2.2.2.2.1
theorem FC.Trc {zE : Nat} {S : ST} (h : FC zE S) : 0 ≤ (S.2.1 9) ∧ (S.2.1 9) ≤ 1 := h.2.2.2.2.2.2.2.2.2.2.2.1
theorem FC.Turb {zE : Nat} {S : ST} (h : FC zE S) : 0 ≤ (S.2.1 10) ∧ (S.2.1 10) ≤ 2 := h.2.2.2.2.2.2.2.2.2.2.2.2.1
theorem FC.Left {zE : Nat} {S : ST} (h : FC zE S) : 0 ≤ (S.2.1 11) ∧ (S.2.1 11) ≤ 2 ∧ ((S.2.1 10) = 1 → 1 ≤ (S.2.1 11)) := h.2.2.2.2.2.2.2.2.2.2.2.2.2.1
theorem FC.Load {zE : Nat} {S : ST} (h : FC zE S) : 0 ≤ (S.2.1 12) ∧ (S.2.1 12) ≤ 20 := h.2.2.2.2.2.2.2.2.2.2.2.2.2.2.1
theorem FC.Water {zE : Nat} {S : ST} (h : FC zE S) : 0 ≤ (S.2.1 13) ∧ (S.2.1 13) ≤ 1000 := h.2.2.2.2.2.2.2.2.2.2.2.2.2.2.2.1
theorem FC.Trips {zE : Nat} {S : ST} (h : FC zE S) : 0 ≤ (S.2.1 14) ∧ (S.2.1 14) ≤ (S.2.1 2) := h.2.2.2.2.2.2.2.2.2.2.2.2.2.2.2.2.1
theorem FC.Cell {zE : Nat} {S : ST} (h : FC zE S) : ∀ k : Int, 0 ≤ (S.2.2 0) k ∧ (S.2.2 0) k ≤ 63 := h.2.2.2.2.2.2.2.2.2.2.2.2.2.2.2.2.2.1
theorem FC.Dirt {zE : Nat} {S : ST} (h : FC zE S) : ∀ k : Int, 0 ≤ (S.2.2 1) k ∧ (S.2.2 1) k ≤ 9 := h.2.2.2.2.2.2.2.2.2.2.2.2.2.2.2.2.2.2.1
theorem FC.Aim {zE : Nat} {S : ST} (h : FC zE S) : ∀ k : Int, -1 ≤ (S.2.2 2) k ∧ (S.2.2 2) k ≤ 5 := h.2.2.2.2.2.2.2.2.2.2.2.2.2.2.2.2.2.2.2.1
theorem FC.Err {zE : Nat} {S : ST} (h : FC zE S) : ∀ k : Int, -3 ≤ (S.2.2 3) k ∧ (S.2.2 3) k ≤ 3 := h.2.2.2.2.2.2.2.2.2.2.2.2.2.2.2.2.2.2.2.2.1
theorem FC.Cor {zE : Nat} {S : ST} (h : FC zE S) : ∀ k : Int, -3 ≤ (S.2.2 4) k ∧ (S.2.2 4) k ≤ 3 := h.2.2.2.2.2.2.2.2.2.2.2.2.2.2.2.2.2.2.2.2.2.1
theorem FC.Brk {zE : Nat} {S : ST} (h : FC zE S) : ∀ k : Int, 0 ≤ (S.2.2 5) k ∧ (S.2.2 5) k ≤ 1 := h.2.2.2.2.2.2.2.2.2.2.2.2.2.2.2.2.2.2.2.2.2.2.1
theorem FC.Top {zE : Nat} {S : ST} (h : FC zE S) : ∀ k : Int, -(16 + (S.2.1 2)) ≤ (S.2.2 6) k ∧ (S.2.2 6) k ≤ 16 + (S.2.1 2) := h.2.2.2.2.2.2.2.2.2.2.2.2.2.2.2.2.2.2.2.2.2.2.2.1
theorem FC.Lm {zE : Nat} {S : ST} (h : FC zE S) : ∀ k : Int, -(16 + (S.2.1 2)) ≤ (S.2.2 7) k ∧ (S.2.2 7) k ≤ 16 + (S.2.1 2) := h.2.2.2.2.2.2.2.2.2.2.2.2.2.2.2.2.2.2.2.2.2.2.2.2.1
theorem FC.Rows {zE : Nat} {S : ST} (h : FC zE S) : ∀ k : Int, 0 ≤ (S.2.2 8) k ∧ (S.2.2 8) k ≤ 8 := h.2.2.2.2.2.2.2.2.2.2.2.2.2.2.2.2.2.2.2.2.2.2.2.2.2.1
theorem FC.Cols {zE : Nat} {S : ST} (h : FC zE S) : ∀ k : Int, 0 ≤ (S.2.2 9) k ∧ (S.2.2 9) k ≤ 8 := h.2.2.2.2.2.2.2.2.2.2.2.2.2.2.2.2.2.2.2.2.2.2.2.2.2.2.1
theorem FC.Down {zE : Nat} {S : ST} (h : FC zE S) : ∀ k : Int, -1 ≤ (S.2.2 10) k ∧ (S.2.2 10) k ≤ 1 := h.2.2.2.2.2.2.2.2.2.2.2.2.2.2.2.2.2.2.2.2.2.2.2.2.2.2.2.1
theorem FC.Right {zE : Nat} {S : ST} (h : FC zE S) : ∀ k : Int, -1 ≤ (S.2.2 11) k ∧ (S.2.2 11) k ≤ 1 := h.2.2.2.2.2.2.2.2.2.2.2.2.2.2.2.2.2.2.2.2.2.2.2.2.2.2.2.2.1
theorem FC.Bound {zE : Nat} {S : ST} (h : FC zE S) : ∀ k : Int, 0 ≤ (S.2.2 12) k ∧ (S.2.2 12) k ≤ 9999 := h.2.2.2.2.2.2.2.2.2.2.2.2.2.2.2.2.2.2.2.2.2.2.2.2.2.2.2.2.2.1
theorem FC.Strain {zE : Nat} {S : ST} (h : FC zE S) : ∀ k : Int, 0 ≤ (S.2.2 13) k ∧ (S.2.2 13) k ≤ (S.2.1 2) := h.2.2.2.2.2.2.2.2.2.2.2.2.2.2.2.2.2.2.2.2.2.2.2.2.2.2.2.2.2.2.1
theorem FC.Price {zE : Nat} {S : ST} (h : FC zE S) : ∀ k : Int, 0 ≤ (S.2.2 14) k ∧ (S.2.2 14) k ≤ 99 := h.2.2.2.2.2.2.2.2.2.2.2.2.2.2.2.2.2.2.2.2.2.2.2.2.2.2.2.2.2.2.2.1
theorem FC.Firm {zE : Nat} {S : ST} (h : FC zE S) : ∀ k : Int, 0 ≤ (S.2.2 15) k ∧ (S.2.2 15) k ≤ 200 := h.2.2.2.2.2.2.2.2.2.2.2.2.2.2.2.2.2.2.2.2.2.2.2.2.2.2.2.2.2.2.2.2.1
theorem FC.E0 {zE : Nat} {S : ST} (h : FC zE S) : ∀ k9 : Int, (S.2.1 0) ≤ k9 → (S.2.2 1) k9 = 0 ∧ (S.2.2 3) k9 = 0 ∧ (S.2.2 4) k9 = 0 ∧ (S.2.2 5) k9 = 0 := h.2.2.2.2.2.2.2.2.2.2.2.2.2.2.2.2.2.2.2.2.2.2.2.2.2.2.2.2.2.2.2.2.2.1
theorem FC.SB {zE : Nat} {S : ST} (h : FC zE S) : ∀ k : Int, 0 ≤ k → k ≤ 12 → 0 ≤ (S.2.2 16) k ∧ (S.2.2 16) k ≤ 100000 * (S.2.1 2) := h.2.2.2.2.2.2.2.2.2.2.2.2.2.2.2.2.2.2.2.2.2.2.2.2.2.2.2.2.2.2.2.2.2.2.1
theorem FC.SE {zE : Nat} {S : ST} (h : FC zE S) : (S.2.2 16) 0 = (S.2.2 16) 1 + (S.2.2 16) 2 + (S.2.2 16) 3 ∧ (S.2.2 16) 3 = (S.2.2 16) 4 + 100 * (S.2.2 16) 5 ∧ (S.2.2 16) 6 + (S.2.2 16) 8 = (S.2.2 16) 7 + (S.2.2 16) 9 + (S.2.2 16) 11 ∧ (S.2.2 16) 12 ≤ 99 * (S.2.2 16) 11 := h.2.2.2.2.2.2.2.2.2.2.2.2.2.2.2.2.2.2.2.2.2.2.2.2.2.2.2.2.2.2.2.2.2.2.2.1
theorem FC.STR {zE : Nat} {S : ST} (h : FC zE S) : (S.2.1 14) ≤ alZ (S.2.2 13) ∧ alZ (S.2.2 13) ≤ 6 * (S.2.1 14) := h.2.2.2.2.2.2.2.2.2.2.2.2.2.2.2.2.2.2.2.2.2.2.2.2.2.2.2.2.2.2.2.2.2.2.2.2.1
theorem FC.TL {zE : Nat} {S : ST} (h : FC zE S) : (S.2.1 10) = 0 → (S.2.1 12) = 0 := h.2.2.2.2.2.2.2.2.2.2.2.2.2.2.2.2.2.2.2.2.2.2.2.2.2.2.2.2.2.2.2.2.2.2.2.2.2.1
theorem FC.PD {zE : Nat} {S : ST} (h : FC zE S) : ((S.2.1 6) = 0 → (S.2.1 7) = 0) ∧ ((S.2.1 6) = 2 → 18 ≤ (S.2.1 7) ∧ (S.2.1 7) < 20) := h.2.2.2.2.2.2.2.2.2.2.2.2.2.2.2.2.2.2.2.2.2.2.2.2.2.2.2.2.2.2.2.2.2.2.2.2.2.2
theorem FD.D0 {S : ST} {d : Int → Int} (h : FD S d) : d 0 = (S.2.1 0) := h.1
theorem FD.D1 {S : ST} {d : Int → Int} (h : FD S d) : d 1 = (S.2.1 2) := h.2.1
theorem FD.D2 {S : ST} {d : Int → Int} (h : FD S d) : 0 ≤ d 2 ∧ (S.2.1 4) + (S.2.1 5) = 100 + d 2 := h.2.2.1
theorem FD.D3 {S : ST} {d : Int → Int} (h : FD S d) : d 3 = (S.2.1 1) := h.2.2.2.1
theorem FD.D4 {S : ST} {d : Int → Int} (h : FD S d) : d 4 = (S.2.2 16) 9 + (S.2.2 16) 10 := h.2.2.2.2.1
theorem FD.D5 {S : ST} {d : Int → Int} (h : FD S d) : ∀ h : Int, 0 ≤ h → h < 24 → d (5 + h) = (S.2.2 15) h := h.2.2.2.2.2
theorem fc_F {zE : Nat} {S : ST} (f : Int → Int) (mi : Int) (hI : FC zE S) : FC zE (sF S f mi) := ⟨hI.Z, hI.Ze, hI.Tk, hI.N, hI.C, hI.Now, hI.Haze, hI.Salt, hI.Pipe, hI.Deg, hI.Thaw, hI.Trc, hI.Turb, hI.Left, hI.Load, hI.Water, hI.Trips, hI.Cell, hI.Dirt, hI.Aim, hI.Err, hI.Cor, hI.Brk, hI.Top, hI.Lm, hI.Rows, hI.Cols, hI.Down, hI.Right, hI.Bound, hI.Strain, hI.Price, hI.Firm, hI.E0, hI.SB, hI.SE, hI.STR, hI.TL, hI.PD⟩
theorem fc_B {zE : Nat} {S : ST} (t : BT) (hI : FC zE S) : FC zE (sB S t) := ⟨hI.Z, hI.Ze, hI.Tk, hI.N, hI.C, hI.Now, hI.Haze, hI.Salt, hI.Pipe, hI.Deg, hI.Thaw, hI.Trc, hI.Turb, hI.Left, hI.Load, hI.Water, hI.Trips, hI.Cell, hI.Dirt, hI.Aim, hI.Err, hI.Cor, hI.Brk, hI.Top, hI.Lm, hI.Rows, hI.Cols, hI.Down, hI.Right, hI.Bound, hI.Strain, hI.Price, hI.Firm, hI.E0, hI.SB, hI.SE, hI.STR, hI.TL, hI.PD⟩
theorem fc_drift {zE : Nat} {S : ST} (k by1 : Int) (hI : FC zE S) (hk : 0 ≤ k ∧ k < S.2.1 0) : FC zE (sA S 3 (upZ (S.2.2 3) k (hdZ ((S.2.2 3 k) + by1) (-3) 3))) := ⟨hI.Z, hI.Ze, hI.Tk, hI.N, hI.C, hI.Now, hI.Haze, hI.Salt, hI.Pipe, hI.Deg, hI.Thaw, hI.Trc, hI.Turb, hI.Left, hI.Load, hI.Water, hI.Trips, hI.Cell, hI.Dirt, hI.Aim, (show ∀ j9 : Int, -3 ≤ (upZ (S.2.2 3) k (hdZ ((S.2.2 3 k) + by1) (-3) 3)) j9 ∧ (upZ (S.2.2 3) k (hdZ ((S.2.2 3 k) + by1) (-3) 3)) j9 ≤ 3 from upZ_rng hI.Err (hdZ_rng (by decide))), hI.Cor, hI.Brk, hI.Top, hI.Lm, hI.Rows, hI.Cols, hI.Down, hI.Right, hI.Bound, hI.Strain, hI.Price, hI.Firm, (show ∀ k9 : Int, (S.2.1 0) ≤ k9 → (S.2.2 1) k9 = 0 ∧ (upZ (S.2.2 3) k (hdZ ((S.2.2 3 k) + by1) (-3) 3)) k9 = 0 ∧ (S.2.2 4) k9 = 0 ∧ (S.2.2 5) k9 = 0 from fun k9 q9 => by
    have q := hI.E0 k9 q9
    exact ⟨q.1, (upZ_n (show ¬ k9 = k by have q2 : S.2.1 0 ≤ k9 := q9; omega)).trans q.2.1, q.2.2.1, q.2.2.2⟩), hI.SB, hI.SE, hI.STR, hI.TL, hI.PD⟩
theorem fc_correct {zE : Nat} {S : ST} (k v : Int) (hI : FC zE S) (hk : 0 ≤ k ∧ k < S.2.1 0) (hv : -3 ≤ v ∧ v ≤ 3) : FC zE (sA S 4 (upZ (S.2.2 4) k v)) := ⟨hI.Z, hI.Ze, hI.Tk, hI.N, hI.C, hI.Now, hI.Haze, hI.Salt, hI.Pipe, hI.Deg, hI.Thaw, hI.Trc, hI.Turb, hI.Left, hI.Load, hI.Water, hI.Trips, hI.Cell, hI.Dirt, hI.Aim, hI.Err, (show ∀ j9 : Int, -3 ≤ (upZ (S.2.2 4) k v) j9 ∧ (upZ (S.2.2 4) k v) j9 ≤ 3 from upZ_rng hI.Cor hv), hI.Brk, hI.Top, hI.Lm, hI.Rows, hI.Cols, hI.Down, hI.Right, hI.Bound, hI.Strain, hI.Price, hI.Firm, (show ∀ k9 : Int, (S.2.1 0) ≤ k9 → (S.2.2 1) k9 = 0 ∧ (S.2.2 3) k9 = 0 ∧ (upZ (S.2.2 4) k v) k9 = 0 ∧ (S.2.2 5) k9 = 0 from fun k9 q9 => by
    have q := hI.E0 k9 q9
    exact ⟨q.1, q.2.1, (upZ_n (show ¬ k9 = k by have q2 : S.2.1 0 ≤ k9 := q9; omega)).trans q.2.2.1, q.2.2.2⟩), hI.SB, hI.SE, hI.STR, hI.TL, hI.PD⟩
theorem fc_aim {zE : Nat} {S : ST} (k v : Int) (hI : FC zE S) (hv : -1 ≤ v ∧ v ≤ 5) : FC zE (sA S 2 (upZ (S.2.2 2) k v)) := ⟨hI.Z, hI.Ze, hI.Tk, hI.N, hI.C, hI.Now, hI.Haze, hI.Salt, hI.Pipe, hI.Deg, hI.Thaw, hI.Trc, hI.Turb, hI.Left, hI.Load, hI.Water, hI.Trips, hI.Cell, hI.Dirt, (show ∀ j9 : Int, -1 ≤ (upZ (S.2.2 2) k v) j9 ∧ (upZ (S.2.2 2) k v) j9 ≤ 5 from upZ_rng hI.Aim hv), hI.Err, hI.Cor, hI.Brk, hI.Top, hI.Lm, hI.Rows, hI.Cols, hI.Down, hI.Right, hI.Bound, hI.Strain, hI.Price, hI.Firm, hI.E0, hI.SB, hI.SE, hI.STR, hI.TL, hI.PD⟩
theorem fc_fail {zE : Nat} {S : ST} (k v : Int) (hI : FC zE S) (hk : 0 ≤ k ∧ k < S.2.1 0) (hv : 0 ≤ v ∧ v ≤ 1) : FC zE (sA S 5 (upZ (S.2.2 5) k v)) := ⟨hI.Z, hI.Ze, hI.Tk, hI.N, hI.C, hI.Now, hI.Haze, hI.Salt, hI.Pipe, hI.Deg, hI.Thaw, hI.Trc, hI.Turb, hI.Left, hI.Load, hI.Water, hI.Trips, hI.Cell, hI.Dirt, hI.Aim, hI.Err, hI.Cor, (show ∀ j9 : Int, 0 ≤ (upZ (S.2.2 5) k v) j9 ∧ (upZ (S.2.2 5) k v) j9 ≤ 1 from upZ_rng hI.Brk hv), hI.Top, hI.Lm, hI.Rows, hI.Cols, hI.Down, hI.Right, hI.Bound, hI.Strain, hI.Price, hI.Firm, (show ∀ k9 : Int, (S.2.1 0) ≤ k9 → (S.2.2 1) k9 = 0 ∧ (S.2.2 3) k9 = 0 ∧ (S.2.2 4) k9 = 0 ∧ (upZ (S.2.2 5) k v) k9 = 0 from fun k9 q9 => by
    have q := hI.E0 k9 q9
    exact ⟨q.1, q.2.1, q.2.2.1, (upZ_n (show ¬ k9 = k by have q2 : S.2.1 0 ≤ k9 := q9; omega)).trans q.2.2.2⟩), hI.SB, hI.SE, hI.STR, hI.TL, hI.PD⟩
theorem fc_wash {zE : Nat} {S : ST} (k : Int) (hI : FC zE S) (hk : 0 ≤ k ∧ k < S.2.1 0) (hw : 3 ≤ S.2.1 13) : FC zE (sA (sI S 13 (S.2.1 13 - 3)) 1 (upZ (S.2.2 1) k 0)) := ⟨hI.Z, hI.Ze, hI.Tk, hI.N, hI.C, hI.Now, hI.Haze, hI.Salt, hI.Pipe, hI.Deg, hI.Thaw, hI.Trc, hI.Turb, hI.Left, hI.Load, (show 0 ≤ (S.2.1 13 - 3) ∧ (S.2.1 13 - 3) ≤ 1000 from by have q := hI.Water; show 0 ≤ S.2.1 13 - 3 ∧ S.2.1 13 - 3 ≤ 1000; omega), hI.Trips, hI.Cell, (show ∀ j9 : Int, 0 ≤ (upZ (S.2.2 1) k 0) j9 ∧ (upZ (S.2.2 1) k 0) j9 ≤ 9 from upZ_rng hI.Dirt (by decide)), hI.Aim, hI.Err, hI.Cor, hI.Brk, hI.Top, hI.Lm, hI.Rows, hI.Cols, hI.Down, hI.Right, hI.Bound, hI.Strain, hI.Price, hI.Firm, (show ∀ k9 : Int, (S.2.1 0) ≤ k9 → (upZ (S.2.2 1) k 0) k9 = 0 ∧ (S.2.2 3) k9 = 0 ∧ (S.2.2 4) k9 = 0 ∧ (S.2.2 5) k9 = 0 from fun k9 q9 => by
    have q := hI.E0 k9 q9
    exact ⟨(upZ_n (show ¬ k9 = k by have q2 : S.2.1 0 ≤ k9 := q9; omega)).trans q.1, q.2.1, q.2.2.1, q.2.2.2⟩), hI.SB, hI.SE, hI.STR, hI.TL, hI.PD⟩
theorem fc_haze {zE : Nat} {S : ST} (v : Int) (hI : FC zE S) (hv : 0 ≤ v ∧ v ≤ 9) : FC zE (sI S 3 v) := ⟨hI.Z, hI.Ze, hI.Tk, hI.N, hI.C, hI.Now, (show 0 ≤ v ∧ v ≤ 9 from hv), hI.Salt, hI.Pipe, hI.Deg, hI.Thaw, hI.Trc, hI.Turb, hI.Left, hI.Load, hI.Water, hI.Trips, hI.Cell, hI.Dirt, hI.Aim, hI.Err, hI.Cor, hI.Brk, hI.Top, hI.Lm, hI.Rows, hI.Cols, hI.Down, hI.Right, hI.Bound, hI.Strain, hI.Price, hI.Firm, hI.E0, hI.SB, hI.SE, hI.STR, hI.TL, hI.PD⟩
theorem fc_bound {zE : Nat} {S : ST} (k v : Int) (hI : FC zE S) (hv : 0 ≤ v ∧ v ≤ 9999) : FC zE (sA S 12 (upZ (S.2.2 12) k v)) := ⟨hI.Z, hI.Ze, hI.Tk, hI.N, hI.C, hI.Now, hI.Haze, hI.Salt, hI.Pipe, hI.Deg, hI.Thaw, hI.Trc, hI.Turb, hI.Left, hI.Load, hI.Water, hI.Trips, hI.Cell, hI.Dirt, hI.Aim, hI.Err, hI.Cor, hI.Brk, hI.Top, hI.Lm, hI.Rows, hI.Cols, hI.Down, hI.Right, (show ∀ j9 : Int, 0 ≤ (upZ (S.2.2 12) k v) j9 ∧ (upZ (S.2.2 12) k v) j9 ≤ 9999 from upZ_rng hI.Bound hv), hI.Strain, hI.Price, hI.Firm, hI.E0, hI.SB, hI.SE, hI.STR, hI.TL, hI.PD⟩
theorem fc_salt {zE : Nat} {S : ST} (u : Int) (hI : FC zE S) (hu : 1 ≤ u ∧ u ≤ 500) (h2 : ¬ 1000 < S.2.1 4 + S.2.1 5 + u) : FC zE (sI S 4 (S.2.1 4 + u)) := ⟨hI.Z, hI.Ze, hI.Tk, hI.N, hI.C, hI.Now, hI.Haze, (show 0 ≤ (S.2.1 4 + u) ∧ 0 ≤ (S.2.1 5) ∧ (S.2.1 4 + u) + (S.2.1 5) ≤ 1000 from by have q := hI.Salt; show 0 ≤ S.2.1 4 + u ∧ 0 ≤ S.2.1 5 ∧ S.2.1 4 + u + S.2.1 5 ≤ 1000; omega), hI.Pipe, hI.Deg, hI.Thaw, hI.Trc, hI.Turb, hI.Left, hI.Load, hI.Water, hI.Trips, hI.Cell, hI.Dirt, hI.Aim, hI.Err, hI.Cor, hI.Brk, hI.Top, hI.Lm, hI.Rows, hI.Cols, hI.Down, hI.Right, hI.Bound, hI.Strain, hI.Price, hI.Firm, hI.E0, hI.SB, hI.SE, hI.STR, hI.TL, hI.PD⟩
theorem fc_pipe {zE : Nat} {S : ST} (p g : Int) (hI : FC zE S) (hp : (p = 1 ∧ g = 30) ∨ (p = 0 ∧ g = 0)) : FC zE (sI (sI S 6 p) 7 g) := ⟨hI.Z, hI.Ze, hI.Tk, hI.N, hI.C, hI.Now, hI.Haze, hI.Salt, (show 0 ≤ p ∧ p ≤ 2 from by show 0 ≤ p ∧ p ≤ 2; omega), (show 0 ≤ g ∧ g ≤ 40 ∧ (p = 1 → 20 ≤ g) from by show 0 ≤ g ∧ g ≤ 40 ∧ (p = 1 → 20 ≤ g); omega), (show p = 2 → 0 ≤ (S.2.1 8) ∧ (S.2.1 8) ≤ 2 from fun q => by exfalso; have q2 : p = 2 := q; omega), hI.Trc, hI.Turb, hI.Left, hI.Load, hI.Water, hI.Trips, hI.Cell, hI.Dirt, hI.Aim, hI.Err, hI.Cor, hI.Brk, hI.Top, hI.Lm, hI.Rows, hI.Cols, hI.Down, hI.Right, hI.Bound, hI.Strain, hI.Price, hI.Firm, hI.E0, hI.SB, hI.SE, hI.STR, hI.TL, (show (p = 0 → g = 0) ∧ (p = 2 → 18 ≤ g ∧ g < 20) from by show (p = 0 → g = 0) ∧ (p = 2 → 18 ≤ g ∧ g < 20); omega)⟩
theorem fc_trace {zE : Nat} {S : ST} (v : Int) (hI : FC zE S) (hv : 0 ≤ v ∧ v ≤ 1) : FC zE (sI S 9 v) := ⟨hI.Z, hI.Ze, hI.Tk, hI.N, hI.C, hI.Now, hI.Haze, hI.Salt, hI.Pipe, hI.Deg, hI.Thaw, (show 0 ≤ v ∧ v ≤ 1 from hv), hI.Turb, hI.Left, hI.Load, hI.Water, hI.Trips, hI.Cell, hI.Dirt, hI.Aim, hI.Err, hI.Cor, hI.Brk, hI.Top, hI.Lm, hI.Rows, hI.Cols, hI.Down, hI.Right, hI.Bound, hI.Strain, hI.Price, hI.Firm, hI.E0, hI.SB, hI.SE, hI.STR, hI.TL, hI.PD⟩
theorem ld_left {a b t l : Int} (h : 0 ≤ b ∧ b ≤ 2 ∧ (a = 1 → 1 ≤ b)) (h2 : 0 ≤ a ∧ a ≤ 2) (ht : t = (if a = 0 then 1 else a)) (hl : l = (if a = 0 then 2 else b)) : 0 ≤ l ∧ l ≤ 2 ∧ (t = 1 → 1 ≤ l) := by
  rw [ht, hl]
  by_cases c : a = 0
  · rw [if_pos c, if_pos c]; omega
  · rw [if_neg c, if_neg c]; exact h
theorem fc_load {zE : Nat} {S : ST} (v t l : Int) (hI : FC zE S) (hv : 1 ≤ v ∧ v ≤ 20) (ht : t = (if S.2.1 10 = 0 then 1 else S.2.1 10)) (hl : l = (if S.2.1 10 = 0 then 2 else S.2.1 11)) : FC zE (sI (sI (sI S 12 v) 11 l) 10 t) := ⟨hI.Z, hI.Ze, hI.Tk, hI.N, hI.C, hI.Now, hI.Haze, hI.Salt, hI.Pipe, hI.Deg, hI.Thaw, hI.Trc, (show 0 ≤ t ∧ t ≤ 2 from by have q := hI.Turb; show 0 ≤ t ∧ t ≤ 2; rw [ht]; split <;> omega), (show 0 ≤ l ∧ l ≤ 2 ∧ (t = 1 → 1 ≤ l) from ld_left hI.Left hI.Turb ht hl), (show 0 ≤ v ∧ v ≤ 20 from by show 0 ≤ v ∧ v ≤ 20; omega), hI.Water, hI.Trips, hI.Cell, hI.Dirt, hI.Aim, hI.Err, hI.Cor, hI.Brk, hI.Top, hI.Lm, hI.Rows, hI.Cols, hI.Down, hI.Right, hI.Bound, hI.Strain, hI.Price, hI.Firm, hI.E0, hI.SB, hI.SE, hI.STR, (show t = 0 → v = 0 from fun q => by rw [ht] at q; exfalso; split at q <;> omega), hI.PD⟩
theorem fc_stop {zE : Nat} {S : ST} (hI : FC zE S) : FC zE (sI (sI S 10 0) 12 0) := ⟨hI.Z, hI.Ze, hI.Tk, hI.N, hI.C, hI.Now, hI.Haze, hI.Salt, hI.Pipe, hI.Deg, hI.Thaw, hI.Trc, (show 0 ≤ 0 ∧ 0 ≤ 2 from by decide), (show 0 ≤ (S.2.1 11) ∧ (S.2.1 11) ≤ 2 ∧ (0 = 1 → 1 ≤ (S.2.1 11)) from by have q := hI.Left; show 0 ≤ S.2.1 11 ∧ S.2.1 11 ≤ 2 ∧ ((0 : Int) = 1 → 1 ≤ S.2.1 11); omega), (show 0 ≤ 0 ∧ 0 ≤ 20 from by decide), hI.Water, hI.Trips, hI.Cell, hI.Dirt, hI.Aim, hI.Err, hI.Cor, hI.Brk, hI.Top, hI.Lm, hI.Rows, hI.Cols, hI.Down, hI.Right, hI.Bound, hI.Strain, hI.Price, hI.Firm, hI.E0, hI.SB, hI.SE, hI.STR, (show 0 = 0 → 0 = 0 from fun _ => rfl), hI.PD⟩
theorem fc_water {zE : Nat} {S : ST} (u : Int) (hI : FC zE S) (hu : 1 ≤ u ∧ u ≤ 500) (h2 : ¬ 1000 < S.2.1 13 + u) : FC zE (sI S 13 (S.2.1 13 + u)) := ⟨hI.Z, hI.Ze, hI.Tk, hI.N, hI.C, hI.Now, hI.Haze, hI.Salt, hI.Pipe, hI.Deg, hI.Thaw, hI.Trc, hI.Turb, hI.Left, hI.Load, (show 0 ≤ (S.2.1 13 + u) ∧ (S.2.1 13 + u) ≤ 1000 from by have q := hI.Water; show 0 ≤ S.2.1 13 + u ∧ S.2.1 13 + u ≤ 1000; omega), hI.Trips, hI.Cell, hI.Dirt, hI.Aim, hI.Err, hI.Cor, hI.Brk, hI.Top, hI.Lm, hI.Rows, hI.Cols, hI.Down, hI.Right, hI.Bound, hI.Strain, hI.Price, hI.Firm, hI.E0, hI.SB, hI.SE, hI.STR, hI.TL, hI.PD⟩
theorem fc_price {zE : Nat} {S : ST} (k v : Int) (hI : FC zE S) (hv : 0 ≤ v ∧ v ≤ 99) : FC zE (sA S 14 (upZ (S.2.2 14) k v)) := ⟨hI.Z, hI.Ze, hI.Tk, hI.N, hI.C, hI.Now, hI.Haze, hI.Salt, hI.Pipe, hI.Deg, hI.Thaw, hI.Trc, hI.Turb, hI.Left, hI.Load, hI.Water, hI.Trips, hI.Cell, hI.Dirt, hI.Aim, hI.Err, hI.Cor, hI.Brk, hI.Top, hI.Lm, hI.Rows, hI.Cols, hI.Down, hI.Right, hI.Bound, hI.Strain, (show ∀ j9 : Int, 0 ≤ (upZ (S.2.2 14) k v) j9 ∧ (upZ (S.2.2 14) k v) j9 ≤ 99 from upZ_rng hI.Price hv), hI.Firm, hI.E0, hI.SB, hI.SE, hI.STR, hI.TL, hI.PD⟩
theorem fc_firm {zE : Nat} {S : ST} (k v : Int) (hI : FC zE S) (hv : 0 ≤ v ∧ v ≤ 200) : FC zE (sA S 15 (upZ (S.2.2 15) k v)) := ⟨hI.Z, hI.Ze, hI.Tk, hI.N, hI.C, hI.Now, hI.Haze, hI.Salt, hI.Pipe, hI.Deg, hI.Thaw, hI.Trc, hI.Turb, hI.Left, hI.Load, hI.Water, hI.Trips, hI.Cell, hI.Dirt, hI.Aim, hI.Err, hI.Cor, hI.Brk, hI.Top, hI.Lm, hI.Rows, hI.Cols, hI.Down, hI.Right, hI.Bound, hI.Strain, hI.Price, (show ∀ j9 : Int, 0 ≤ (upZ (S.2.2 15) k v) j9 ∧ (upZ (S.2.2 15) k v) j9 ≤ 200 from upZ_rng hI.Firm hv), hI.E0, hI.SB, hI.SE, hI.STR, hI.TL, hI.PD⟩
theorem tk_put2 {n c : Int} {cell tk : Int → Int} (h : ∀ k : Int, 0 ≤ k → k < 64 → tk k = ocZ n cell k) (hn : 0 ≤ n) : ∀ k : Int, 0 ≤ k → k < 64 → upZ tk c 1 k = ocZ (n + 1) (upZ cell n c) k := by
  intro k h0 h1
  by_cases e : k = c
  · rw [upZ_s e]
    exact (isZ_1 ⟨n, hn, by omega, (upZ_s rfl).trans e.symm⟩).symm
  · rw [upZ_n e, h k h0 h1]
    refine isZ_c ⟨fun ⟨j, a, b, q⟩ => ⟨j, a, by omega, (upZ_n (by omega)).trans q⟩, fun ⟨j, a, b, q⟩ => ?_⟩
    by_cases e2 : j = n
    · rw [upZ_s e2] at q
      exact absurd q.symm e
    · rw [upZ_n e2] at q
      exact ⟨j, a, by omega, q⟩
def sMi (S : ST) (nz : LZ) (c : Int) : ST := sA (sA (sA (sI (sZ S nz) 0 (S.2.1 0 + 1)) 0 (upZ (S.2.2 0) (S.2.1 0) c)) 2 (upZ (S.2.2 2) (S.2.1 0) (-1))) 17 (upZ (S.2.2 17) c 1)
theorem fc_mirror {zE : Nat} {S : ST} (nz : LZ) (c : Int) (hI : FC zE S) (hc : 0 ≤ c ∧ c ≤ 63) (hn : ¬ S.2.1 0 = 12) (hz : LZok nz (S.2.1 0 + 1) (S.2.1 1) ∧ LZe nz zE) : FC zE (sMi S nz c) := ⟨(show LZok nz (S.2.1 0 + 1) (S.2.1 1) from hz.1), (show LZe nz zE from hz.2), (show ∀ j9 : Int, 0 ≤ j9 → j9 < 64 → (upZ (S.2.2 17) c 1) j9 = ocZ (S.2.1 0 + 1) (upZ (S.2.2 0) (S.2.1 0) c) j9 from tk_put2 hI.Tk hI.N.1), (show 0 ≤ (S.2.1 0 + 1) ∧ (S.2.1 0 + 1) ≤ 12 from by have q := hI.N; show 0 ≤ S.2.1 0 + 1 ∧ S.2.1 0 + 1 ≤ 12; omega), hI.C, hI.Now, hI.Haze, hI.Salt, hI.Pipe, hI.Deg, hI.Thaw, hI.Trc, hI.Turb, hI.Left, hI.Load, hI.Water, hI.Trips, (show ∀ j9 : Int, 0 ≤ (upZ (S.2.2 0) (S.2.1 0) c) j9 ∧ (upZ (S.2.2 0) (S.2.1 0) c) j9 ≤ 63 from upZ_rng hI.Cell hc), hI.Dirt, (show ∀ j9 : Int, -1 ≤ (upZ (S.2.2 2) (S.2.1 0) (-1)) j9 ∧ (upZ (S.2.2 2) (S.2.1 0) (-1)) j9 ≤ 5 from upZ_rng hI.Aim (by decide)), hI.Err, hI.Cor, hI.Brk, hI.Top, hI.Lm, hI.Rows, hI.Cols, hI.Down, hI.Right, hI.Bound, hI.Strain, hI.Price, hI.Firm, (show ∀ k9 : Int, (S.2.1 0 + 1) ≤ k9 → (S.2.2 1) k9 = 0 ∧ (S.2.2 3) k9 = 0 ∧ (S.2.2 4) k9 = 0 ∧ (S.2.2 5) k9 = 0 from fun k9 q9 => hI.E0 k9 (by have q2 : S.2.1 0 + 1 ≤ k9 := q9; omega)), hI.SB, hI.SE, hI.STR, hI.TL, hI.PD⟩
def sCl (S : ST) (nz : LZ) (r c hh w gd gr : Int) : ST := sA (sA (sA (sA (sA (sA (sI (sZ S nz) 1 (S.2.1 1 + 1)) 6 (upZ (S.2.2 6) (S.2.1 1) r)) 7 (upZ (S.2.2 7) (S.2.1 1) c)) 8 (upZ (S.2.2 8) (S.2.1 1) hh)) 9 (upZ (S.2.2 9) (S.2.1 1) w)) 10 (upZ (S.2.2 10) (S.2.1 1) gd)) 11 (upZ (S.2.2 11) (S.2.1 1) gr)
theorem fc_cloud {zE : Nat} {S : ST} (nz : LZ) (r c hh w gd gr : Int) (hI : FC zE S) (hr : (-16 ≤ r ∧ r ≤ 16) ∧ (-16 ≤ c ∧ c ≤ 16) ∧ (1 ≤ hh ∧ hh ≤ 8) ∧ (1 ≤ w ∧ w ≤ 8) ∧ (-1 ≤ gd ∧ gd ≤ 1) ∧ (-1 ≤ gr ∧ gr ≤ 1)) (hn : ¬ S.2.1 1 = 4) (hz : LZok nz (S.2.1 0) (S.2.1 1 + 1) ∧ LZe nz zE) : FC zE (sCl S nz r c hh w gd gr) := ⟨(show LZok nz (S.2.1 0) (S.2.1 1 + 1) from hz.1), (show LZe nz zE from hz.2), hI.Tk, hI.N, (show 0 ≤ (S.2.1 1 + 1) ∧ (S.2.1 1 + 1) ≤ 4 from by have q := hI.C; show 0 ≤ S.2.1 1 + 1 ∧ S.2.1 1 + 1 ≤ 4; omega), hI.Now, hI.Haze, hI.Salt, hI.Pipe, hI.Deg, hI.Thaw, hI.Trc, hI.Turb, hI.Left, hI.Load, hI.Water, hI.Trips, hI.Cell, hI.Dirt, hI.Aim, hI.Err, hI.Cor, hI.Brk, (show ∀ j9 : Int, -(16 + (S.2.1 2)) ≤ (upZ (S.2.2 6) (S.2.1 1) r) j9 ∧ (upZ (S.2.2 6) (S.2.1 1) r) j9 ≤ 16 + (S.2.1 2) from fun k9 => by
    have q := upZ_rng (i := S.2.1 1) (v := r) hI.Top (by have q := hI.Now; omega) k9
    exact q), (show ∀ j9 : Int, -(16 + (S.2.1 2)) ≤ (upZ (S.2.2 7) (S.2.1 1) c) j9 ∧ (upZ (S.2.2 7) (S.2.1 1) c) j9 ≤ 16 + (S.2.1 2) from fun k9 => by
    have q := upZ_rng (i := S.2.1 1) (v := c) hI.Lm (by have q := hI.Now; omega) k9
    exact q), (show ∀ j9 : Int, 0 ≤ (upZ (S.2.2 8) (S.2.1 1) hh) j9 ∧ (upZ (S.2.2 8) (S.2.1 1) hh) j9 ≤ 8 from upZ_rng hI.Rows (by omega)), (show ∀ j9 : Int, 0 ≤ (upZ (S.2.2 9) (S.2.1 1) w) j9 ∧ (upZ (S.2.2 9) (S.2.1 1) w) j9 ≤ 8 from upZ_rng hI.Cols (by omega)), (show ∀ j9 : Int, -1 ≤ (upZ (S.2.2 10) (S.2.1 1) gd) j9 ∧ (upZ (S.2.2 10) (S.2.1 1) gd) j9 ≤ 1 from upZ_rng hI.Down (by omega)), (show ∀ j9 : Int, -1 ≤ (upZ (S.2.2 11) (S.2.1 1) gr) j9 ∧ (upZ (S.2.2 11) (S.2.1 1) gr) j9 ≤ 1 from upZ_rng hI.Right (by omega)), hI.Bound, hI.Strain, hI.Price, hI.Firm, hI.E0, hI.SB, hI.SE, hI.STR, hI.TL, hI.PD⟩
theorem fc_clear {zE : Nat} {S : ST} (nz : LZ) (hI : FC zE S) (hz : LZok nz (S.2.1 0) 0 ∧ LZe nz zE) : FC zE (sI (sZ S nz) 1 0) := ⟨(show LZok nz (S.2.1 0) 0 from hz.1), (show LZe nz zE from hz.2), hI.Tk, hI.N, (show 0 ≤ 0 ∧ 0 ≤ 4 from by decide), hI.Now, hI.Haze, hI.Salt, hI.Pipe, hI.Deg, hI.Thaw, hI.Trc, hI.Turb, hI.Left, hI.Load, hI.Water, hI.Trips, hI.Cell, hI.Dirt, hI.Aim, hI.Err, hI.Cor, hI.Brk, hI.Top, hI.Lm, hI.Rows, hI.Cols, hI.Down, hI.Right, hI.Bound, hI.Strain, hI.Price, hI.Firm, hI.E0, hI.SB, hI.SE, hI.STR, hI.TL, hI.PD⟩
noncomputable def pwS (S : ST) (k t : Int) : Int := pwZ (S.2.1 0) (S.2.1 1) (S.2.1 2) (S.2.1 3) (S.2.2 0) (S.2.2 1) (S.2.2 6) (S.2.2 7) (S.2.2 8) (S.2.2 9) (S.2.2 10) (S.2.2 11) k t
noncomputable def ryS (S : ST) : Int → Int := ryZ (S.2.1 0) (S.2.1 1) (S.2.1 2) (S.2.1 3) (S.2.2 0) (S.2.2 1) (S.2.2 6) (S.2.2 7) (S.2.2 8) (S.2.2 9) (S.2.2 10) (S.2.2 11)
noncomputable def flS (S : ST) (p : Int) : Int := flZ (S.2.1 0) (S.2.2 2) (S.2.2 3) (S.2.2 4) (ryS S) (-1) 0 p
noncomputable def msS (S : ST) : Int := msZ (S.2.1 0) (S.2.2 2) (S.2.2 3) (S.2.2 4) (ryS S) (-1) 0
noncomputable def sfS (S : ST) : Int := sfZ (S.2.1 0) (S.2.2 2) (S.2.2 3) (S.2.2 4) (ryS S) (S.2.2 12)
noncomputable def bsS (S : ST) (set : Int) : Int × Int := bstZ set (S.2.1 0) (S.2.2 2) (S.2.2 3) (S.2.2 4) (ryS S) (S.2.2 12)
noncomputable def cvS (S : ST) (k : Int) : Int := cvZ (S.2.1 1) (S.2.2 6) (S.2.2 7) (S.2.2 8) (S.2.2 9) (S.2.2 10) (S.2.2 11) ((S.2.2 0) k) 0
noncomputable def shS (S : ST) (k : Int) : Int := shZ (S.2.1 0) (S.2.2 0) ((S.2.2 0) k) (S.2.1 2)
theorem pwS_rng {zE : Nat} {S : ST} (h : FC zE S) (k t : Int) : 0 ≤ pwS S k t ∧ pwS S k t ≤ 950 := pwZ_rng h.Haze (h.Cell k)
theorem ryS_rng {zE : Nat} {S : ST} (h : FC zE S) (k : Int) : 0 ≤ ryS S k ∧ ryS S k ≤ 95 := by
  have q := pwS_rng h k 0
  have e : ryS S k = pwS S k 0 / 10 := rfl
  omega
theorem flS_rng {zE : Nat} {S : ST} (h : FC zE S) (p : Int) : 0 ≤ flS S p ∧ flS S p ≤ 11400 := flZ_rng h.N (fun k _ _ => ryS_rng h k)
theorem msS_rng {zE : Nat} {S : ST} (h : FC zE S) : 0 ≤ msS S ∧ msS S ≤ 11400 := msZ_rng h.N (fun k _ _ => ryS_rng h k)
theorem cvS_01 (S : ST) (k : Int) : cvS S k = 0 ∨ cvS S k = 1 := isZ_01 _
theorem shS_01 (S : ST) (k : Int) : shS S k = 0 ∨ shS S k = 1 := by
  unfold shS shZ
  split <;> omega
theorem sfS_01 (S : ST) : sfS S = 0 ∨ sfS S = 1 := isZ_01 _
theorem alS6 (f : Int → Int) : alZ f = f 0 + f 1 + f 2 + f 3 + f 4 + f 5 := by
  show ((((((0 + f 0) + f 1) + f 2) + f 3) + f 4) + f 5) = _
  omega
/-- a mirror that is covered or shaded has no power -/
theorem pwS_0 {S : ST} {k : Int} (h : cvS S k = 1 ∨ shS S k = 1) : pwS S k 0 = 0 := by
  unfold pwS pwZ
  refine if_pos ?_
  rw [Int.add_zero]
  exact h
/-- the most that a power can be -/
theorem pwS_top {zE : Nat} {S : ST} (h : FC zE S) (k : Int) : pwS S k 0 ≤ 100 * (10 - S.2.1 3) := by
  have hh := h.Haze
  unfold pwS pwZ
  split
  · omega
  · have h1 := strZ_rng (S.2.1 2 + 0)
    have h2 := hdZ_rng (v := S.2.2 1 k + ((S.2.1 2 + 0) / 24 - S.2.1 2 / 24)) (a := 0) (b := 9) (by omega)
    have h3 := dstZ_rng (h.Cell k)
    generalize strZ (S.2.1 2 + 0) = a at h1 ⊢
    generalize hdZ (S.2.2 1 k + ((S.2.1 2 + 0) / 24 - S.2.1 2 / 24)) 0 9 = b at h2 ⊢
    generalize dstZ (S.2.2 0 k) = c at h3 ⊢
    generalize S.2.1 3 = e at hh ⊢
    have q1 : 0 ≤ a * (10 - e) := Int.mul_nonneg h1.1 (by omega)
    have q2 : a * (10 - e) ≤ 10 * (10 - e) := Int.mul_le_mul_of_nonneg_right h1.2 (by omega)
    have q3 : 0 ≤ a * (10 - e) * (10 - b) := Int.mul_nonneg q1 (by omega)
    have q4 : a * (10 - e) * (10 - b) ≤ 10 * (10 - e) * 10 := Int.mul_le_mul q2 (by omega) (by omega) (by omega)
    have q5 : a * (10 - e) * (10 - b) * (20 - c) ≤ 10 * (10 - e) * 10 * 20 := Int.mul_le_mul q4 (by omega) (by omega) (by omega)
    omega
/-- a power that is foretold: a tick on, it is foretold for a tick less -/
def tkTo (S S1 : ST) : Prop := S1.2.1 0 = S.2.1 0 ∧ S1.2.1 1 = S.2.1 1 ∧ S1.2.1 3 = S.2.1 3 ∧ S1.2.2 0 = S.2.2 0 ∧ S1.2.2 8 = S.2.2 8 ∧ S1.2.2 9 = S.2.2 9 ∧ S1.2.2 10 = S.2.2 10 ∧ S1.2.2 11 = S.2.2 11 ∧ S1.2.1 2 = S.2.1 2 + 1 ∧ S1.2.2 1 = (if (S.2.1 2 + 1) % 24 = 0 then diZ (S.2.2 1) (S.2.1 0) else S.2.2 1) ∧ S1.2.2 6 = drZ (S.2.2 6) (S.2.2 10) (S.2.1 1) ∧ S1.2.2 7 = drZ (S.2.2 7) (S.2.2 11) (S.2.1 1)
theorem cvZ_next {n t c : Int} {top lm rows cols down right : Int → Int} : cvZ n top lm rows cols down right c (t + 1) = cvZ n (drZ top down n) (drZ lm right n) rows cols down right c t := by
  refine isZ_c ⟨fun ⟨j, a, b, q⟩ => ⟨j, a, b, ?_⟩, fun ⟨j, a, b, q⟩ => ⟨j, a, b, ?_⟩⟩
  · have e1 : drZ top down n j = top j + down j := if_pos ⟨a, b⟩
    have e2 : drZ lm right n j = lm j + right j := if_pos ⟨a, b⟩
    unfold cvP at q ⊢
    rw [e1, e2]
    rw [Int.mul_add, Int.mul_one, Int.mul_add, Int.mul_one] at q
    omega
  · have e1 : drZ top down n j = top j + down j := if_pos ⟨a, b⟩
    have e2 : drZ lm right n j = lm j + right j := if_pos ⟨a, b⟩
    unfold cvP at q ⊢
    rw [e1, e2] at q
    rw [Int.mul_add, Int.mul_one, Int.mul_add, Int.mul_one]
    omega
theorem pwS_next {zE : Nat} {S S1 : ST} (hI : FC zE S) (h : tkTo S S1) {k t : Int} (hk : 0 ≤ k ∧ k < S.2.1 0) (ht : 0 ≤ t) : pwS S k (t + 1) = pwS S1 k t := by
  obtain ⟨h0, h1, h3, a0, a8, a9, a10, a11, h2, a1, a6, a7⟩ := h
  unfold pwS
  rw [h0, h1, h3, a0, a8, a9, a10, a11, h2, a1, a6, a7]
  unfold pwZ
  rw [cvZ_next, show S.2.1 2 + (t + 1) = S.2.1 2 + 1 + t from by omega]
  have hn := hI.Now
  have hd := hI.Dirt k
  have e : hdZ (S.2.2 1 k + ((S.2.1 2 + 1 + t) / 24 - S.2.1 2 / 24)) 0 9 = hdZ ((if (S.2.1 2 + 1) % 24 = 0 then diZ (S.2.2 1) (S.2.1 0) else S.2.2 1) k + ((S.2.1 2 + 1 + t) / 24 - (S.2.1 2 + 1) / 24)) 0 9 := by
    by_cases c : (S.2.1 2 + 1) % 24 = 0
    · rw [if_pos c]
      have e2 : diZ (S.2.2 1) (S.2.1 0) k = hdZ (S.2.2 1 k + 1) 0 9 := if_pos hk
      rw [e2]
      unfold hdZ
      omega
    · rw [if_neg c]
      unfold hdZ
      omega
  rw [e]
/-- what a tick leaves: of tkF, for the law -/
def TK (S S1 : ST) : Prop := tkTo S S1 ∧ S1.1 = S.1 ∧ (0 ≤ S1.2.1 14 - S.2.1 14 ∧ S1.2.1 14 - S.2.1 14 ≤ 1) ∧ (sfS S = 1 → S1.2.1 14 = S.2.1 14) ∧ (S.2.1 6 = 1 ∨ S1.2.2 16 5 = S.2.2 16 5) ∧ alZ (flS S) ≤ S1.2.2 16 0 - S.2.2 16 0 ∧ (S1.2.1 10 = 2 ∨ S1.2.1 5 = S.2.1 5 + S1.2.2 16 5 - S.2.2 16 5) ∧ S1.2.2 16 9 + S1.2.2 16 10 = S.2.2 16 9 + S.2.2 16 10 + S.2.2 15 (S.2.1 2 % 24) ∧ S1.2.1 4 + S1.2.1 5 = S.2.1 4 + S.2.1 5 ∧ S1.2.2 15 = S.2.2 15 ∧ S1.2.2 3 = S.2.2 3 ∧ S1.2.2 4 = S.2.2 4 ∧ S1.2.2 5 = S.2.2 5
