/-! whole numbers of the machine as integers: zI z; arrays as functions of an integer -/
def zI (z : Int) : Int32 := Int32.ofInt z
def zL (z : Int) : Int64 := Int64.ofInt z
abbrev zi (z : Int) : Value := .int (zI z)
abbrev zl (z : Int) : Value := .long (zL z)
def IA (f : Int → Int) : Nat → Int32 := fun j => zI (f j)
def LA (f : Int → Int) : Nat → Int64 := fun j => zL (f j)
def upZ (f : Int → Int) (i v : Int) : Int → Int := fun j => if j = i then v else f j
theorem upZ_s {f : Int → Int} {i j v : Int} (h : j = i) : upZ f i v j = v := by rw [upZ, if_pos h]
theorem upZ_n {f : Int → Int} {i j v : Int} (h : ¬ j = i) : upZ f i v j = f j := by rw [upZ, if_neg h]
theorem zI_add (a b : Int) : zI a + zI b = zI (a + b) := (Int32.ofInt_add a b).symm
theorem zI_sub (a b : Int) : zI a - zI b = zI (a - b) := (Int32.ofInt_sub a b).symm
theorem zI_mul (a b : Int) : zI a * zI b = zI (a * b) := (Int32.ofInt_mul a b).symm
theorem zI_neg (a : Int) : -zI a = zI (-a) := (Int32.ofInt_neg a).symm
theorem zL_add (a b : Int) : zL a + zL b = zL (a + b) := (Int64.ofInt_add a b).symm
theorem zL_sub (a b : Int) : zL a - zL b = zL (a - b) := (Int64.ofInt_sub a b).symm
theorem zL_mul (a b : Int) : zL a * zL b = zL (a * b) := (Int64.ofInt_mul a b).symm
theorem zI_of (x : Int32) : ∃ z : Int, (-2147483648 ≤ z ∧ z < 2147483648) ∧ x = zI z := by
  refine ⟨x.toInt, ⟨?_, ?_⟩, (Int32.ofInt_toInt x).symm⟩
  · have := Int32.le_toInt x; omega
  · have := Int32.toInt_lt x; omega
theorem zI_toInt {a : Int} (h : -2147483648 ≤ a ∧ a < 2147483648) : (zI a).toInt = a := Int32.toInt_ofInt_of_le (by omega) (by omega)
theorem zL_toInt {a : Int} (h : -9223372036854775808 ≤ a ∧ a < 9223372036854775808) : (zL a).toInt = a := Int64.toInt_ofInt_of_le (by omega) (by omega)
theorem zI_le {a b : Int} (h : (-2147483648 ≤ a ∧ a < 2147483648) ∧ -2147483648 ≤ b ∧ b < 2147483648) : zI a ≤ zI b ↔ a ≤ b := by
  rw [Int32.le_iff_toInt_le, zI_toInt h.1, zI_toInt h.2]
theorem zI_lt {a b : Int} (h : (-2147483648 ≤ a ∧ a < 2147483648) ∧ -2147483648 ≤ b ∧ b < 2147483648) : zI a < zI b ↔ a < b := by
  rw [Int32.lt_iff_toInt_lt, zI_toInt h.1, zI_toInt h.2]
theorem zI_eq {a b : Int} (h : (-2147483648 ≤ a ∧ a < 2147483648) ∧ -2147483648 ≤ b ∧ b < 2147483648) : zI a = zI b ↔ a = b := by
  refine ⟨fun e => ?_, fun e => by rw [e]⟩
  have := congrArg Int32.toInt e
  rwa [zI_toInt h.1, zI_toInt h.2] at this
theorem zL_eq {a b : Int} (h : (-9223372036854775808 ≤ a ∧ a < 9223372036854775808) ∧ -9223372036854775808 ≤ b ∧ b < 9223372036854775808) : zL a = zL b ↔ a = b := by
  refine ⟨fun e => ?_, fun e => by rw [e]⟩
  have := congrArg Int64.toInt e
  rwa [zL_toInt h.1, zL_toInt h.2] at this
theorem zI_0 : zI 0 = 0 := by decide
theorem minI : Int32.minValue.toInt = -2147483648 := by decide
theorem maxI : Int32.maxValue.toInt = 2147483647 := by decide
theorem zI_div {a b : Int} (ha : 0 ≤ a ∧ a < 2147483648) (hb : 0 < b ∧ b < 2147483648) : zI a / zI b = zI (a / b) := by
  have h := Int32.ofInt_tdiv (a := a) (b := b) (by rw [minI]; omega) (by rw [maxI]; omega) (by rw [minI]; omega) (by rw [maxI]; omega)
  rw [zI, zI, ← h, Int.tdiv_eq_ediv_of_nonneg ha.1]
  rfl
theorem zI_rem {a b : Int} (ha : 0 ≤ a ∧ a < 2147483648) (hb : 0 < b ∧ b < 2147483648) : zI a - zI a / zI b * zI b = zI (a % b) := by
  rw [zI_div ha hb, zI_mul, zI_sub]
  congr 1
  have := Int.emod_add_mul_ediv a b
  rw [Int.mul_comm (a / b) b]
  omega
theorem zI_l {a : Int} (h : -2147483648 ≤ a ∧ a < 2147483648) : (zI a).toInt64 = zL a := Int32.toInt64_ofInt (by rw [minI]; omega) (by rw [maxI]; omega)
theorem zI_cl {i : Int} (h : 0 ≤ i ∧ i < 2147483648) : ((zI i).toNatClampNeg : Int) = i := by
  show ((zI i).toInt.toNat : Int) = i
  rw [zI_toInt (by omega), Int.toNat_of_nonneg h.1]
theorem zI_in {i : Int} {n : Nat} (h : 0 ≤ i ∧ i < n) (hn : n ≤ 2147483648) : vp_in (zI i) n := by
  rw [vp_in_iff, zI_toInt (by omega)]
  exact h
theorem IA_at {f : Int → Int} {i : Int} (h : 0 ≤ i ∧ i < 2147483648) : IA f (zI i).toNatClampNeg = zI (f i) := by
  show zI (f _) = _
  rw [zI_cl h]
theorem LA_at {f : Int → Int} {i : Int} (h : 0 ≤ i ∧ i < 2147483648) : LA f (zI i).toNatClampNeg = zL (f i) := by
  show zL (f _) = _
  rw [zI_cl h]
theorem IA_up {f : Int → Int} {i v : Int} (h : 0 ≤ i ∧ i < 2147483648) : upd (IA f) (zI i).toNatClampNeg (zI v) = IA (upZ f i v) := by
  funext j
  have e := zI_cl h
  show (if j = _ then _ else _) = zI (if (j : Int) = i then v else f j)
  by_cases q : (j : Int) = i
  · rw [if_pos q, if_pos (by omega)]
  · rw [if_neg q, if_neg (by omega)]; rfl
theorem LA_up {f : Int → Int} {i v : Int} (h : 0 ≤ i ∧ i < 2147483648) : vp_updL (LA f) (zI i).toNatClampNeg (zL v) = LA (upZ f i v) := by
  funext j
  have e := zI_cl h
  show (if j = _ then _ else _) = zL (if (j : Int) = i then v else f j)
  by_cases q : (j : Int) = i
  · rw [if_pos q, if_pos (by omega)]
  · rw [if_neg q, if_neg (by omega)]; rfl
theorem IA_0 : (fun _ => (0 : Int32)) = IA (fun _ => 0) := by
  funext j
  exact zI_0.symm
theorem LA_0 : (fun _ => (0 : Int64)) = LA (fun _ => 0) := by
  funext j
  show (0 : Int64) = zL 0
  decide
theorem zI_nb {v : Int} (h : v = 0 ∨ v = 1) : narrow .boolean (zi v) = zi v := by rcases h with rfl | rfl <;> rfl
theorem zI_fb {v : Int} (h : v = 0 ∨ v = 1) : fits .boolean (zi v) = true := by rcases h with rfl | rfl <;> rfl
theorem zI_vb {v : Int} (h : v = 0 ∨ v = 1) : vp_nar .boolean (zI v) = zI v := by rcases h with rfl | rfl <;> rfl
section HZ
variable {p : Program} {l : Launch} {e : Env} {R : Room} {s : State} {m : MethodId} {args : Array Value} {below : List Frame} {meth : Method} {c : Code} {H : Heap} {locs : List Loc} {cells slots : Nat} {Q : State → Prop}
variable {cc : ByteArray} {pc : Nat} {ls : Array Slot} {rest : List Value}
theorem hz_iconst (hx : p.tables.exec = Jvm.exec) (hb : c.code = cc) {n : Int} (hdg : decode cc pc = .ok (.iconst n, 1)) (k : W p l e R s m args below meth c H locs cells slots Q (F0 m (pc + 1) ls (zi n :: rest))) : W p l e R s m args below meth c H locs cells slots Q (F0 m pc ls rest) := lv_iconst hx hb hdg rfl k
theorem hz_bipush (hx : p.tables.exec = Jvm.exec) (hb : c.code = cc) {n : Int} (hdg : decode cc pc = .ok (.bipush n, 2)) (hn : (Int8.ofInt n).toInt32 = Int32.ofInt n) (k : W p l e R s m args below meth c H locs cells slots Q (F0 m (pc + 2) ls (zi n :: rest))) : W p l e R s m args below meth c H locs cells slots Q (F0 m pc ls rest) := lv_bipush hx hb hdg hn k
theorem hz_sipush (hx : p.tables.exec = Jvm.exec) (hb : c.code = cc) {n : Int} (hdg : decode cc pc = .ok (.sipush n, 3)) (hn : (Int16.ofInt n).toInt32 = Int32.ofInt n) (k : W p l e R s m args below meth c H locs cells slots Q (F0 m (pc + 3) ls (zi n :: rest))) : W p l e R s m args below meth c H locs cells slots Q (F0 m pc ls rest) := lv_sipush hx hb hdg hn k
theorem hz_iadd (hx : p.tables.exec = Jvm.exec) (hb : c.code = cc) {a b : Int} (hdg : decode cc pc = .ok (.iadd, 1)) (k : W p l e R s m args below meth c H locs cells slots Q (F0 m (pc + 1) ls (zi (a + b) :: rest))) : W p l e R s m args below meth c H locs cells slots Q (F0 m pc ls (zi b :: zi a :: rest)) := lv_iadd hx hb hdg (by rw [zI_add]; exact k)
theorem hz_isub (hx : p.tables.exec = Jvm.exec) (hb : c.code = cc) {a b : Int} (hdg : decode cc pc = .ok (.isub, 1)) (k : W p l e R s m args below meth c H locs cells slots Q (F0 m (pc + 1) ls (zi (a - b) :: rest))) : W p l e R s m args below meth c H locs cells slots Q (F0 m pc ls (zi b :: zi a :: rest)) := lv_isub hx hb hdg (by rw [zI_sub]; exact k)
theorem hz_imul (hx : p.tables.exec = Jvm.exec) (hb : c.code = cc) {a b : Int} (hdg : decode cc pc = .ok (.imul, 1)) (k : W p l e R s m args below meth c H locs cells slots Q (F0 m (pc + 1) ls (zi (a * b) :: rest))) : W p l e R s m args below meth c H locs cells slots Q (F0 m pc ls (zi b :: zi a :: rest)) := lv_imul hx hb hdg (by rw [zI_mul]; exact k)
theorem hz_ineg (hx : p.tables.exec = Jvm.exec) (hb : c.code = cc) {a : Int} (hdg : decode cc pc = .ok (.ineg, 1)) (k : W p l e R s m args below meth c H locs cells slots Q (F0 m (pc + 1) ls (zi (-a) :: rest))) : W p l e R s m args below meth c H locs cells slots Q (F0 m pc ls (zi a :: rest)) := lv_ineg hx hb hdg (by rw [zI_neg]; exact k)
theorem hz_idiv (hx : p.tables.exec = Jvm.exec) (hb : c.code = cc) {a b : Int} (hdg : decode cc pc = .ok (.idiv, 1)) (h : (0 ≤ a ∧ a < 2147483648) ∧ 0 < b ∧ b < 2147483648) (k : W p l e R s m args below meth c H locs cells slots Q (F0 m (pc + 1) ls (zi (a / b) :: rest))) : W p l e R s m args below meth c H locs cells slots Q (F0 m pc ls (zi b :: zi a :: rest)) := lv_idiv hx hb hdg (fun q => by rw [← zI_0, zI_eq (by omega)] at q; omega) (by rw [zI_div h.1 h.2]; exact k)
theorem hz_irem (hx : p.tables.exec = Jvm.exec) (hb : c.code = cc) {a b : Int} (hdg : decode cc pc = .ok (.irem, 1)) (h : (0 ≤ a ∧ a < 2147483648) ∧ 0 < b ∧ b < 2147483648) (k : W p l e R s m args below meth c H locs cells slots Q (F0 m (pc + 1) ls (zi (a % b) :: rest))) : W p l e R s m args below meth c H locs cells slots Q (F0 m pc ls (zi b :: zi a :: rest)) := lv_irem hx hb hdg (fun q => by rw [← zI_0, zI_eq (by omega)] at q; omega) (by rw [zI_rem h.1 h.2]; exact k)
theorem hz_iinc (hx : p.tables.exec = Jvm.exec) (hb : c.code = cc) {i nL k : Nat} {n a v : Int} {lv lv' : List (Nat × Value)} (hdg : decode cc pc = .ok (.iinc i n, 3)) (h : lv_has ls nL lv) (hk : lv[k]? = some (i, zi a)) (hv : v = a + n) (hn : i < nL) (hl : (i, zi v) :: lv.filter (fun q => !(q.1 == i) && !(q.1 + 1 == i && q.2.category == 2)) = lv') (kk : ∀ ls' : Array Slot, lv_has ls' nL lv' → W p l e R s m args below meth c H locs cells slots Q (F0 m (pc + 3) ls' rest)) : W p l e R s m args below meth c H locs cells slots Q (F0 m pc ls rest) := lv_iinc hx hb hdg h hk (by rw [hv]; exact zI_add a n) hn hl kk
theorem hz_if_eq (hx : p.tables.exec = Jvm.exec) (hb : c.code = cc) {a : Int} {off : Int} {tgt : Nat} (hdg : decode cc pc = .ok (.ifCond .eq off, 3)) (ht : (pc : Int) + off = (tgt : Int)) (h : -2147483648 ≤ a ∧ a < 2147483648) (kt : a = 0 → W p l e R s m args below meth c H locs cells slots Q (F0 m tgt ls rest)) (kf : ¬ a = 0 → W p l e R s m args below meth c H locs cells slots Q (F0 m (pc + 3) ls rest)) : W p l e R s m args below meth c H locs cells slots Q (F0 m pc ls (zi a :: rest)) := by
  have q : zI a = 0 ↔ a = 0 := by rw [← zI_0]; exact zI_eq (by omega)
  exact lv_if_eq hx hb hdg ht (fun z => kt (q.mp z)) (fun z => kf (fun y => z (q.mpr y)))
theorem hz_if_ne (hx : p.tables.exec = Jvm.exec) (hb : c.code = cc) {a : Int} {off : Int} {tgt : Nat} (hdg : decode cc pc = .ok (.ifCond .ne off, 3)) (ht : (pc : Int) + off = (tgt : Int)) (h : -2147483648 ≤ a ∧ a < 2147483648) (kt : ¬ a = 0 → W p l e R s m args below meth c H locs cells slots Q (F0 m tgt ls rest)) (kf : a = 0 → W p l e R s m args below meth c H locs cells slots Q (F0 m (pc + 3) ls rest)) : W p l e R s m args below meth c H locs cells slots Q (F0 m pc ls (zi a :: rest)) := by
  have q : zI a = 0 ↔ a = 0 := by rw [← zI_0]; exact zI_eq (by omega)
  exact lv_if_ne hx hb hdg ht (fun z => kt (fun y => z (q.mpr y))) (fun z => kf (q.mp z))
theorem hz_if_lt (hx : p.tables.exec = Jvm.exec) (hb : c.code = cc) {a : Int} {off : Int} {tgt : Nat} (hdg : decode cc pc = .ok (.ifCond .lt off, 3)) (ht : (pc : Int) + off = (tgt : Int)) (h : -2147483648 ≤ a ∧ a < 2147483648) (kt : a < 0 → W p l e R s m args below meth c H locs cells slots Q (F0 m tgt ls rest)) (kf : ¬ a < 0 → W p l e R s m args below meth c H locs cells slots Q (F0 m (pc + 3) ls rest)) : W p l e R s m args below meth c H locs cells slots Q (F0 m pc ls (zi a :: rest)) := by
  have q : zI a < 0 ↔ a < 0 := by rw [← zI_0]; exact zI_lt (by omega)
  exact lv_if_lt hx hb hdg ht (fun z => kt (q.mp z)) (fun z => kf (fun y => z (q.mpr y)))
theorem hz_if_ge (hx : p.tables.exec = Jvm.exec) (hb : c.code = cc) {a : Int} {off : Int} {tgt : Nat} (hdg : decode cc pc = .ok (.ifCond .ge off, 3)) (ht : (pc : Int) + off = (tgt : Int)) (h : -2147483648 ≤ a ∧ a < 2147483648) (kt : 0 ≤ a → W p l e R s m args below meth c H locs cells slots Q (F0 m tgt ls rest)) (kf : ¬ 0 ≤ a → W p l e R s m args below meth c H locs cells slots Q (F0 m (pc + 3) ls rest)) : W p l e R s m args below meth c H locs cells slots Q (F0 m pc ls (zi a :: rest)) := by
  have q : 0 ≤ zI a ↔ 0 ≤ a := by rw [← zI_0]; exact zI_le (by omega)
  exact lv_if_ge hx hb hdg ht (fun z => kt (q.mp z)) (fun z => kf (fun y => z (q.mpr y)))
theorem hz_if_gt (hx : p.tables.exec = Jvm.exec) (hb : c.code = cc) {a : Int} {off : Int} {tgt : Nat} (hdg : decode cc pc = .ok (.ifCond .gt off, 3)) (ht : (pc : Int) + off = (tgt : Int)) (h : -2147483648 ≤ a ∧ a < 2147483648) (kt : 0 < a → W p l e R s m args below meth c H locs cells slots Q (F0 m tgt ls rest)) (kf : ¬ 0 < a → W p l e R s m args below meth c H locs cells slots Q (F0 m (pc + 3) ls rest)) : W p l e R s m args below meth c H locs cells slots Q (F0 m pc ls (zi a :: rest)) := by
  have q : 0 < zI a ↔ 0 < a := by rw [← zI_0]; exact zI_lt (by omega)
  exact lv_if_gt hx hb hdg ht (fun z => kt (q.mp z)) (fun z => kf (fun y => z (q.mpr y)))
theorem hz_if_le (hx : p.tables.exec = Jvm.exec) (hb : c.code = cc) {a : Int} {off : Int} {tgt : Nat} (hdg : decode cc pc = .ok (.ifCond .le off, 3)) (ht : (pc : Int) + off = (tgt : Int)) (h : -2147483648 ≤ a ∧ a < 2147483648) (kt : a ≤ 0 → W p l e R s m args below meth c H locs cells slots Q (F0 m tgt ls rest)) (kf : ¬ a ≤ 0 → W p l e R s m args below meth c H locs cells slots Q (F0 m (pc + 3) ls rest)) : W p l e R s m args below meth c H locs cells slots Q (F0 m pc ls (zi a :: rest)) := by
  have q : zI a ≤ 0 ↔ a ≤ 0 := by rw [← zI_0]; exact zI_le (by omega)
  exact lv_if_le hx hb hdg ht (fun z => kt (q.mp z)) (fun z => kf (fun y => z (q.mpr y)))
theorem hz_icmp_eq (hx : p.tables.exec = Jvm.exec) (hb : c.code = cc) {a b : Int} {off : Int} {tgt : Nat} (hdg : decode cc pc = .ok (.if_icmp .eq off, 3)) (ht : (pc : Int) + off = (tgt : Int)) (h : (-2147483648 ≤ a ∧ a < 2147483648) ∧ -2147483648 ≤ b ∧ b < 2147483648) (kt : a = b → W p l e R s m args below meth c H locs cells slots Q (F0 m tgt ls rest)) (kf : ¬ a = b → W p l e R s m args below meth c H locs cells slots Q (F0 m (pc + 3) ls rest)) : W p l e R s m args below meth c H locs cells slots Q (F0 m pc ls (zi b :: zi a :: rest)) :=
  lv_icmp_eq hx hb hdg ht (fun z => kt ((zI_eq h).mp z)) (fun z => kf (fun y => z ((zI_eq h).mpr y)))
theorem hz_icmp_ne (hx : p.tables.exec = Jvm.exec) (hb : c.code = cc) {a b : Int} {off : Int} {tgt : Nat} (hdg : decode cc pc = .ok (.if_icmp .ne off, 3)) (ht : (pc : Int) + off = (tgt : Int)) (h : (-2147483648 ≤ a ∧ a < 2147483648) ∧ -2147483648 ≤ b ∧ b < 2147483648) (kt : ¬ a = b → W p l e R s m args below meth c H locs cells slots Q (F0 m tgt ls rest)) (kf : a = b → W p l e R s m args below meth c H locs cells slots Q (F0 m (pc + 3) ls rest)) : W p l e R s m args below meth c H locs cells slots Q (F0 m pc ls (zi b :: zi a :: rest)) :=
  lv_icmp_ne hx hb hdg ht (fun z => kt (fun y => z ((zI_eq h).mpr y))) (fun z => kf ((zI_eq h).mp z))
theorem hz_icmp_lt (hx : p.tables.exec = Jvm.exec) (hb : c.code = cc) {a b : Int} {off : Int} {tgt : Nat} (hdg : decode cc pc = .ok (.if_icmp .lt off, 3)) (ht : (pc : Int) + off = (tgt : Int)) (h : (-2147483648 ≤ a ∧ a < 2147483648) ∧ -2147483648 ≤ b ∧ b < 2147483648) (kt : a < b → W p l e R s m args below meth c H locs cells slots Q (F0 m tgt ls rest)) (kf : ¬ a < b → W p l e R s m args below meth c H locs cells slots Q (F0 m (pc + 3) ls rest)) : W p l e R s m args below meth c H locs cells slots Q (F0 m pc ls (zi b :: zi a :: rest)) :=
  lv_icmp_lt hx hb hdg ht (fun z => kt ((zI_lt h).mp z)) (fun z => kf (fun y => z ((zI_lt h).mpr y)))
theorem hz_icmp_ge (hx : p.tables.exec = Jvm.exec) (hb : c.code = cc) {a b : Int} {off : Int} {tgt : Nat} (hdg : decode cc pc = .ok (.if_icmp .ge off, 3)) (ht : (pc : Int) + off = (tgt : Int)) (h : (-2147483648 ≤ a ∧ a < 2147483648) ∧ -2147483648 ≤ b ∧ b < 2147483648) (kt : b ≤ a → W p l e R s m args below meth c H locs cells slots Q (F0 m tgt ls rest)) (kf : ¬ b ≤ a → W p l e R s m args below meth c H locs cells slots Q (F0 m (pc + 3) ls rest)) : W p l e R s m args below meth c H locs cells slots Q (F0 m pc ls (zi b :: zi a :: rest)) :=
  lv_icmp_ge hx hb hdg ht (fun z => kt ((zI_le ⟨h.2, h.1⟩).mp z)) (fun z => kf (fun y => z ((zI_le ⟨h.2, h.1⟩).mpr y)))
theorem hz_icmp_gt (hx : p.tables.exec = Jvm.exec) (hb : c.code = cc) {a b : Int} {off : Int} {tgt : Nat} (hdg : decode cc pc = .ok (.if_icmp .gt off, 3)) (ht : (pc : Int) + off = (tgt : Int)) (h : (-2147483648 ≤ a ∧ a < 2147483648) ∧ -2147483648 ≤ b ∧ b < 2147483648) (kt : b < a → W p l e R s m args below meth c H locs cells slots Q (F0 m tgt ls rest)) (kf : ¬ b < a → W p l e R s m args below meth c H locs cells slots Q (F0 m (pc + 3) ls rest)) : W p l e R s m args below meth c H locs cells slots Q (F0 m pc ls (zi b :: zi a :: rest)) :=
  lv_icmp_gt hx hb hdg ht (fun z => kt ((zI_lt ⟨h.2, h.1⟩).mp z)) (fun z => kf (fun y => z ((zI_lt ⟨h.2, h.1⟩).mpr y)))
theorem hz_icmp_le (hx : p.tables.exec = Jvm.exec) (hb : c.code = cc) {a b : Int} {off : Int} {tgt : Nat} (hdg : decode cc pc = .ok (.if_icmp .le off, 3)) (ht : (pc : Int) + off = (tgt : Int)) (h : (-2147483648 ≤ a ∧ a < 2147483648) ∧ -2147483648 ≤ b ∧ b < 2147483648) (kt : a ≤ b → W p l e R s m args below meth c H locs cells slots Q (F0 m tgt ls rest)) (kf : ¬ a ≤ b → W p l e R s m args below meth c H locs cells slots Q (F0 m (pc + 3) ls rest)) : W p l e R s m args below meth c H locs cells slots Q (F0 m pc ls (zi b :: zi a :: rest)) :=
  lv_icmp_le hx hb hdg ht (fun z => kt ((zI_le h).mp z)) (fun z => kf (fun y => z ((zI_le h).mpr y)))
theorem hz_i2l (hx : p.tables.exec = Jvm.exec) (hb : c.code = cc) {a : Int} (hdg : decode cc pc = .ok (.i2l, 1)) (h : -2147483648 ≤ a ∧ a < 2147483648) (k : W p l e R s m args below meth c H locs cells slots Q (F0 m (pc + 1) ls (zl a :: rest))) : W p l e R s m args below meth c H locs cells slots Q (F0 m pc ls (zi a :: rest)) := lv_i2l hx hb hdg (zI_l h) k
theorem hz_ladd (hx : p.tables.exec = Jvm.exec) (hb : c.code = cc) {a b : Int} (hdg : decode cc pc = .ok (.ladd, 1)) (k : W p l e R s m args below meth c H locs cells slots Q (F0 m (pc + 1) ls (zl (a + b) :: rest))) : W p l e R s m args below meth c H locs cells slots Q (F0 m pc ls (zl b :: zl a :: rest)) := lv_ladd hx hb hdg (by rw [zL_add]; exact k)
theorem hz_lsub (hx : p.tables.exec = Jvm.exec) (hb : c.code = cc) {a b : Int} (hdg : decode cc pc = .ok (.lsub, 1)) (k : W p l e R s m args below meth c H locs cells slots Q (F0 m (pc + 1) ls (zl (a - b) :: rest))) : W p l e R s m args below meth c H locs cells slots Q (F0 m pc ls (zl b :: zl a :: rest)) := lv_lsub hx hb hdg (by rw [zL_sub]; exact k)
theorem hz_lmul (hx : p.tables.exec = Jvm.exec) (hb : c.code = cc) {a b : Int} (hdg : decode cc pc = .ok (.lmul, 1)) (k : W p l e R s m args below meth c H locs cells slots Q (F0 m (pc + 1) ls (zl (a * b) :: rest))) : W p l e R s m args below meth c H locs cells slots Q (F0 m pc ls (zl b :: zl a :: rest)) := lv_lmul hx hb hdg (by rw [zL_mul]; exact k)
end HZ
section HA
variable {p : Program} {l : Launch} {e : Env} {R : Room} {s : State} {m : MethodId} {args : Array Value} {below : List Frame} {meth : Method} {c : Code} {H : Heap} {locs : List Loc} {cells slots : Nat} {Q : State → Prop}
variable {cc : ByteArray} {pc : Nat} {ls : Array Slot} {rest : List Value} {D : va_G} {cl : List vw_C} {A : Nat → Prop} {a : Nat} {tys : List (ClassId × FieldType)} {ws : va_W} {H0 : Heap}
theorem hz_iald (hx : p.tables.exec = Jvm.exec) (hb : c.code = cc) (hK : va_K D cl tys s) (hP : va_P D cl ws H) (q0 t0 : Nat) {cA : ClassId} {n : Nat} {f : Int → Int} (ha : ws[q0]? = some (a, .inl (cA, n, .inl (IA f)))) (ht : tys[t0]? = some (cA, .int)) {i : Int} (hn : n ≤ 2147483648) (hi : 0 ≤ i ∧ i < n) (hdg : decode cc pc = .ok (.iaload, 1))
    (kk : W p l e R s m args below meth c H locs cells slots Q (F0 m (pc + 1) ls (zi (f i) :: rest))) : W p l e R s m args below meth c H locs cells slots Q (F0 m pc ls (zi i :: .ref a :: rest)) :=
  va_iald hx hb hK hP q0 t0 ha ht (zI_in hi hn) hdg (by rw [IA_at (by omega)]; exact kk)
theorem hz_zald (hx : p.tables.exec = Jvm.exec) (hb : c.code = cc) (hK : va_K D cl tys s) (hP : va_P D cl ws H) (q0 t0 : Nat) {cA : ClassId} {n : Nat} {f : Int → Int} (ha : ws[q0]? = some (a, .inl (cA, n, .inl (IA f)))) (ht : tys[t0]? = some (cA, .boolean)) {i : Int} (hn : n ≤ 2147483648) (hi : 0 ≤ i ∧ i < n) (hdg : decode cc pc = .ok (.baload, 1))
    (kk : W p l e R s m args below meth c H locs cells slots Q (F0 m (pc + 1) ls (zi (f i) :: rest))) : W p l e R s m args below meth c H locs cells slots Q (F0 m pc ls (zi i :: .ref a :: rest)) :=
  va_zald hx hb hK hP q0 t0 ha ht (zI_in hi hn) hdg (by rw [IA_at (by omega)]; exact kk)
theorem hz_lald (hx : p.tables.exec = Jvm.exec) (hb : c.code = cc) (hK : va_K D cl tys s) (hP : va_P D cl ws H) (q0 t0 : Nat) {cA : ClassId} {n : Nat} {f : Int → Int} (ha : ws[q0]? = some (a, .inl (cA, n, .inr (.inl (LA f))))) (ht : tys[t0]? = some (cA, .long)) {i : Int} (hn : n ≤ 2147483648) (hi : 0 ≤ i ∧ i < n) (hdg : decode cc pc = .ok (.laload, 1))
    (kk : W p l e R s m args below meth c H locs cells slots Q (F0 m (pc + 1) ls (zl (f i) :: rest))) : W p l e R s m args below meth c H locs cells slots Q (F0 m pc ls (zi i :: .ref a :: rest)) :=
  va_lald hx hb hK hP q0 t0 ha ht (zI_in hi hn) hdg (by rw [LA_at (by omega)]; exact kk)
theorem hz_iast (hx : p.tables.exec = Jvm.exec) (hb : c.code = cc) (hK : va_K D cl tys s) (hP : va_P D cl ws H) (hD : va_D A ws) (hS : va_S A H0 H locs) (q0 t0 : Nat) {cA : ClassId} {n : Nat} {f : Int → Int} (ha : ws[q0]? = some (a, .inl (cA, n, .inl (IA f)))) (ht : tys[t0]? = some (cA, .int)) {i v : Int} (hn : n ≤ 2147483648) (hi : 0 ≤ i ∧ i < n) (hdg : decode cc pc = .ok (.iastore, 1))
    (kk : ∀ (H1 : Heap) (locs1 : List Loc), va_P D cl (ws.set q0 (a, .inl (cA, n, .inl (IA (upZ f i v))))) H1 → va_D A (ws.set q0 (a, .inl (cA, n, .inl (IA (upZ f i v))))) → va_S A H0 H1 locs1 → W p l e R s m args below meth c H1 locs1 cells slots Q (F0 m (pc + 1) ls rest)) : W p l e R s m args below meth c H locs cells slots Q (F0 m pc ls (zi v :: zi i :: .ref a :: rest)) :=
  va_iast hx hb hK hP hD hS q0 t0 ha ht (zI_in hi hn) hdg (by rw [IA_up (by omega)]; exact kk)
theorem hz_zast (hx : p.tables.exec = Jvm.exec) (hb : c.code = cc) (hK : va_K D cl tys s) (hP : va_P D cl ws H) (hD : va_D A ws) (hS : va_S A H0 H locs) (q0 t0 : Nat) {cA : ClassId} {n : Nat} {f : Int → Int} (ha : ws[q0]? = some (a, .inl (cA, n, .inl (IA f)))) (ht : tys[t0]? = some (cA, .boolean)) {i v : Int} (hn : n ≤ 2147483648) (hi : 0 ≤ i ∧ i < n) (hv : v = 0 ∨ v = 1) (hdg : decode cc pc = .ok (.bastore, 1))
    (kk : ∀ (H1 : Heap) (locs1 : List Loc), va_P D cl (ws.set q0 (a, .inl (cA, n, .inl (IA (upZ f i v))))) H1 → va_D A (ws.set q0 (a, .inl (cA, n, .inl (IA (upZ f i v))))) → va_S A H0 H1 locs1 → W p l e R s m args below meth c H1 locs1 cells slots Q (F0 m (pc + 1) ls rest)) : W p l e R s m args below meth c H locs cells slots Q (F0 m pc ls (zi v :: zi i :: .ref a :: rest)) :=
  va_zast hx hb hK hP hD hS q0 t0 ha ht (zI_in hi hn) hdg (by rw [zI_vb hv, IA_up (by omega)]; exact kk)
theorem hz_last (hx : p.tables.exec = Jvm.exec) (hb : c.code = cc) (hK : va_K D cl tys s) (hP : va_P D cl ws H) (hD : va_D A ws) (hS : va_S A H0 H locs) (q0 t0 : Nat) {cA : ClassId} {n : Nat} {f : Int → Int} (ha : ws[q0]? = some (a, .inl (cA, n, .inr (.inl (LA f))))) (ht : tys[t0]? = some (cA, .long)) {i v : Int} (hn : n ≤ 2147483648) (hi : 0 ≤ i ∧ i < n) (hdg : decode cc pc = .ok (.lastore, 1))
    (kk : ∀ (H1 : Heap) (locs1 : List Loc), va_P D cl (ws.set q0 (a, .inl (cA, n, .inr (.inl (LA (upZ f i v)))))) H1 → va_D A (ws.set q0 (a, .inl (cA, n, .inr (.inl (LA (upZ f i v)))))) → va_S A H0 H1 locs1 → W p l e R s m args below meth c H1 locs1 cells slots Q (F0 m (pc + 1) ls rest)) : W p l e R s m args below meth c H locs cells slots Q (F0 m pc ls (zl v :: zi i :: .ref a :: rest)) :=
  va_last hx hb hK hP hD hS q0 t0 ha ht (zI_in hi hn) hdg (by rw [LA_up (by omega)]; exact kk)
end HA
/-! the frame of a call: the callee's cells at the places 'is', the same addresses behind it -/
def setL (ws : va_W) : List Nat → va_W → va_W
  | i :: is, x :: xs => setL (ws.set i x) is xs
  | _, _ => ws
theorem hz_Dc {A : Nat → Prop} {ws ws' : va_W} (h : va_D A ws) (e : ws'.map Prod.fst = ws.map Prod.fst) : va_D A ws' := by
  have key : ∀ (k : Nat) (q : Nat × va_E), ws'[k]? = some q → ∃ q', ws[k]? = some q' ∧ q'.1 = q.1 := by
    intro k q hk
    have h1 : (ws'.map Prod.fst)[k]? = some q.1 := by rw [List.getElem?_map, hk]; rfl
    rw [e, List.getElem?_map] at h1
    cases hw : ws[k]? with
    | none => rw [hw] at h1; cases h1
    | some q' => rw [hw] at h1; exact ⟨q', rfl, Option.some.inj h1⟩
  refine ⟨fun i j p q hi hj hpq => ?_, fun k q hk => ?_⟩
  · obtain ⟨p', hp', ep⟩ := key i p hi
    obtain ⟨q', hq', eq⟩ := key j q hj
    exact h.1 i j p' q' hp' hq' (by rw [ep, eq, hpq])
  · obtain ⟨q', hq', eq⟩ := key k q hk
    rw [← eq]
    exact h.2 k q' hq'
theorem setL_at : ∀ (is : List Nat) (xs ws : va_W) (k : Nat) (q : Nat × va_E), (setL ws is xs)[k]? = some q → (∃ j : Nat, is[j]? = some k ∧ xs[j]? = some q) ∨ (ws[k]? = some q ∧ ∀ j : Nat, is[j]? = some k → xs.length ≤ j)
  | [], xs, ws, k, q, h => Or.inr ⟨by cases xs <;> exact h, fun j hj => by simp at hj⟩
  | i :: is, [], ws, k, q, h => Or.inr ⟨h, fun j _ => Nat.zero_le j⟩
  | i :: is, x :: xs, ws, k, q, h => by
    rcases setL_at is xs (ws.set i x) k q h with ⟨j, h1, h2⟩ | ⟨h1, h2⟩
    · exact Or.inl ⟨j + 1, h1, h2⟩
    · by_cases e : i = k
      · subst e
        have hlt : i < ws.length := by
          have := (List.getElem?_eq_some_iff.mp h1).1
          simpa using this
        rw [List.getElem?_set_self hlt] at h1
        exact Or.inl ⟨0, rfl, h1⟩
      · rw [List.getElem?_set_ne e] at h1
        refine Or.inr ⟨h1, fun j hj => ?_⟩
        cases j with
        | zero => exact absurd (Option.some.inj hj) e
        | succ j => exact Nat.succ_le_succ (h2 j hj)
theorem setL_fst : ∀ (is : List Nat) (xs ws wc : va_W), is.map (fun i => ws[i]?) = wc.map some → va_nd is = true → xs.map Prod.fst = wc.map Prod.fst → (setL ws is xs).map Prod.fst = ws.map Prod.fst
  | [], xs, ws, wc, _, _, _ => by cases xs <;> rfl
  | i :: is, [], ws, wc, _, _, _ => rfl
  | i :: is, x :: xs, ws, [], h, _, _ => by simp at h
  | i :: is, x :: xs, ws, y :: wc, h, hn, he => by
    simp only [List.map_cons, List.cons.injEq] at h he
    simp only [va_nd, Bool.and_eq_true, decide_eq_true_eq] at hn
    have h2 : is.map (fun j => (ws.set i x)[j]?) = wc.map some := by
      rw [← h.2]
      refine List.map_congr_left fun j hj => ?_
      rw [List.getElem?_set_ne (fun (e : i = j) => hn.1 (by rw [e]; exact hj))]
    show (setL (ws.set i x) is xs).map Prod.fst = _
    rw [setL_fst is xs (ws.set i x) wc h2 hn.2 he.2, List.map_set]
    refine List.ext_getElem? fun k => ?_
    by_cases e : i = k
    · subst e
      have hlt : i < ws.length := (List.getElem?_eq_some_iff.mp h.1).1
      rw [List.getElem?_set_self (by simpa using hlt), List.getElem?_map, h.1, he.1]
      rfl
    · rw [List.getElem?_set_ne e]
theorem hz_frame {D : va_G} {cl : List vw_C} {A : Nat → Prop} {ws wc w1 : va_W} {H H1 : Heap} (hP : va_P D cl ws H) (hD : va_D A ws) (is : List Nat) (hC : is.map (fun i => ws[i]?) = wc.map some) (hn : va_nd is = true)
    (hk : ∀ q : Nat, q < H.size → ¬ va_A wc H.size q → H1[q]? = H[q]?) (hP1 : va_P D cl w1 H1) (he : w1.map Prod.fst = wc.map Prod.fst) : va_P D cl (setL ws is w1) H1 ∧ va_D A (setL ws is w1) := by
  refine ⟨fun k q hq => ?_, hz_Dc hD (setL_fst is w1 ws wc hC hn he)⟩
  rcases setL_at is w1 ws k q hq with ⟨j, h1, h2⟩ | ⟨h1, h2⟩
  · exact hP1 j q h2
  · refine (hP k q h1).kept (hk q.1 (hP k q h1).lt ?_)
    rintro (⟨j, e, hj⟩ | h3)
    · have h4 : (is.map (fun i => ws[i]?))[j]? = some (some (q.1, e)) := by rw [hC, List.getElem?_map, hj]; rfl
      rw [List.getElem?_map] at h4
      cases hi : is[j]? with
      | none => rw [hi] at h4; cases h4
      | some i =>
        rw [hi] at h4
        have h5 : ws[i]? = some (q.1, e) := Option.some.inj h4
        have h6 := hD.1 i k (q.1, e) q h5 h1 rfl
        subst h6
        have h7 := h2 j hi
        have h8 : j < wc.length := (List.getElem?_eq_some_iff.mp hj).1
        have h9 : w1.length = wc.length := by simpa using congrArg List.length he
        omega
    · have := (hP k q h1).lt
      omega
abbrev HPre (D : va_G) (tys : List (ClassId × FieldType)) (ws : va_W) (sz : Nat) : State → Prop := fun U => U.heap.size = sz ∧ va_P D vwCl ws U.heap ∧ va_K D vwCl tys U ∧ va_D (fun _ => True) ws
theorem hz_blind {av : List Value} {D : va_G} {tys : List (ClassId × FieldType)} {ws : va_W} {sz : Nat} : FrameBlind (va_Pc av (HPre D tys ws sz)) := fun a U g mk q => by
  obtain ⟨q0, q1, qP, qK, qD⟩ := q
  exact ⟨q0, q1, qP, va_K.moved (u := U) (U := U.calling g mk a) (Vm.Alike.refl U.vm) qK, qD⟩
theorem hz_pre {av : List Value} {D : va_G} {tys tys' : List (ClassId × FieldType)} {ws wc : va_W} {H : Heap} {s : State} {A : Nat → Prop} (hP : va_P D vwCl ws H) (hK : va_K D vwCl tys s) (hD : va_D A ws) (is ts : List Nat) (hC : is.map (fun i => ws[i]?) = wc.map some) (hn : va_nd is = true) (hT : ts.filterMap (fun i => tys[i]?) = tys') : ∀ U : State, U.heap = H → s.WarmedH U.vm → va_Pc av (HPre D tys' wc H.size) av.toArray U := by
  intro U hU hW
  have hC2 : is.filterMap (fun i => ws[i]?) = wc := by
    have := congrArg (fun x => x.filterMap id) hC
    simpa [List.filterMap_map, Function.comp_def] using this
  exact ⟨rfl, by rw [hU], by rw [hU]; exact hP.sub is hC2, va_K.moved hW.alike (hK.sub ts hT), (hD.sub is hn hC).weaken (fun _ _ _ _ => trivial)⟩
theorem hz_pre2 {av : List Value} {D : va_G} {tys tys' : List (ClassId × FieldType)} {ws wc : va_W} {H : Heap} {s : State} {A : Nat → Prop} (hP : va_P D vwCl ws H) (hK : va_K D vwCl tys s) (hD : va_D A ws) (is ts : List Nat) (hC : is.map (fun i => ws[i]?) = wc.map some) (hn : va_nd is = true) (hT : ts.filterMap (fun i => tys[i]?) = tys') : ∀ U : State, U.heap = H → s.WarmedH U.vm → va_Pc av (HPre D tys' wc H.size) av.toArray U := hz_pre hP hK hD is ts hC hn hT
section HC
variable {p : Program} {l : Launch} {e : Env} {R : Room} {s : State} {m : MethodId} {args : Array Value} {below : List Frame} {meth : Method} {c : Code} {H : Heap} {locs : List Loc} {cells slots : Nat} {Q : State → Prop}
variable {cc bytes : ByteArray} {pc nL maxL index n : Nat} {ls : Array Slot} {rest st0 As : List Value} {D : va_G} {A : Nat → Prop} {b : Nat} {tys tys' : List (ClassId × FieldType)} {ws wc : va_W} {H0 : Heap} {Ts wz : List Cond} {own C : String} {y : MethodName} {ret : Option FieldType} {rm : Room} {cq : vw_C} {fs : List Value}
theorem hz_callVi {S : Type} {g : S → Int} {φ : S → Prop} {w1 : S → va_W} (fx : CallFix p m c cc nL s args Ts own) (hM : Met l y wz rm (va_Pc (.ref b :: As) (HPre D tys' wc H.size)) (va_Qi (fun (r : Int32) (u : S) => r = zI (g u) ∧ φ u) (fun u t => va_P D vwCl (w1 u) t.heap) (va_A wc H.size)) 0 0 (va_A wc H.size)) (cw : CallW R s args own C index y bytes maxL ret wz rm 0 0 n)
    (hP : va_P D vwCl ws H) (hK : va_K D vwCl tys s) (hD : va_D A ws) (hS : va_S A H0 H locs) (hA : ∀ q, H0.size ≤ q → A q) (is ts : List Nat) (hC : is.map (fun i => ws[i]?) = wc.map some) (hn : va_nd is = true) (hT : ts.filterMap (fun i => tys[i]?) = tys') (q0 ci : Nat) (hcl : vwCl[ci]? = some cq) (hCe : cq.1 = C) (hb0 : ws[q0]? = some (b, .inr (ci, fs)))
    (hAs : As.length = n) (hsize : ls.size = nL) (hst : st0 = As.reverse ++ .ref b :: rest) (hW : (rest.map fun v => v.category).sum ≤ 8) (hdg : decode cc pc = .ok (.invokevirtual index, 3)) (hroom : cells + 0 ≤ R.cells ∧ slots + 0 ≤ R.slots) (he : ∀ u, (w1 u).map Prod.fst = wc.map Prod.fst)
    (kk : ∀ (u : S) (H1 : Heap) (locs1 : List Loc), φ u → va_P D vwCl (setL ws is (w1 u)) H1 → va_D A (setL ws is (w1 u)) → va_S A H0 H1 locs1 → W p l e R s m args below meth c H1 locs1 cells slots Q (F0 m (pc + 3) ls (zi (g u) :: rest))) : W p l e R s m args below meth c H locs cells slots Q (F0 m pc ls st0) := by
  have hF := va_free hD hS hA is hC
  refine va_calli (va_runV (As := As) (rest := rest) fx hM cw ⟨hz_blind, by rw [← hCe]; exact va_recv hK hP hcl hb0, hz_pre hP hK hD is ts hC hn hT⟩ rfl hAs hsize hst (lv_room hW) hdg hroom) hS (fun q _ h => hF q h) hF (fun r u t H1 locs1 ht hvm hw hB hz1 hk1 hS1 => ?_)
  obtain ⟨rfl, hφ⟩ := hw
  rw [ht] at hB
  have h9 := hz_frame hP hD is hC hn hk1 hB (he u)
  exact kk u H1 locs1 hφ h9.1 h9.2 hS1
theorem hz_callVv {S : Type} {φ : S → Prop} {w1 : S → va_W} (fx : CallFix p m c cc nL s args Ts own) (hM : Met l y wz rm (va_Pc (.ref b :: As) (HPre D tys' wc H.size)) (va_Qv φ (fun u t => va_P D vwCl (w1 u) t.heap) (va_A wc H.size)) 0 0 (va_A wc H.size)) (cw : CallW R s args own C index y bytes maxL ret wz rm 0 0 n)
    (hP : va_P D vwCl ws H) (hK : va_K D vwCl tys s) (hD : va_D A ws) (hS : va_S A H0 H locs) (hA : ∀ q, H0.size ≤ q → A q) (is ts : List Nat) (hC : is.map (fun i => ws[i]?) = wc.map some) (hn : va_nd is = true) (hT : ts.filterMap (fun i => tys[i]?) = tys') (q0 ci : Nat) (hcl : vwCl[ci]? = some cq) (hCe : cq.1 = C) (hb0 : ws[q0]? = some (b, .inr (ci, fs)))
    (hAs : As.length = n) (hsize : ls.size = nL) (hst : st0 = As.reverse ++ .ref b :: rest) (hW : (rest.map fun v => v.category).sum ≤ 8) (hdg : decode cc pc = .ok (.invokevirtual index, 3)) (hroom : cells + 0 ≤ R.cells ∧ slots + 0 ≤ R.slots) (he : ∀ u, (w1 u).map Prod.fst = wc.map Prod.fst)
    (kk : ∀ (u : S) (H1 : Heap) (locs1 : List Loc), φ u → va_P D vwCl (setL ws is (w1 u)) H1 → va_D A (setL ws is (w1 u)) → va_S A H0 H1 locs1 → W p l e R s m args below meth c H1 locs1 cells slots Q (F0 m (pc + 3) ls rest)) : W p l e R s m args below meth c H locs cells slots Q (F0 m pc ls st0) := by
  have hF := va_free hD hS hA is hC
  refine va_callv (va_runV (As := As) (rest := rest) fx hM cw ⟨hz_blind, by rw [← hCe]; exact va_recv hK hP hcl hb0, hz_pre hP hK hD is ts hC hn hT⟩ rfl hAs hsize hst (lv_room hW) hdg hroom) hS (fun q _ h => hF q h) hF (fun u t H1 locs1 ht hvm hw hB hz1 hk1 hS1 => ?_)
  rw [ht] at hB
  have h9 := hz_frame hP hD is hC hn hk1 hB (he u)
  exact kk u H1 locs1 hw h9.1 h9.2 hS1
theorem hz_callSi {z : Int} (fx : CallFix p m c cc nL s args Ts own) (hM : Met l y wz rm (va_Pc As (fun _ => True)) (vp_Si (fun r => r = zI z)) 0 0 (fun _ => False)) (cw : CallB R s args own index y bytes maxL ret wz rm 0 0 n ∧ (Cond.static y).before args s = true)
    (hAs : As.length = n) (hsize : ls.size = nL) (hst : st0 = As.reverse ++ rest) (hW : (rest.map fun v => v.category).sum ≤ 8) (hdg : decode cc pc = .ok (.invokestatic index, 3)) (hroom : cells + 0 ≤ R.cells ∧ slots + 0 ≤ R.slots)
    (kk : W p l e R s m args below meth c H locs cells slots Q (F0 m (pc + 3) ls (zi z :: rest))) : W p l e R s m args below meth c H locs cells slots Q (F0 m pc ls st0) :=
  vp_callSi (va_runS (As := As) (rest := rest) fx hM cw ⟨fun a U g mk q => q, fun U hU hW => ⟨rfl, trivial⟩⟩ rfl hAs hsize hst (lv_room hW) hdg hroom).run (fun r hr => by rw [hr]; exact kk)
end HC
theorem hz_ofW {l : Launch} {y : MethodName} {wz ws' : List Cond} {rm : Room} {av : List Value} {D : va_G} {tys : List (ClassId × FieldType)} {w : va_W} {sz mc ms : Nat} {Qf : (Nat → Prop) → Array Value → State → Outcome → State → Prop} {cc : ByteArray} {maxL : Nat} {ret : Option FieldType} (hy : plainName y.cls = true) (hw : wz = Cond.code y cc maxL ret :: ws') (hle : (lg_sl av).length ≤ maxL)
    (body : ∀ (p : Program) (e : Env) (s : State) (m : MethodId) (below : List Frame) (meth : Method) (c : Code) (A : Nat → Prop) (ls : Array Slot), p.tables.exec = Jvm.exec → c.code = cc → meth.sig.returnType = ret → (∀ w ∈ wz, w.before av.toArray s = true) → s.vm.findClass y.cls = some m.cls → meth.name = y.name → meth.locks = false → c.maxLocals = maxL → va_P D vwCl w s.heap → va_K D vwCl tys s → (∀ q, s.heap.size ≤ q → A q) → va_D A w → va_S A s.heap s.heap [] → lv_has ls maxL (lv_args 0 av) →
      W p l e (headSpec wz rm).room s m av.toArray below meth c s.heap [] 0 0 (MQ below (Qf A) av.toArray s mc ms A) (F0 m 0 ls [])) : Met l y wz rm (va_Pc av (HPre D tys w sz)) (Qf (va_A w sz)) mc ms (va_A w sz) := by
  refine Met.ofW (cc := cc) (maxL := maxL) (ret := ret) hy hw ?_
  intro p e s m args below meth c s₁ B hml hv
  obtain ⟨rfl, hsz, hP, hK, hD0⟩ := hv
  have hts := atoms_spec (ws := wz) B.pre
  have hown : s.vm.findClass y.cls = some m.cls := findClass_of_methodNamed B.named
  have hin : meth.name = y.name := (name_of_methodNamed B.named B.method).1
  subst hsz
  have hl := lv_entry av (n := maxL) hle
  rw [lg_entry_eq]
  exact body p e s m below meth c _ _ B.exec B.bytes B.returns hts hown hin B.notSynchronized hml hP hK (fun q h => Or.inr h) hD0.self va_S.rf hl
theorem hz_ofS {l : Launch} {y : MethodName} {wz ws' : List Cond} {rm : Room} {av : List Value} {z : Int} {cc : ByteArray} {maxL : Nat} {ret : Option FieldType} (hy : plainName y.cls = true) (hw : wz = Cond.code y cc maxL ret :: ws') (hle : (lg_sl av).length ≤ maxL)
    (body : ∀ (p : Program) (e : Env) (s : State) (m : MethodId) (below : List Frame) (meth : Method) (c : Code) (ls : Array Slot), p.tables.exec = Jvm.exec → c.code = cc → meth.sig.returnType = ret → (∀ w ∈ wz, w.before av.toArray s = true) → s.vm.findClass y.cls = some m.cls → meth.locks = false → c.maxLocals = maxL → lv_has ls maxL (lv_args 0 av) →
      W p l e (headSpec wz rm).room s m av.toArray below meth c s.heap [] 0 0 (MQ below (vp_Si (fun r => r = zI z)) av.toArray s 0 0 (fun _ => False)) (F0 m 0 ls [])) : Met l y wz rm (va_Pc av (fun _ => True)) (vp_Si (fun r => r = zI z)) 0 0 (fun _ => False) := by
  refine Met.ofW (cc := cc) (maxL := maxL) (ret := ret) hy hw ?_
  intro p e s m args below meth c s₁ B hml hv
  obtain ⟨rfl, -⟩ := hv
  have hts := atoms_spec (ws := wz) B.pre
  have hown : s.vm.findClass y.cls = some m.cls := findClass_of_methodNamed B.named
  have hl := lv_entry av (n := maxL) hle
  rw [lg_entry_eq]
  exact body p e s m below meth c _ B.exec B.bytes B.returns hts hown B.notSynchronized hml hl
section HZ2
variable {p : Program} {l : Launch} {e : Env} {R : Room} {s : State} {m : MethodId} {args : Array Value} {below : List Frame} {meth : Method} {c : Code} {H : Heap} {locs : List Loc} {cells slots : Nat} {Q : State → Prop}
variable {cc : ByteArray} {pc : Nat} {ls : Array Slot} {rest : List Value}
theorem hz_topi {a : Int} (k : ∀ z : Int, z = a → W p l e R s m args below meth c H locs cells slots Q (F0 m pc ls (zi z :: rest))) : W p l e R s m args below meth c H locs cells slots Q (F0 m pc ls (zi a :: rest)) := k a rfl
theorem hz_topl {a : Int} (k : ∀ z : Int, z = a → W p l e R s m args below meth c H locs cells slots Q (F0 m pc ls (zl z :: rest))) : W p l e R s m args below meth c H locs cells slots Q (F0 m pc ls (zl a :: rest)) := k a rfl
theorem hz_mmax (hx : p.tables.exec = Jvm.exec) (hb : c.code = cc) (hml : c.maxLocals = ls.size) {own : String} {index : Nat} (hown : s.vm.findClass own = some m.cls) (hlink : (Cond.methodLink own index Lib.Math.max.name).before args s = true) (hstat : (Cond.static Lib.Math.max.name).before args s = true) (hini : (Cond.initialized "java/lang/Math").before args s = true) (hcode : (Cond.code Lib.Math.max.name Lib.Math.max.code 2 (some .int)).before args s = true)
    (hframes : 1 ≤ R.frames) (hlocals : (rest.map fun v => v.category).sum + 13 ≤ R.locals) (hc : cells ≤ R.cells) (hs : slots ≤ R.slots) {a b : Int} (h : (-2147483648 ≤ a ∧ a < 2147483648) ∧ -2147483648 ≤ b ∧ b < 2147483648) (hdg : decode cc pc = .ok (.invokestatic index, 3))
    (kk : W p l e R s m args below meth c H locs cells slots Q (F0 m (pc + 3) ls (zi (if a < b then b else a) :: rest))) : W p l e R s m args below meth c H locs cells slots Q (F0 m pc ls (zi b :: zi a :: rest)) := by
  refine va_mmax hx hb hml hown hlink hstat hini hcode hframes hlocals hc hs hdg ?_
  have q : (if zI a < zI b then zI b else zI a) = zI (if a < b then b else a) := by
    by_cases z : a < b
    · rw [if_pos z, if_pos ((zI_lt h).mpr z)]
    · rw [if_neg z, if_neg (fun y => z ((zI_lt h).mp y))]
  rw [q]
  exact kk
theorem hz_mmin (hx : p.tables.exec = Jvm.exec) (hb : c.code = cc) (hml : c.maxLocals = ls.size) {own : String} {index : Nat} (hown : s.vm.findClass own = some m.cls) (hlink : (Cond.methodLink own index Lib.Math.min.name).before args s = true) (hstat : (Cond.static Lib.Math.min.name).before args s = true) (hini : (Cond.initialized "java/lang/Math").before args s = true) (hcode : (Cond.code Lib.Math.min.name Lib.Math.min.code 2 (some .int)).before args s = true)
    (hframes : 1 ≤ R.frames) (hlocals : (rest.map fun v => v.category).sum + 13 ≤ R.locals) (hc : cells ≤ R.cells) (hs : slots ≤ R.slots) {a b : Int} (h : (-2147483648 ≤ a ∧ a < 2147483648) ∧ -2147483648 ≤ b ∧ b < 2147483648) (hdg : decode cc pc = .ok (.invokestatic index, 3))
    (kk : W p l e R s m args below meth c H locs cells slots Q (F0 m (pc + 3) ls (zi (if b < a then b else a) :: rest))) : W p l e R s m args below meth c H locs cells slots Q (F0 m pc ls (zi b :: zi a :: rest)) := by
  refine va_mmin hx hb hml hown hlink hstat hini hcode hframes hlocals hc hs hdg ?_
  have q : (if zI b < zI a then zI b else zI a) = zI (if b < a then b else a) := by
    by_cases z : b < a
    · rw [if_pos z, if_pos ((zI_lt ⟨h.2, h.1⟩).mpr z)]
    · rw [if_neg z, if_neg (fun y => z ((zI_lt ⟨h.2, h.1⟩).mp y))]
  rw [q]
  exact kk
theorem hz_mabs (hx : p.tables.exec = Jvm.exec) (hb : c.code = cc) (hml : c.maxLocals = ls.size) {own : String} {index : Nat} (hown : s.vm.findClass own = some m.cls) (hlink : (Cond.methodLink own index Lib.Math.abs.name).before args s = true) (hstat : (Cond.static Lib.Math.abs.name).before args s = true) (hini : (Cond.initialized "java/lang/Math").before args s = true) (hcode : (Cond.code Lib.Math.abs.name Lib.Math.abs.code 1 (some .int)).before args s = true)
    (hframes : 1 ≤ R.frames) (hlocals : (rest.map fun v => v.category).sum + 13 ≤ R.locals) (hc : cells ≤ R.cells) (hs : slots ≤ R.slots) {a : Int} (h : -2147483648 ≤ a ∧ a < 2147483648) (hdg : decode cc pc = .ok (.invokestatic index, 3))
    (kk : W p l e R s m args below meth c H locs cells slots Q (F0 m (pc + 3) ls (zi (if a < 0 then -a else a) :: rest))) : W p l e R s m args below meth c H locs cells slots Q (F0 m pc ls (zi a :: rest)) := by
  refine va_mabs hx hb hml hown hlink hstat hini hcode hframes hlocals hc hs hdg ?_
  have q0 : 0 ≤ zI a ↔ 0 ≤ a := by rw [← zI_0]; exact zI_le (by omega)
  have q : (if 0 ≤ zI a then zI a else 0 - zI a) = zI (if a < 0 then -a else a) := by
    by_cases z : a < 0
    · rw [if_pos z, if_neg (fun y => absurd (q0.mp y) (by omega)), ← zI_0, zI_sub]
      congr 1
      omega
    · rw [if_neg z, if_pos (q0.mpr (by omega))]
  rw [q]
  exact kk
theorem hz_lconst (hx : p.tables.exec = Jvm.exec) (hb : c.code = cc) {q : Fin 2} {n : Int} (hdg : decode cc pc = .ok (.lconst q, 1)) (hn : Int64.ofNat q = zL n) (k : W p l e R s m args below meth c H locs cells slots Q (F0 m (pc + 1) ls (zl n :: rest))) : W p l e R s m args below meth c H locs cells slots Q (F0 m pc ls rest) := lv_lconst hx hb hdg hn k
theorem hz_tableOut (hx : p.tables.exec = Jvm.exec) (hb : c.code = cc) {dflt lo hi : Int} {offs : Array Int} {len : Nat} {a : Int} {tgt : Nat} (hdg : decode cc pc = .ok (.tableswitch dflt lo hi offs, len)) (hr : -2147483648 ≤ a ∧ a < 2147483648) (h : a < lo ∨ hi < a) (ht : (pc : Int) + dflt = (tgt : Int)) (k : W p l e R s m args below meth c H locs cells slots Q (F0 m tgt ls rest)) : W p l e R s m args below meth c H locs cells slots Q (F0 m pc ls (zi a :: rest)) :=
  lv_tableOut hx hb hdg (by rw [zI_toInt hr]; exact h) ht k
theorem hz_tableIn (hx : p.tables.exec = Jvm.exec) (hb : c.code = cc) {dflt lo hi : Int} {offs : Array Int} {len : Nat} {a j : Int} {off : Int} {tgt : Nat} (hdg : decode cc pc = .ok (.tableswitch dflt lo hi offs, len)) (hj : a = j) (hr : (-2147483648 ≤ j ∧ j < 2147483648) ∧ lo ≤ j ∧ j ≤ hi) (ho : offs[(j - lo).toNat]? = some off) (ht : (pc : Int) + off = (tgt : Int)) (k : W p l e R s m args below meth c H locs cells slots Q (F0 m tgt ls rest)) : W p l e R s m args below meth c H locs cells slots Q (F0 m pc ls (zi a :: rest)) := by
  subst hj
  exact lv_tableIn hx hb hdg (by rw [zI_toInt hr.1]; omega) (by rw [zI_toInt hr.1]; omega) (by rw [zI_toInt hr.1]; exact ho) ht k
end HZ2
abbrev tyL (y : Nat → ClassId) : List (ClassId × FieldType) := [(y 0, .int), (y 1, .long), (y 2, .boolean), (y 3, .object "java/lang/Object")]
theorem upZ_rng {f : Int → Int} {a b i v : Int} (h : ∀ k : Int, a ≤ f k ∧ f k ≤ b) (hv : a ≤ v ∧ v ≤ b) : ∀ k : Int, a ≤ upZ f i v k ∧ upZ f i v k ≤ b := fun k => by
  by_cases e : k = i
  · rw [upZ_s e]; exact hv
  · rw [upZ_n e]; exact h k
section HW
variable {p : Program} {l : Launch} {e : Env} {R : Room} {s : State} {m : MethodId} {args : Array Value} {below : List Frame} {meth : Method} {c : Code} {H : Heap} {locs : List Loc} {cells slots : Nat} {Q : State → Prop}
variable {cc bytes : ByteArray} {pc nL maxL index n : Nat} {ls : Array Slot} {rest st0 As : List Value} {D : va_G} {A : Nat → Prop} {b : Nat} {tys : List (ClassId × FieldType)} {ws : va_W} {H0 : Heap} {Ts wz : List Cond} {own C : String} {y : MethodName} {ret : Option FieldType} {rm : Room} {cq : vw_C} {fs : List Value}
theorem hz_preW {av : List Value} (hP : va_P D vwCl ws H) (hK : va_K D vwCl tys s) (hD : va_D A ws) : ∀ U : State, U.heap = H → s.WarmedH U.vm → va_Pc av (HPre D tys ws H.size) av.toArray U := fun U hU hW => ⟨rfl, by rw [hU], by rw [hU]; exact hP, va_K.moved hW.alike hK, hD.weaken (fun _ _ _ _ => trivial)⟩
theorem hz_freeW (hD : va_D A ws) (hS : va_S A H0 H locs) (hA : ∀ q, H0.size ≤ q → A q) : ∀ q, va_A ws H.size q → A q := by
  rintro q (⟨k, e, h⟩ | h)
  · exact hD.2 k _ h
  · exact hA q (Nat.le_trans hS.1 h)
theorem hz_callWi {S : Type} {g : S → Int} {φ : S → Prop} {w1 : S → va_W} (fx : CallFix p m c cc nL s args Ts own) (hM : Met l y wz rm (va_Pc (.ref b :: As) (HPre D tys ws H.size)) (va_Qi (fun (r : Int32) (u : S) => r = zI (g u) ∧ φ u) (fun u t => va_P D vwCl (w1 u) t.heap) (va_A ws H.size)) 0 0 (va_A ws H.size)) (cw : CallW R s args own C index y bytes maxL ret wz rm 0 0 n)
    (hP : va_P D vwCl ws H) (hK : va_K D vwCl tys s) (hD : va_D A ws) (hS : va_S A H0 H locs) (hA : ∀ q, H0.size ≤ q → A q) (q0 ci : Nat) (hcl : vwCl[ci]? = some cq) (hCe : cq.1 = C) (hb0 : ws[q0]? = some (b, .inr (ci, fs)))
    (hAs : As.length = n) (hsize : ls.size = nL) (hst : st0 = As.reverse ++ .ref b :: rest) (hW : (rest.map fun v => v.category).sum ≤ 8) (hdg : decode cc pc = .ok (.invokevirtual index, 3)) (hroom : cells + 0 ≤ R.cells ∧ slots + 0 ≤ R.slots) (he : ∀ u, (w1 u).map Prod.fst = ws.map Prod.fst)
    (kk : ∀ (u : S) (H1 : Heap) (locs1 : List Loc), φ u → va_P D vwCl (w1 u) H1 → va_D A (w1 u) → va_S A H0 H1 locs1 → W p l e R s m args below meth c H1 locs1 cells slots Q (F0 m (pc + 3) ls (zi (g u) :: rest))) : W p l e R s m args below meth c H locs cells slots Q (F0 m pc ls st0) := by
  have hF := hz_freeW hD hS hA
  refine va_calli (va_runV (As := As) (rest := rest) fx hM cw ⟨hz_blind, by rw [← hCe]; exact va_recv hK hP hcl hb0, hz_preW hP hK hD⟩ rfl hAs hsize hst (lv_room hW) hdg hroom) hS (fun q _ h => hF q h) hF (fun r u t H1 locs1 ht hvm hw hB hz1 hk1 hS1 => ?_)
  obtain ⟨rfl, hφ⟩ := hw
  rw [ht] at hB
  exact kk u H1 locs1 hφ hB (hz_Dc hD (he u)) hS1
theorem hz_callWv {S : Type} {φ : S → Prop} {w1 : S → va_W} (fx : CallFix p m c cc nL s args Ts own) (hM : Met l y wz rm (va_Pc (.ref b :: As) (HPre D tys ws H.size)) (va_Qv φ (fun u t => va_P D vwCl (w1 u) t.heap) (va_A ws H.size)) 0 0 (va_A ws H.size)) (cw : CallW R s args own C index y bytes maxL ret wz rm 0 0 n)
    (hP : va_P D vwCl ws H) (hK : va_K D vwCl tys s) (hD : va_D A ws) (hS : va_S A H0 H locs) (hA : ∀ q, H0.size ≤ q → A q) (q0 ci : Nat) (hcl : vwCl[ci]? = some cq) (hCe : cq.1 = C) (hb0 : ws[q0]? = some (b, .inr (ci, fs)))
    (hAs : As.length = n) (hsize : ls.size = nL) (hst : st0 = As.reverse ++ .ref b :: rest) (hW : (rest.map fun v => v.category).sum ≤ 8) (hdg : decode cc pc = .ok (.invokevirtual index, 3)) (hroom : cells + 0 ≤ R.cells ∧ slots + 0 ≤ R.slots) (he : ∀ u, (w1 u).map Prod.fst = ws.map Prod.fst)
    (kk : ∀ (u : S) (H1 : Heap) (locs1 : List Loc), φ u → va_P D vwCl (w1 u) H1 → va_D A (w1 u) → va_S A H0 H1 locs1 → W p l e R s m args below meth c H1 locs1 cells slots Q (F0 m (pc + 3) ls rest)) : W p l e R s m args below meth c H locs cells slots Q (F0 m pc ls st0) := by
  have hF := hz_freeW hD hS hA
  refine va_callv (va_runV (As := As) (rest := rest) fx hM cw ⟨hz_blind, by rw [← hCe]; exact va_recv hK hP hcl hb0, hz_preW hP hK hD⟩ rfl hAs hsize hst (lv_room hW) hdg hroom) hS (fun q _ h => hF q h) hF (fun u t H1 locs1 ht hvm hw hB hz1 hk1 hS1 => ?_)
  rw [ht] at hB
  exact kk u H1 locs1 hw hB (hz_Dc hD (he u)) hS1
end HW
