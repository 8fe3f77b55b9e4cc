/-! sets, bits -/
def anZ (a b : Int) : Int := ((a.toNat &&& b.toNat : Nat) : Int)
theorem anZ_c {x y : Int} {a b : Nat} (hx : x = (a : Int)) (hy : y = (b : Int)) : anZ x y = ((a &&& b : Nat) : Int) := by
  subst hx
  subst hy
  rfl
theorem us_l : ∀ n, n < 32 → (((nI n).toUInt32 &&& Int32.toUInt32 31).toBitVec % 32).toNat = n := by decide +kernel
theorem zI_ushr {a b : Int} (ha : 0 ≤ a ∧ a < 2147483648) (hb : 0 ≤ b ∧ b ≤ 31) : ((zI a).toUInt32 >>> ((zI b).toUInt32 &&& Int32.toUInt32 31)).toInt32 = zI (a / 2 ^ b.toNat) := by
  obtain ⟨n, rfl⟩ := Int.eq_ofNat_of_zero_le ha.1
  obtain ⟨k, rfl⟩ := Int.eq_ofNat_of_zero_le hb.1
  rw [zI_n, zI_n, pk_ushrN (by omega) _ k (us_l k (by omega)), ← zI_n, Int.toNat_natCast, Int.natCast_ediv, Int.natCast_pow]
  rfl
theorem zI_and {a b : Int} (ha : 0 ≤ a) (hb : 0 ≤ b) : zI a &&& zI b = zI (anZ a b) := by
  obtain ⟨n, rfl⟩ := Int.eq_ofNat_of_zero_le ha
  obtain ⟨k, rfl⟩ := Int.eq_ofNat_of_zero_le hb
  rw [anZ_c rfl rfl, zI_n, zI_n, zI_n]
  unfold nI
  exact (Int32.toBitVec_inj.mp (by simp [BitVec.ofNat_and])).symm
section HB
variable {p : Program} {l : Launch} {e : Env} {R : Room} {s : State} {m : MethodId} {args : Array Value} {below : List Frame} {meth : Method} {c : Code} {H : Heap} {locs : List Loc} {cells slots : Nat} {Q : State → Prop} {cc : ByteArray} {pc : Nat} {ls : Array Slot} {rest : List Value}
theorem hz_iushr (hx : p.tables.exec = Jvm.exec) (hb : c.code = cc) {a b d : Int} (hdg : decode cc pc = .ok (.iushr, 1)) (h : (0 ≤ a ∧ a < 2147483648) ∧ 0 ≤ b ∧ b ≤ 31) (hd : (2 : Int) ^ b.toNat = d) (k : W p l e R s m args below meth c H locs cells slots Q (F0 m (pc + 1) ls (zi (a / d) :: rest))) : W p l e R s m args below meth c H locs cells slots Q (F0 m pc ls (zi b :: zi a :: rest)) := lv_iushr hx hb hdg (by rw [zI_ushr h.1 h.2, hd]) k
theorem hz_iandZ (hx : p.tables.exec = Jvm.exec) (hb : c.code = cc) {a b : Int} (hdg : decode cc pc = .ok (.iand, 1)) (h : 0 ≤ a ∧ 0 ≤ b) (k : W p l e R s m args below meth c H locs cells slots Q (F0 m (pc + 1) ls (zi (anZ a b) :: rest))) : W p l e R s m args below meth c H locs cells slots Q (F0 m pc ls (zi b :: zi a :: rest)) := lv_iand hx hb hdg (by rw [zI_and h.1 h.2]; exact k)
end HB
def bc1 (n : Nat) : Nat := n - ((n / 2) &&& 1431655765)
def bc2 (n : Nat) : Nat := (bc1 n &&& 858993459) + ((bc1 n / 4) &&& 858993459)
def bc3 (n : Nat) : Nat := (bc2 n + bc2 n / 16) &&& 252645135
def bc4 (n : Nat) : Nat := bc3 n + bc3 n / 256
def bc5 (n : Nat) : Nat := bc4 n + bc4 n / 65536
def bc6 (n : Nat) : Nat := n % 2 + n / 2 % 2 + n / 4 % 2 + n / 8 % 2 + n / 16 % 2 + n / 32 % 2 + n / 64 % 2 + n / 128 % 2 + n / 256 % 2 + n / 512 % 2 + n / 1024 % 2 + n / 2048 % 2
theorem bc_all : ∀ a, a < 64 → ∀ b, b < 64 → (bc5 (64 * a + b) &&& 63) = bc6 (64 * a + b) := by decide +kernel
theorem bc_eq {n : Nat} (h : n < 4096) : (bc5 n &&& 63) = bc6 n := by
  have q := bc_all (n / 64) (by omega) (n % 64) (by omega)
  rwa [show 64 * (n / 64) + n % 64 = n from by omega] at q
theorem p2_0 : (2 : Int) ^ (0 : Int).toNat = 1 := rfl
theorem p2_1 : (2 : Int) ^ (1 : Int).toNat = 2 := rfl
theorem p2_2 : (2 : Int) ^ (2 : Int).toNat = 4 := rfl
theorem p2_3 : (2 : Int) ^ (3 : Int).toNat = 8 := rfl
theorem p2_4 : (2 : Int) ^ (4 : Int).toNat = 16 := rfl
theorem p2_5 : (2 : Int) ^ (5 : Int).toNat = 32 := rfl
theorem p2_6 : (2 : Int) ^ (6 : Int).toNat = 64 := rfl
theorem p2_7 : (2 : Int) ^ (7 : Int).toNat = 128 := rfl
theorem p2_8 : (2 : Int) ^ (8 : Int).toNat = 256 := rfl
theorem p2_9 : (2 : Int) ^ (9 : Int).toNat = 512 := rfl
theorem p2_10 : (2 : Int) ^ (10 : Int).toNat = 1024 := rfl
theorem p2_11 : (2 : Int) ^ (11 : Int).toNat = 2048 := rfl
theorem bc_cnt {set : Int} (h : 0 ≤ set) : ((bc6 set.toNat : Nat) : Int) = cntZ set 12 := by
  have c0 : cntZ set 1 = cntZ set 0 + memZ set 0 := cntZ_s (k := 0) (by omega)
  have c1 : cntZ set 2 = cntZ set 1 + memZ set 1 := cntZ_s (k := 1) (by omega)
  have c2 : cntZ set 3 = cntZ set 2 + memZ set 2 := cntZ_s (k := 2) (by omega)
  have c3 : cntZ set 4 = cntZ set 3 + memZ set 3 := cntZ_s (k := 3) (by omega)
  have c4 : cntZ set 5 = cntZ set 4 + memZ set 4 := cntZ_s (k := 4) (by omega)
  have c5 : cntZ set 6 = cntZ set 5 + memZ set 5 := cntZ_s (k := 5) (by omega)
  have c6 : cntZ set 7 = cntZ set 6 + memZ set 6 := cntZ_s (k := 6) (by omega)
  have c7 : cntZ set 8 = cntZ set 7 + memZ set 7 := cntZ_s (k := 7) (by omega)
  have c8 : cntZ set 9 = cntZ set 8 + memZ set 8 := cntZ_s (k := 8) (by omega)
  have c9 : cntZ set 10 = cntZ set 9 + memZ set 9 := cntZ_s (k := 9) (by omega)
  have c10 : cntZ set 11 = cntZ set 10 + memZ set 10 := cntZ_s (k := 10) (by omega)
  have c11 : cntZ set 12 = cntZ set 11 + memZ set 11 := cntZ_s (k := 11) (by omega)
  have m0 : memZ set 0 = ((set.toNat / 1 % 2 : Nat) : Int) := by unfold memZ; rw [p2_0]; omega
  have m1 : memZ set 1 = ((set.toNat / 2 % 2 : Nat) : Int) := by unfold memZ; rw [p2_1]; omega
  have m2 : memZ set 2 = ((set.toNat / 4 % 2 : Nat) : Int) := by unfold memZ; rw [p2_2]; omega
  have m3 : memZ set 3 = ((set.toNat / 8 % 2 : Nat) : Int) := by unfold memZ; rw [p2_3]; omega
  have m4 : memZ set 4 = ((set.toNat / 16 % 2 : Nat) : Int) := by unfold memZ; rw [p2_4]; omega
  have m5 : memZ set 5 = ((set.toNat / 32 % 2 : Nat) : Int) := by unfold memZ; rw [p2_5]; omega
  have m6 : memZ set 6 = ((set.toNat / 64 % 2 : Nat) : Int) := by unfold memZ; rw [p2_6]; omega
  have m7 : memZ set 7 = ((set.toNat / 128 % 2 : Nat) : Int) := by unfold memZ; rw [p2_7]; omega
  have m8 : memZ set 8 = ((set.toNat / 256 % 2 : Nat) : Int) := by unfold memZ; rw [p2_8]; omega
  have m9 : memZ set 9 = ((set.toNat / 512 % 2 : Nat) : Int) := by unfold memZ; rw [p2_9]; omega
  have m10 : memZ set 10 = ((set.toNat / 1024 % 2 : Nat) : Int) := by unfold memZ; rw [p2_10]; omega
  have m11 : memZ set 11 = ((set.toNat / 2048 % 2 : Nat) : Int) := by unfold memZ; rw [p2_11]; omega
  have c : cntZ set 0 = 0 := rfl
  have e : bc6 set.toNat = set.toNat / 1 % 2 + set.toNat / 2 % 2 + set.toNat / 4 % 2 + set.toNat / 8 % 2 + set.toNat / 16 % 2 + set.toNat / 32 % 2 + set.toNat / 64 % 2 + set.toNat / 128 % 2 + set.toNat / 256 % 2 + set.toNat / 512 % 2 + set.toNat / 1024 % 2 + set.toNat / 2048 % 2 := by unfold bc6; rw [Nat.div_one]
  rw [e]
  clear e h
  generalize set.toNat / 1 % 2 = x0 at *
  generalize set.toNat / 2 % 2 = x1 at *
  generalize set.toNat / 4 % 2 = x2 at *
  generalize set.toNat / 8 % 2 = x3 at *
  generalize set.toNat / 16 % 2 = x4 at *
  generalize set.toNat / 32 % 2 = x5 at *
  generalize set.toNat / 64 % 2 = x6 at *
  generalize set.toNat / 128 % 2 = x7 at *
  generalize set.toNat / 256 % 2 = x8 at *
  generalize set.toNat / 512 % 2 = x9 at *
  generalize set.toNat / 1024 % 2 = x10 at *
  generalize set.toNat / 2048 % 2 = x11 at *
  generalize memZ set 0 = y0 at *
  generalize memZ set 1 = y1 at *
  generalize memZ set 2 = y2 at *
  generalize memZ set 3 = y3 at *
  generalize memZ set 4 = y4 at *
  generalize memZ set 5 = y5 at *
  generalize memZ set 6 = y6 at *
  generalize memZ set 7 = y7 at *
  generalize memZ set 8 = y8 at *
  generalize memZ set 9 = y9 at *
  generalize memZ set 10 = y10 at *
  generalize memZ set 11 = y11 at *
  omega
theorem cnt_le12 (set : Int) : cntZ set 12 ≤ 12 := by
  have := smZ_rng (f := memZ set) (b := 1) (k := 12) (fun j _ _ => by have := memZ_01 set j; omega) (by omega) 12 (by omega)
  exact this.2
theorem pow2_12 {n : Int} (h : 0 ≤ n ∧ n ≤ 12) : (2 : Int) ^ n.toNat ≤ 4096 := by
  rcases (show n = 0 ∨ n = 1 ∨ n = 2 ∨ n = 3 ∨ n = 4 ∨ n = 5 ∨ n = 6 ∨ n = 7 ∨ n = 8 ∨ n = 9 ∨ n = 10 ∨ n = 11 ∨ n = 12 by omega) with rfl | rfl | rfl | rfl | rfl | rfl | rfl | rfl | rfl | rfl | rfl | rfl | rfl <;> decide
theorem cnt_hi {set n : Int} (hn : 0 ≤ n ∧ n ≤ 12) (h0 : 0 ≤ set) (h : set < 2 ^ n.toNat) : cntZ set 12 = cntZ set n := by
  have key : ∀ d : Nat, cntZ set (n + d) = cntZ set n := by
    intro d
    induction d with
    | zero => rw [show n + ((0 : Nat) : Int) = n from by omega]
    | succ d ih =>
      rw [show n + ((d + 1 : Nat) : Int) = n + d + 1 from by omega, cntZ_s (by omega), ih]
      have e : memZ set (n + d) = 0 := by
        unfold memZ
        have h2 : (2 : Int) ^ n.toNat ≤ 2 ^ (n + d).toNat := by
          rw [show (n + (d : Int)).toNat = n.toNat + d from by omega, Int.pow_add]
          have q0 : (0 : Int) < 2 ^ d := Int.pow_pos (by omega)
          have q1 : (1 : Int) ≤ 2 ^ d := by omega
          have q2 : (0 : Int) ≤ 2 ^ n.toNat := Int.le_of_lt (Int.pow_pos (by omega))
          have := Int.mul_le_mul_of_nonneg_left q1 q2
          rwa [Int.mul_one] at this
        rw [Int.ediv_eq_zero_of_lt h0 (by omega)]
        rfl
      omega
  have := key (12 - n).toNat
  rwa [show n + ((12 - n).toNat : Int) = 12 from by omega] at this
theorem fS_cong2 {base base2 te te2 aw aw2 a : Int → Int} {m : Int} (hb : ∀ q : Int, base q = base2 q) (ht : ∀ j : Int, 0 ≤ j → j < m → te j = te2 j) (hw : ∀ j : Int, 0 ≤ j → j < m → aw j = aw2 j) (q : Int) : fS base te aw a m q = fS base2 te2 aw2 a m q := by
  unfold fS
  rw [hb q]
  by_cases hm : 0 ≤ m
  · rw [smZ_cong (g := gS te2 aw2 a q) (k := m) (fun j a0 b => by unfold gS; rw [ht j a0 b, hw j a0 b]) m.toNat (by omega)]
  · rw [show m.toNat = 0 by omega]
    rfl
theorem bsF_cong2 {base base2 te te2 aw aw2 bound : Int → Int} {m : Int} (hb : ∀ q : Int, base q = base2 q) (ht : ∀ j : Int, 0 ≤ j → j < m → te j = te2 j) (hw : ∀ j : Int, 0 ≤ j → j < m → aw j = aw2 j) : ∀ r : Nat, bsF base te aw bound m r = bsF base2 te2 aw2 bound m r
  | 0 => rfl
  | r + 1 => by
    have e : fS base te aw (rwZ m r) m = fS base2 te2 aw2 (rwZ m r) m := funext (fS_cong2 hb ht hw)
    rw [bsF_u, bsF_u, e, bsF_cong2 hb ht hw r]
