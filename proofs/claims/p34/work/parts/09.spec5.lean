/-! sets of mirrors, rows of aims -/
def memZ (set k : Int) : Int := set / 2 ^ k.toNat % 2
def cntZ (set k : Int) : Int := smZ (memZ set) k.toNat
theorem memZ_01 (set k : Int) : memZ set k = 0 ∨ memZ set k = 1 := by unfold memZ; omega
theorem cntZ_s {set k : Int} (h : 0 ≤ k) : cntZ set (k + 1) = cntZ set k + memZ set k := smZ_s h
theorem cntZ_mono {set : Int} : ∀ (d : Nat) (k : Int), 0 ≤ k → cntZ set k ≤ cntZ set (k + d)
  | 0, k, _ => by rw [show k + ((0 : Nat) : Int) = k from by omega]; exact Int.le_refl _
  | d + 1, k, h => by
    have h1 := cntZ_mono (set := set) d k h
    have h2 := cntZ_s (set := set) (k := k + d) (by omega)
    have h3 := memZ_01 set (k + d)
    rw [show k + ((d + 1 : Nat) : Int) = k + d + 1 from by omega, h2]
    omega
theorem cntZ_le {set i k : Int} (h0 : 0 ≤ i) (h : i ≤ k) : cntZ set i ≤ cntZ set k := by
  have := cntZ_mono (set := set) (k - i).toNat i h0
  rwa [show i + ((k - i).toNat : Int) = k from by omega] at this
theorem cntZ_0 {set k : Int} (h : 0 ≤ k) : 0 ≤ cntZ set k := cntZ_le (i := 0) (Int.le_refl _) h
/-- the members of a set below k, in their order -/
def mbN (set : Int) : Nat → Int → Int
  | 0 => fun _ => 0
  | k + 1 => if memZ set k = 1 then upZ (mbN set k) (cntZ set k) k else mbN set k
theorem mbN_y {set k : Int} (hk : 0 ≤ k) (h : memZ set k = 1) : mbN set (k + 1).toNat = upZ (mbN set k.toNat) (cntZ set k) k := by
  rw [tN_s hk]
  show (if memZ set ((k.toNat : Nat) : Int) = 1 then _ else _) = _
  rw [tN_c hk, if_pos h]
theorem mbN_n {set k : Int} (hk : 0 ≤ k) (h : ¬ memZ set k = 1) : mbN set (k + 1).toNat = mbN set k.toNat := by
  rw [tN_s hk]
  show (if memZ set ((k.toNat : Nat) : Int) = 1 then _ else _) = _
  rw [tN_c hk, if_neg h]
def mbZ (set n : Int) : Int → Int := mbN set n.toNat
theorem mbN_at {set : Int} : ∀ (k : Nat) (j : Int), 0 ≤ j → j < cntZ set k → (0 ≤ mbN set k j ∧ mbN set k j < k) ∧ memZ set (mbN set k j) = 1 ∧ cntZ set (mbN set k j) = j
  | 0, j, h0, h1 => by
    have : cntZ set ((0 : Nat) : Int) = 0 := rfl
    omega
  | k + 1, j, h0, h1 => by
    have e : cntZ set ((k + 1 : Nat) : Int) = cntZ set k + memZ set k := by
      have := cntZ_s (set := set) (k := (k : Int)) (by omega)
      rw [← this]
      rfl
    rw [e] at h1
    show (0 ≤ (if memZ set k = 1 then upZ (mbN set k) (cntZ set k) k else mbN set k) j ∧ (if memZ set k = 1 then upZ (mbN set k) (cntZ set k) k else mbN set k) j < _) ∧ memZ set ((if memZ set k = 1 then upZ (mbN set k) (cntZ set k) k else mbN set k) j) = 1 ∧ cntZ set ((if memZ set k = 1 then upZ (mbN set k) (cntZ set k) k else mbN set k) j) = j
    by_cases q : memZ set k = 1
    · rw [if_pos q]
      by_cases e2 : j = cntZ set k
      · rw [upZ_s e2]
        exact ⟨by omega, q, e2.symm⟩
      · rw [upZ_n e2]
        have := mbN_at (set := set) k j h0 (by omega)
        exact ⟨by omega, this.2⟩
    · rw [if_neg q]
      have h3 := memZ_01 set k
      have := mbN_at (set := set) k j h0 (by omega)
      exact ⟨by omega, this.2⟩
theorem mem_inj {set a b : Int} (ha : 0 ≤ a) (hb : 0 ≤ b) (ma : memZ set a = 1) (mb : memZ set b = 1) (h : cntZ set a = cntZ set b) : a = b := by
  rcases Int.lt_trichotomy a b with q | q | q
  · have h1 := cntZ_s (set := set) ha
    have h2 := cntZ_le (set := set) (i := a + 1) (k := b) (by omega) (by omega)
    omega
  · exact q
  · have h1 := cntZ_s (set := set) hb
    have h2 := cntZ_le (set := set) (i := b + 1) (k := a) (by omega) (by omega)
    omega
/-- a set that can be asked for: of 1 to 4 mirrors that are, none broken -/
noncomputable def okZ (set n : Int) (brk : Int → Int) : Int := isZ ((1 ≤ set ∧ set / 2 ^ n.toNat = 0) ∧ cntZ set n ≤ 4 ∧ ∀ k : Int, 0 ≤ k → k < n → memZ set k = 1 → ¬ brk k = 1)
/-- what a row of aims gives -/
def gS (te aw a : Int → Int) (q j : Int) : Int := if a j = -1 then 0 else raZ (a j + aw j) (te j) q
def fS (base te aw a : Int → Int) (d q : Int) : Int := base q + smZ (gS te aw a q) d.toNat
def rwZ (m r j : Int) : Int := r / 7 ^ (m - 1 - j).toNat % 7 - 1
theorem rwZ_rng (m r j : Int) : -1 ≤ rwZ m r j ∧ rwZ m r j ≤ 5 := by unfold rwZ; omega
noncomputable def bsF (base te aw bound : Int → Int) (m : Int) : Nat → Int × Int
  | 0 => (-1, -1)
  | r + 1 => @ite (Int × Int) (trN (fS base te aw (rwZ m r) m) bound 6 = 0 ∧ (bsF base te aw bound m r).2 < alZ (fS base te aw (rwZ m r) m)) (Classical.propDecidable _) ((r : Int), alZ (fS base te aw (rwZ m r) m)) (bsF base te aw bound m r)
theorem bsF_u (base te aw bound : Int → Int) (m : Int) (r : Nat) : bsF base te aw bound m (r + 1) = @ite (Int × Int) (trN (fS base te aw (rwZ m r) m) bound 6 = 0 ∧ (bsF base te aw bound m r).2 < alZ (fS base te aw (rwZ m r) m)) (Classical.propDecidable _) ((r : Int), alZ (fS base te aw (rwZ m r) m)) (bsF base te aw bound m r) := rfl
theorem bsF_y {base te aw bound : Int → Int} {m r : Int} (hr : 0 ≤ r) (h : trN (fS base te aw (rwZ m r) m) bound 6 = 0 ∧ (bsF base te aw bound m r.toNat).2 < alZ (fS base te aw (rwZ m r) m)) : bsF base te aw bound m (r + 1).toNat = (r, alZ (fS base te aw (rwZ m r) m)) := by
  rw [tN_s hr, bsF_u, tN_c hr]
  exact if_pos h
theorem bsF_n {base te aw bound : Int → Int} {m r : Int} (hr : 0 ≤ r) (h : ¬ (trN (fS base te aw (rwZ m r) m) bound 6 = 0 ∧ (bsF base te aw bound m r.toNat).2 < alZ (fS base te aw (rwZ m r) m))) : bsF base te aw bound m (r + 1).toNat = bsF base te aw bound m r.toNat := by
  rw [tN_s hr, bsF_u, tN_c hr]
  exact if_neg h
theorem bsF_rng {base te aw bound : Int → Int} {m b : Int} (hb : 0 ≤ b) (hs : ∀ r : Int, 0 ≤ alZ (fS base te aw (rwZ m r) m) ∧ alZ (fS base te aw (rwZ m r) m) ≤ b) : ∀ r : Nat, (-1 ≤ (bsF base te aw bound m r).1 ∧ (bsF base te aw bound m r).1 < r) ∧ (-1 ≤ (bsF base te aw bound m r).2 ∧ (bsF base te aw bound m r).2 ≤ b) ∧ ((bsF base te aw bound m r).1 = -1 ↔ (bsF base te aw bound m r).2 = -1)
  | 0 => by show (-1 ≤ (-1 : Int) ∧ (-1 : Int) < ((0 : Nat) : Int)) ∧ (-1 ≤ (-1 : Int) ∧ (-1 : Int) ≤ b) ∧ ((-1 : Int) = -1 ↔ (-1 : Int) = -1); omega
  | r + 1 => by
    have ih := bsF_rng (bound := bound) hb hs r
    have h2 := hs r
    by_cases q : trN (fS base te aw (rwZ m r) m) bound 6 = 0 ∧ (bsF base te aw bound m r).2 < alZ (fS base te aw (rwZ m r) m)
    · have e : bsF base te aw bound m (r + 1) = ((r : Int), alZ (fS base te aw (rwZ m r) m)) := if_pos q
      rw [e]
      show (-1 ≤ (r : Int) ∧ (r : Int) < ((r + 1 : Nat) : Int)) ∧ (-1 ≤ alZ (fS base te aw (rwZ m r) m) ∧ alZ (fS base te aw (rwZ m r) m) ≤ b) ∧ ((r : Int) = -1 ↔ alZ (fS base te aw (rwZ m r) m) = -1)
      omega
    · have e : bsF base te aw bound m (r + 1) = bsF base te aw bound m r := if_neg q
      rw [e]
      omega
/-- the light of the mirrors that are not in a set -/
def bzZ (set : Int) (aim err cor rays : Int → Int) (q k : Int) : Int := if memZ set k = 1 then 0 else ctZ aim err cor rays (-1) 0 q k
def baZ (set n : Int) (aim err cor rays : Int → Int) (q : Int) : Int := smZ (bzZ set aim err cor rays q) n.toNat
def teZ (set n : Int) (rays : Int → Int) (j : Int) : Int := rays (mbZ set n j)
def awZ (set n : Int) (err cor : Int → Int) (j : Int) : Int := err (mbZ set n j) - cor (mbZ set n j)
/-- aims f: a row 'val' for the m mirrors som, all others as in aim -/
def APP (som : Int → Int) (m : Int) (val aim f : Int → Int) : Prop := (∀ j : Int, 0 ≤ j → j < m → f (som j) = val j) ∧ ∀ i : Int, (∀ j : Int, 0 ≤ j → j < m → ¬ som j = i) → f i = aim i
theorem flA {set n m : Int} {som val aim f err cor rays : Int → Int} (hn : 0 ≤ n) (hm : m = cntZ set n) (hs : ∀ j : Int, 0 ≤ j → j < m → som j = mbZ set n j) (hf : APP som m val aim f) (q : Int) : flZ n f err cor rays (-1) 0 q = fS (baZ set n aim err cor rays) (teZ set n rays) (awZ set n err cor) val m q := by
  subst hm
  have hmb : ∀ j : Int, 0 ≤ j → j < cntZ set n → (0 ≤ mbZ set n j ∧ mbZ set n j < n) ∧ memZ set (mbZ set n j) = 1 ∧ cntZ set (mbZ set n j) = j := fun j a b => by
    have := mbN_at (set := set) n.toNat j a (by rw [tN_c hn]; exact b)
    rw [tN_c hn] at this
    exact this
  have key : ∀ k : Nat, (k : Int) ≤ n → smZ (ctZ f err cor rays (-1) 0 q) k = smZ (bzZ set aim err cor rays q) k + smZ (gS (teZ set n rays) (awZ set n err cor) val q) (cntZ set k).toNat := by
    intro k
    induction k with
    | zero => intro _; rfl
    | succ k ih =>
      intro hk
      have h1 := ih (by omega)
      have hc := cntZ_s (set := set) (k := (k : Int)) (by omega)
      have hc0 := cntZ_0 (set := set) (k := (k : Int)) (by omega)
      have hc' : cntZ set ((k + 1 : Nat) : Int) = cntZ set (k : Int) + memZ set k := by rw [← hc]; rfl
      show smZ (ctZ f err cor rays (-1) 0 q) k + ctZ f err cor rays (-1) 0 q k = smZ (bzZ set aim err cor rays q) k + bzZ set aim err cor rays q k + smZ (gS (teZ set n rays) (awZ set n err cor) val q) (cntZ set ((k + 1 : Nat) : Int)).toNat
      rw [hc', h1]
      by_cases m1 : memZ set k = 1
      · have hlt : cntZ set (k : Int) < cntZ set n := by
          have := cntZ_le (set := set) (i := (k : Int) + 1) (k := n) (by omega) (by omega)
          omega
        have e1 : mbZ set n (cntZ set k) = k := by
          have := hmb (cntZ set k) hc0 hlt
          exact mem_inj (by omega) (by omega) this.2.1 m1 this.2.2
        have e2 : f k = val (cntZ set k) := by
          have := hf.1 (cntZ set k) hc0 hlt
          rw [hs _ hc0 hlt, e1] at this
          exact this
        have e3 : bzZ set aim err cor rays q k = 0 := by unfold bzZ; exact if_pos m1
        have e4 : ctZ f err cor rays (-1) 0 q k = gS (teZ set n rays) (awZ set n err cor) val q (cntZ set k) := by
          unfold ctZ gS plZ teZ awZ
          rw [e1, e2, if_neg (show ¬ ((k : Int) = -1) by omega)]
          rw [show val (cntZ set (k : Int)) + err (k : Int) - cor (k : Int) + 0 = val (cntZ set (k : Int)) + (err (k : Int) - cor (k : Int)) from by omega]
        rw [m1, smZ_s hc0, e3, e4]
        omega
      · have m0 : memZ set k = 0 := by have := memZ_01 set k; omega
        have e2 : f k = aim k := hf.2 k (fun j a b e => by
          have := hmb j a b
          rw [← hs j a b, e] at this
          omega)
        have e3 : bzZ set aim err cor rays q k = ctZ f err cor rays (-1) 0 q k := by
          unfold bzZ
          rw [if_neg m1]
          unfold ctZ plZ
          rw [e2]
        rw [m0, e3, Int.add_zero]
        omega
  have := key n.toNat (by omega)
  unfold flZ fS baZ
  rw [this, tN_c hn]
theorem shr_0 {a : Int} {k : Nat} (h : 0 ≤ a) : a / 2 ^ k = 0 ↔ a < 2 ^ k := by
  have h2 : (0 : Int) < 2 ^ k := Int.pow_pos (by omega)
  refine ⟨fun e => ?_, fun e => Int.ediv_eq_zero_of_lt h e⟩
  rcases Int.lt_or_le a (2 ^ k) with q | q
  · exact q
  · have := Int.le_ediv_of_mul_le h2 (by rw [Int.one_mul]; exact q : 1 * (2 ^ k : Int) ≤ a)
    omega
theorem pow7 {k : Int} (h : 0 ≤ k ∧ k ≤ 4) : (1 : Int) ≤ 7 ^ k.toNat ∧ (7 : Int) ^ k.toNat ≤ 2401 := by
  rcases (show k = 0 ∨ k = 1 ∨ k = 2 ∨ k = 3 ∨ k = 4 by omega) with rfl | rfl | rfl | rfl | rfl <;> decide
theorem pow7_s {k : Int} (h : 0 ≤ k) : (7 : Int) ^ (k + 1).toNat = 7 ^ k.toNat * 7 := by rw [tN_s h, Int.pow_succ]
theorem rwZ_at {m r k rest : Int} (hk : k < m) (h : rest = r / 7 ^ (m - 1 - k).toNat) : rest % 7 - 1 = rwZ m r k := by rw [h]; rfl
theorem rwZ_st {m r k rest : Int} (hk : k < m) (h : rest = r / 7 ^ (m - 1 - k).toNat) : rest / 7 = r / 7 ^ (m - 1 - (k - 1)).toNat := by
  rw [h, show m - 1 - (k - 1) = (m - 1 - k) + 1 from by omega, pow7_s (by omega), Int.ediv_ediv_of_nonneg (Int.le_of_lt (Int.pow_pos (by omega)))]
theorem rwZ_s0 {m r : Int} : r = r / 7 ^ (m - 1 - (m - 1)).toNat := by
  rw [show m - 1 - (m - 1) = 0 from by omega]
  show r = r / 1
  rw [Int.ediv_one]
theorem sm_at {set n m : Int} {som : Int → Int} (hn : 0 ≤ n) (hm : m = cntZ set n) (hs : ∀ j : Int, 0 ≤ j → j < m → som j = mbZ set n j) : ∀ j : Int, 0 ≤ j → j < m → (0 ≤ som j ∧ som j < n) ∧ memZ set (som j) = 1 ∧ cntZ set (som j) = j := fun j a b => by
  have := mbN_at (set := set) n.toNat j a (by rw [tN_c hn]; omega)
  rw [tN_c hn] at this
  rw [hs j a b]
  exact this
theorem baZ_cong {set n : Int} {aim err cor rays rays2 : Int → Int} (hn : 0 ≤ n) (h : ∀ j : Int, 0 ≤ j → j < n → rays j = rays2 j) (q : Int) : baZ set n aim err cor rays q = baZ set n aim err cor rays2 q :=
  smZ_cong (k := n) (fun j a b => by unfold bzZ ctZ; rw [h j a b]) n.toNat (by omega)
theorem fS_cong {base base2 te te2 aw a : Int → Int} {m : Int} (hb : ∀ q : Int, base q = base2 q) (ht : ∀ j : Int, 0 ≤ j → j < m → te j = te2 j) (q : Int) : fS base te aw a m q = fS base2 te2 aw a m q := by
  unfold fS
  rw [hb q]
  by_cases hm : 0 ≤ m
  · rw [smZ_cong (g := gS te2 aw a q) (k := m) (fun j a0 b => by unfold gS; rw [ht j a0 b]) m.toNat (by omega)]
  · rw [show m.toNat = 0 by omega]
    rfl
theorem bsF_cong {base base2 te te2 aw bound : Int → Int} {m : Int} (hb : ∀ q : Int, base q = base2 q) (ht : ∀ j : Int, 0 ≤ j → j < m → te j = te2 j) : ∀ r : Nat, bsF base te aw bound m r = bsF base2 te2 aw bound m r
  | 0 => rfl
  | r + 1 => by
    have e : fS base te aw (rwZ m r) m = fS base2 te2 aw (rwZ m r) m := funext (fS_cong hb ht)
    rw [bsF_u, bsF_u, e, bsF_cong hb ht r]
/-- the best row, by its number, and its sum -/
noncomputable def bstZ (set n : Int) (aim err cor rays bound : Int → Int) : Int × Int := bsF (baZ set n aim err cor rays) (teZ set n rays) (awZ set n err cor) bound (cntZ set n) ((7 : Int) ^ (cntZ set n).toNat).toNat
theorem zI_n (n : Nat) : zI (n : Int) = nI n := Int32.ofInt_eq_ofNat
theorem sh_l : ∀ n, n < 32 → ((nI n &&& 31).toBitVec.smod 32).toNat = n := by decide +kernel
theorem zI_shr {a b : Int} (ha : 0 ≤ a ∧ a < 2147483648) (hb : 0 ≤ b ∧ b ≤ 31) : zI a >>> (zI b &&& 31) = zI (a / 2 ^ b.toNat) := by
  obtain ⟨n, rfl⟩ := Int.eq_ofNat_of_zero_le ha.1
  obtain ⟨k, rfl⟩ := Int.eq_ofNat_of_zero_le hb.1
  rw [zI_n, zI_n, pk_shrN (by omega) _ k (sh_l k (by omega)), ← zI_n, Int.toNat_natCast, Int.natCast_ediv, Int.natCast_pow]
  rfl
theorem zI_and1 {a : Int} (ha : 0 ≤ a ∧ a < 2147483648) : zI a &&& zI 1 = zI (a % 2) := by
  obtain ⟨n, rfl⟩ := Int.eq_ofNat_of_zero_le ha.1
  rw [zI_n, pk_andN (by omega) 1 (by decide), ← zI_n]
  rfl
theorem zI_shl1 {b : Int} (hb : 0 ≤ b ∧ b ≤ 30) : zI 1 <<< (zI b &&& 31) = zI (2 ^ b.toNat) := by
  obtain ⟨k, rfl⟩ := Int.eq_ofNat_of_zero_le hb.1
  have h2 : 2 ^ k ≤ 2 ^ 30 := Nat.pow_le_pow_right (by omega) (by omega)
  have e1 : zI 1 = nI 1 := rfl
  rw [zI_n, e1, pk_shlN _ k (sh_l k (by omega)) (by omega), ← zI_n, Int.toNat_natCast, Nat.one_mul, Int.natCast_pow]
  rfl
section HZ3
variable {p : Program} {l : Launch} {e : Env} {R : Room} {s : State} {m : MethodId} {args : Array Value} {below : List Frame} {meth : Method} {c : Code} {H : Heap} {locs : List Loc} {cells slots : Nat} {Q : State → Prop}
variable {cc : ByteArray} {pc : Nat} {ls : Array Slot} {rest : List Value}
theorem hz_ishr (hx : p.tables.exec = Jvm.exec) (hb : c.code = cc) {a b : Int} (hdg : decode cc pc = .ok (.ishr, 1)) (h : (0 ≤ a ∧ a < 2147483648) ∧ 0 ≤ b ∧ b ≤ 31) (k : W p l e R s m args below meth c H locs cells slots Q (F0 m (pc + 1) ls (zi (a / 2 ^ b.toNat) :: rest))) : W p l e R s m args below meth c H locs cells slots Q (F0 m pc ls (zi b :: zi a :: rest)) := lv_ishr hx hb hdg (by rw [zI_shr h.1 h.2]; exact k)
theorem hz_iand1 (hx : p.tables.exec = Jvm.exec) (hb : c.code = cc) {a : Int} (hdg : decode cc pc = .ok (.iand, 1)) (h : 0 ≤ a ∧ a < 2147483648) (k : W p l e R s m args below meth c H locs cells slots Q (F0 m (pc + 1) ls (zi (a % 2) :: rest))) : W p l e R s m args below meth c H locs cells slots Q (F0 m pc ls (zi 1 :: zi a :: rest)) := lv_iand hx hb hdg (by rw [zI_and1 h]; exact k)
theorem hz_ishl1 (hx : p.tables.exec = Jvm.exec) (hb : c.code = cc) {b : Int} (hdg : decode cc pc = .ok (.ishl, 1)) (h : 0 ≤ b ∧ b ≤ 30) (k : W p l e R s m args below meth c H locs cells slots Q (F0 m (pc + 1) ls (zi (2 ^ b.toNat) :: rest))) : W p l e R s m args below meth c H locs cells slots Q (F0 m pc ls (zi b :: zi 1 :: rest)) := lv_ishl hx hb hdg (by rw [zI_shl1 h]; exact k)
end HZ3
theorem shr_rng {a : Int} {k : Nat} (h : 0 ≤ a ∧ a < 2147483648) : 0 ≤ a / 2 ^ k ∧ a / 2 ^ k < 2147483648 := by
  have h1 : 0 ≤ a / 2 ^ k := Int.ediv_nonneg h.1 (Int.le_of_lt (Int.pow_pos (by omega)))
  have h2 : a / 2 ^ k ≤ a := Int.ediv_le_self _ h.1
  omega
theorem okZ_n1 {set n : Int} {brk : Int → Int} (h : ¬ (1 ≤ set ∧ set / 2 ^ n.toNat = 0)) : okZ set n brk = 0 := isZ_0 (fun q => h q.1)
theorem okZ_n2 {set n k : Int} {brk : Int → Int} (hk : 0 ≤ k) (hn : k < n) (hm : memZ set k = 1) (h : 4 ≤ cntZ set k ∨ brk k = 1) : okZ set n brk = 0 := isZ_0 (fun q => by
  have q1 := q.2.1
  have q2 := cntZ_s (set := set) hk
  have q3 := cntZ_le (set := set) (i := k + 1) (k := n) (by omega) (by omega)
  rcases h with h | h
  · omega
  · exact q.2.2 k hk hn hm h)
theorem okZ_y {set n k : Int} {brk : Int → Int} (h1 : 1 ≤ set ∧ set / 2 ^ n.toNat = 0) (e : k = n) (h2 : cntZ set k ≤ 4) (h3 : ∀ i : Int, 0 ≤ i → i < k → memZ set i = 1 → ¬ brk i = 1) : okZ set n brk = 1 := by
  subst e
  exact isZ_1 ⟨h1, h2, h3⟩
