/-! the class's world: a list and a thing more -/
theorem pm_cnt {α : Type} {l1 l2 : List α} (h : ∀ (inst : DecidableEq α) (a : α), l1.count a = l2.count a) : l1.Perm l2 := by
  classical
  exact List.perm_iff_count.mpr (fun a => h _ a)
theorem pm_1 {α : Type} (F L1 L2 M C : List α) (c d x : α) : (x :: (F ++ c :: d :: (L1 ++ (L2 ++ (M ++ C))))).Perm ((c :: L1) ++ (x :: (F ++ d :: (L2 ++ (M ++ C))))) := pm_cnt fun _ a => by
  simp only [List.count_cons, List.count_append]
  omega
theorem pm_1b {α : Type} (F L1 L2 M C : List α) (c d x e : α) : ([c, e] ++ (x :: (F ++ d :: (L2 ++ (M ++ C))))).Perm (F ++ c :: d :: ([e] ++ (L2 ++ ((M ++ [x]) ++ C)))) := pm_cnt fun _ a => by
  simp only [List.count_cons, List.count_append, List.count_nil]
  omega
theorem pm_2 {α : Type} (F L1 L2 M C : List α) (c d x : α) : (x :: (F ++ c :: d :: (L1 ++ (L2 ++ (M ++ C))))).Perm ((d :: L2) ++ (x :: (F ++ c :: (L1 ++ (M ++ C))))) := pm_cnt fun _ a => by
  simp only [List.count_cons, List.count_append]
  omega
theorem pm_2b {α : Type} (F L1 L2 M C : List α) (c d x e : α) : ([d, e] ++ (x :: (F ++ c :: (L1 ++ (M ++ C))))).Perm (F ++ c :: d :: (L1 ++ ([e] ++ (M ++ (C ++ [x]))))) := pm_cnt fun _ a => by
  simp only [List.count_cons, List.count_append, List.count_nil]
  omega
theorem pm_3 {α : Type} (F L1 L2 M C : List α) (c d : α) : (F ++ c :: d :: (L1 ++ (L2 ++ (M ++ C)))).Perm ((d :: L2) ++ (F ++ c :: (L1 ++ (M ++ C)))) := pm_cnt fun _ a => by
  simp only [List.count_cons, List.count_append]
  omega
theorem pm_3b {α : Type} (F L1 L2 M C : List α) (c d : α) : ((d :: L2) ++ (F ++ c :: (L1 ++ (M ++ C)))).Perm (C ++ (F ++ c :: d :: (L1 ++ (L2 ++ (M ++ []))))) := pm_cnt fun _ a => by
  simp only [List.count_cons, List.count_append, List.count_nil]
  omega
theorem hz_Pa {D : va_G} {cl : List vw_C} {w1 w2 : va_W} {H : Heap} (h1 : va_P D cl w1 H) (h2 : va_P D cl w2 H) : va_P D cl (w1 ++ w2) H := h1.app h2
theorem hz_Pl {D : va_G} {cl : List vw_C} {w1 w2 : va_W} {H : Heap} (h : va_P D cl (w1 ++ w2) H) : va_P D cl w1 H := hz_Pm (fun _ hq => List.mem_append_left _ hq) h
theorem hz_Pr {D : va_G} {cl : List vw_C} {w1 w2 : va_W} {H : Heap} (h : va_P D cl (w1 ++ w2) H) : va_P D cl w2 H := hz_Pm (fun _ hq => List.mem_append_right _ hq) h
theorem hz_Dl1 {A : Nat → Prop} {w1 w2 : va_W} (h : va_D A (w1 ++ w2)) : va_D A w1 := by
  rw [hz_Dl] at h ⊢
  rw [List.map_append] at h
  exact ⟨(List.nodup_append.mp h.1).1, fun q hq => h.2 q (List.mem_append_left _ hq)⟩
theorem hz_Dr1 {A : Nat → Prop} {w1 w2 : va_W} (h : va_D A (w1 ++ w2)) : va_D A w2 := by
  rw [hz_Dl] at h ⊢
  rw [List.map_append] at h
  exact ⟨(List.nodup_append.mp h.1).2.1, fun q hq => h.2 q (List.mem_append_right _ hq)⟩
theorem hz_freeP {A : Nat → Prop} {wc wr : va_W} {H0 H : Heap} {locs : List Loc} (hD : va_D A (wc ++ wr)) (hS : va_S A H0 H locs) (hA : ∀ q, H0.size ≤ q → A q) : ∀ q, va_A wc H.size q → A q := hz_freeW (hz_Dl1 hD) hS hA
/-- what is in the rest is not the callee's -/
theorem hz_apart {D : va_G} {cl : List vw_C} {A : Nat → Prop} {wc wr : va_W} {H : Heap} (hP : va_P D cl (wc ++ wr) H) (hD : va_D A (wc ++ wr)) {q : Nat × va_E} (hq : q ∈ wr) : q.1 < H.size ∧ ¬ va_A wc H.size q.1 := by
  obtain ⟨i, hi⟩ := List.getElem?_of_mem (List.mem_append_right wc hq)
  have hl := (hP i q hi).lt
  refine ⟨hl, ?_⟩
  rintro (⟨k, e, hk⟩ | h)
  · have hD' := (hz_Dl.mp hD).1
    rw [List.map_append, List.nodup_append] at hD'
    exact hD'.2.2 q.1 (List.mem_map.mpr ⟨(q.1, e), List.mem_of_getElem? hk, rfl⟩) q.1 (List.mem_map.mpr ⟨q, hq, rfl⟩) rfl
  · omega
theorem hz_joinP {D : va_G} {cl : List vw_C} {A : Nat → Prop} {wc wr w1 : va_W} {H H1 : Heap} (hP : va_P D cl (wc ++ wr) H) (hD : va_D A (wc ++ wr)) (hk : ∀ q : Nat, q < H.size → ¬ va_A wc H.size q → H1[q]? = H[q]?) (hF : ∀ q, va_A wc H.size q → A q) (hP1 : va_P D cl w1 H1) (hD1 : va_D (va_A wc H.size) w1) : va_P D cl (w1 ++ wr) H1 ∧ va_D A (w1 ++ wr) := by
  refine ⟨hz_Pa hP1 (fun k q hq => ?_), ?_⟩
  · obtain ⟨g1, g2⟩ := hz_apart hP hD (List.mem_of_getElem? hq)
    exact ((hz_Pr hP) k q hq).kept (hk q.1 g1 g2)
  · have hr := hz_Dl.mp (hz_Dr1 hD)
    have h1 := hz_Dl.mp hD1
    refine hz_Dl.mpr ⟨?_, fun q hq => ?_⟩
    · rw [List.map_append, List.nodup_append]
      refine ⟨h1.1, hr.1, fun a ha b hb e => ?_⟩
      obtain ⟨x, hx, rfl⟩ := List.mem_map.mp ha
      obtain ⟨w, hw, rfl⟩ := List.mem_map.mp hb
      have h2 := h1.2 x hx
      rw [e] at h2
      exact (hz_apart hP hD hw).2 h2
    · rcases List.mem_append.mp hq with h | h
      · exact hF q.1 (h1.2 q h)
      · exact hr.2 q h
theorem hz_joinV {D : va_G} {cl : List vw_C} {A : Nat → Prop} {wc wr w1 : va_W} {H H1 : Heap} (hP : va_P D cl (wc ++ wr) H) (hD : va_D A (wc ++ wr)) (hk : ∀ q : Nat, q < H.size → ¬ va_A wc H.size q → H1[q]? = H[q]?) (hF : ∀ q, va_A wc H.size q → A q) (hP1 : va_P D cl w1 H1) (he : w1.map Prod.fst = wc.map Prod.fst) : va_P D cl (w1 ++ wr) H1 ∧ va_D A (w1 ++ wr) := hz_joinP hP hD hk hF hP1 (hz_Dc ((hz_Dl1 hD).self) he)
theorem hz_anyR {D : va_G} {tys : List (ClassId × FieldType)} {A : Nat → Prop} {wc wr : va_W} {H : Heap} {s : State} {x ci : Nat} {fs : List Value} {r : vw_C} (hK : va_K D vwCl tys s) (hP : va_P D vwCl (wc ++ wr) H) (hD : va_D A (wc ++ wr)) (hq : (x, .inr (ci, fs)) ∈ wr) (hc : vwCl[ci]? = some r) (hca : va_Nw (.castable r.1 "java/lang/Object") s) : va_Any "java/lang/Object" s H x ∧ ¬ va_A wc H.size x := by
  obtain ⟨i, hi⟩ := List.getElem?_of_mem hq
  exact ⟨va_rAny hK (hz_Pr hP) hi hc (fun comp c0 h1 h2 => vb_asgC hca comp c0 h1 h2), (hz_apart hP hD hq).2⟩
section HPP
variable {H : Heap} {locs : List Loc} {s : State} {D : va_G} {A : Nat → Prop} {zE mi : Nat} {tys : List (ClassId × FieldType)} {wc wr : va_W}
theorem hz_preP {av : List Value} (hP : va_P D vwCl (wc ++ wr) H) (hK : va_K D vwCl tys s) (hD : va_D A (wc ++ wr)) : ∀ U : State, U.heap = H → s.WarmedH U.vm → va_Pc av (HPre D tys wc H.size) av.toArray U := hz_preW (hz_Pl hP) hK (hz_Dl1 hD)
theorem hz_preXP {av : List Value} {L : Nat → Prop} (hP : va_P D vwCl (wc ++ wr) H) (hK : va_K D vwCl tys s) (hD : va_D A (wc ++ wr)) (hS : va_S A s.heap H locs) (hA : ∀ q, s.heap.size ≤ q → A q) (hG : GP zE A s s.heap) (hX : GX mi s) (hL : ∀ x, L x → va_Any "java/lang/Object" s H x ∧ ¬ va_A wc H.size x) : ∀ U : State, U.heap = H → s.WarmedH U.vm → va_Pc av (HPreX mi zE D tys wc H.size L) av.toArray U := fun U hU hW => ⟨rfl, (hz_preWG (av := av) (hz_Pl hP) hK (hz_Dl1 hD) hS hA hG U hU hW).2, hX.warm hW, fun x hx => ⟨by rw [hU]; exact hz_anyM hW.alike (hL x hx).1, (hL x hx).2⟩⟩
end HPP
theorem mpW_s {z z' : LZ} {n : Int} {cell dirt aim err cor brk : Int → Int} {c : Int} {q : Nat} (h0 : 0 ≤ n) (hz : ∀ k : Int, 0 ≤ k → k < n → zam z' k = zam z k) (hq : zam z' n = q) (hd : dirt n = 0 ∧ err n = 0 ∧ cor n = 0 ∧ brk n = 0) : mpW z' (n + 1).toNat (upZ cell n c) dirt (upZ aim n (-1)) err cor brk = mpW z n.toNat cell dirt aim err cor brk ++ [(q, miE c 0 (-1) 0 0 0)] := by
  unfold mpW
  rw [show (n + 1).toNat = n.toNat + 1 from by omega, List.range_succ, List.map_append]
  congr 1
  · refine List.map_congr_left fun k hk => ?_
    have hk' := List.mem_range.mp hk
    rw [hz k (by omega) (by omega), upZ_n (by omega), upZ_n (by omega)]
  · have e : ((n.toNat : Nat) : Int) = n := by omega
    simp only [List.map_cons, List.map_nil, e, hq, upZ_s, hd.1, hd.2.1, hd.2.2.1, hd.2.2.2]
theorem cpW_s {z z' : LZ} {n : Int} {top lm rows cols down right : Int → Int} {t l r c d g : Int} {q : Nat} (h0 : 0 ≤ n) (hz : ∀ k : Int, 0 ≤ k → k < n → zac z' k = zac z k) (hq : zac z' n = q) : cpW z' (n + 1).toNat (upZ top n t) (upZ lm n l) (upZ rows n r) (upZ cols n c) (upZ down n d) (upZ right n g) = cpW z n.toNat top lm rows cols down right ++ [(q, clE t l r c d g)] := by
  unfold cpW
  rw [show (n + 1).toNat = n.toNat + 1 from by omega, List.range_succ, List.map_append]
  congr 1
  · refine List.map_congr_left fun k hk => ?_
    have hk' := List.mem_range.mp hk
    rw [hz k (by omega) (by omega), upZ_n (by omega), upZ_n (by omega), upZ_n (by omega), upZ_n (by omega), upZ_n (by omega), upZ_n (by omega)]
  · have e : ((n.toNat : Nat) : Int) = n := by omega
    simp only [List.map_cons, List.map_nil, e, hq, upZ_s]
/-- the list as it is after a mirror more (a cloud more) -/
def zM (z : LZ) (n : Int) (n1 : Nat) (f1 : Nat → Option Nat) (e1 q : Nat) : LZ := (z.1 + zI 1, true, e1, n1, f1, fun j => if j = n.toNat then q else z.2.2.2.2.2.1 j, z.2.2.2.2.2.2)
def zC (z : LZ) (n : Int) (n1 : Nat) (f1 : Nat → Option Nat) (e1 q : Nat) : LZ := (z.1, z.2.1, z.2.2.1, z.2.2.2.1, z.2.2.2.2.1, z.2.2.2.2.2.1, z.2.2.2.2.2.2.1 + zI 1, true, e1, n1, f1, fun j => if j = n.toNat then q else z.2.2.2.2.2.2.2.2.2.2.2 j)
def zD (z : LZ) (m : Int32) (g : Nat → Option Nat) : LZ := (z.1, z.2.1, z.2.2.1, z.2.2.2.1, z.2.2.2.2.1, z.2.2.2.2.2.1, m, z.2.2.2.2.2.2.2.1, z.2.2.2.2.2.2.2.2.1, z.2.2.2.2.2.2.2.2.2.1, g, z.2.2.2.2.2.2.2.2.2.2.2)
def LZe (z : LZ) (zE : Nat) : Prop := (z.2.1 = false → z.2.2.1 = zE) ∧ (z.2.2.2.2.2.2.2.1 = false → z.2.2.2.2.2.2.2.2.1 = zE)
theorem zM_ok {z : LZ} {n c : Int} {n1 : Nat} {f1 : Nat → Option Nat} {e1 q zE : Nat} (h : LZok z n c) (he : LZe z zE) (h0 : 0 ≤ n) (ha : adF n q z.2.2.2.2.1 (n1, f1, e1)) : LZok (zM z n n1 f1 e1 q) (n + 1) c ∧ LZe (zM z n n1 f1 e1 q) zE := by
  refine ⟨⟨⟨Or.inl rfl, ⟨ha.1.1, ha.1.2⟩, fun k h1 h2 => ?_⟩, h.2⟩, ⟨fun h => (by cases h), he.2⟩⟩
  show f1 k.toNat = some (if k.toNat = n.toNat then q else z.2.2.2.2.2.1 k.toNat)
  by_cases e : k = n
  · subst e
    rw [if_pos rfl]
    exact ha.2.1
  · rw [if_neg (by omega), show f1 k.toNat = z.2.2.2.2.1 k.toNat from ha.2.2 k.toNat (by omega)]
    exact h.1.2.2 k h1 (by omega)
theorem zC_ok {z : LZ} {n c : Int} {n1 : Nat} {f1 : Nat → Option Nat} {e1 q zE : Nat} (h : LZok z n c) (he : LZe z zE) (h0 : 0 ≤ c) (ha : adF c q z.2.2.2.2.2.2.2.2.2.2.1 (n1, f1, e1)) : LZok (zC z c n1 f1 e1 q) n (c + 1) ∧ LZe (zC z c n1 f1 e1 q) zE := by
  refine ⟨⟨h.1, Or.inl rfl, ⟨ha.1.1, ha.1.2⟩, fun k h1 h2 => ?_⟩, ⟨he.1, fun h => (by cases h)⟩⟩
  show f1 k.toNat = some (if k.toNat = c.toNat then q else z.2.2.2.2.2.2.2.2.2.2.2 k.toNat)
  by_cases e : k = c
  · subst e
    rw [if_pos rfl]
    exact ha.2.1
  · rw [if_neg (by omega), show f1 k.toNat = z.2.2.2.2.2.2.2.2.2.2.1 k.toNat from ha.2.2 k.toNat (by omega)]
    exact h.2.2.2 k h1 (by omega)
theorem zD_ok {z : LZ} {n c : Int} {m : Int32} {g : Nat → Option Nat} {zE : Nat} (h : LZok z n c) (he : LZe z zE) : LZok (zD z m g) n 0 ∧ LZe (zD z m g) zE := ⟨⟨h.1, Or.inr rfl, ⟨by have := h.2.2.1; show (0 : Int) ≤ ((z.2.2.2.2.2.2.2.2.2.1 : Nat) : Int); omega, h.2.2.1.2⟩, fun k h1 h2 => by omega⟩, he⟩
def hF (ah : Nat → Nat) (y : Nat → ClassId) (vN vC vNow vHaze vCold vHot vPipe vDeg vThaw vTrc vTurb vLeft vLoad vWater vTrips vMi1 vMi2 vSz vBs : Int) (vCell vDirt vAim vErr vCor vBrk vTop vLm vRows vCols vDown vRight vBound vStrain vPrice vFirm vSums vTk vFl1 vFl2 vTe vAw vRo vBe : Int → Int) : va_W := [(ah 0, .inr (8, [.ref (ah 1), .ref (ah 2), .ref (ah 3), .ref (ah 7), .ref (ah 8), zi vTrips, zi vCold, zi vHot, .ref (ah 5), .ref (ah 6), zi vWater, .ref (ah 9), .ref (ah 10), .ref (ah 18)])), (ah 1, .inr (3, [.ref (ah 19), .ref (ah 20), .ref (ah 11), zi vNow, zi vHaze])), (ah 2, .inr (4, [.ref (ah 12), zi vMi1])), (ah 3, .inr (1, [.ref (ah 4), .ref (ah 14), .ref (ah 15), .ref (ah 16), .ref (ah 17), zi vSz, zi vBs])), (ah 4, .inr (4, [.ref (ah 13), zi vMi2])), (ah 5, .inr (6, [zi vPipe, zi vDeg, zi vTrc, zi vThaw])), (ah 6, .inr (7, [zi vTurb, zi vLoad, zi vLeft])), (ah 7, .inl (y 0, 6, .inl (IA vBound))), (ah 8, .inl (y 0, 6, .inl (IA vStrain))), (ah 9, .inl (y 0, 24, .inl (IA vPrice))), (ah 10, .inl (y 0, 24, .inl (IA vFirm))), (ah 11, .inl (y 2, 64, .inl (IA vTk))), (ah 12, .inl (y 0, 6, .inl (IA vFl1))), (ah 13, .inl (y 0, 6, .inl (IA vFl2))), (ah 14, .inl (y 0, 4, .inl (IA vTe))), (ah 15, .inl (y 0, 4, .inl (IA vAw))), (ah 16, .inl (y 0, 4, .inl (IA vRo))), (ah 17, .inl (y 0, 4, .inl (IA vBe))), (ah 18, .inl (y 1, 13, .inr (.inl (LA vSums))))]
theorem hW_eq {ah : Nat → Nat} {z : LZ} {y : Nat → ClassId} {vN vC vNow vHaze vCold vHot vPipe vDeg vThaw vTrc vTurb vLeft vLoad vWater vTrips vMi1 vMi2 vSz vBs : Int} {vCell vDirt vAim vErr vCor vBrk vTop vLm vRows vCols vDown vRight vBound vStrain vPrice vFirm vSums vTk vFl1 vFl2 vTe vAw vRo vBe : Int → Int} : (hW ah z y vN vC vNow vHaze vCold vHot vPipe vDeg vThaw vTrc vTurb vLeft vLoad vWater vTrips vMi1 vMi2 vSz vBs vCell vDirt vAim vErr vCor vBrk vTop vLm vRows vCols vDown vRight vBound vStrain vPrice vFirm vSums vTk vFl1 vFl2 vTe vAw vRo vBe) = hF ah y vN vC vNow vHaze vCold vHot vPipe vDeg vThaw vTrc vTurb vLeft vLoad vWater vTrips vMi1 vMi2 vSz vBs vCell vDirt vAim vErr vCor vBrk vTop vLm vRows vCols vDown vRight vBound vStrain vPrice vFirm vSums vTk vFl1 vFl2 vTe vAw vRo vBe ++ (ah 19, .inr (0, [.int z.1, .ref z.2.2.1, zi vN])) :: (ah 20, .inr (0, [.int z.2.2.2.2.2.2.1, .ref z.2.2.2.2.2.2.2.2.1, zi vC])) :: (leW z.2.1 z.2.2.1 (y 3) z.2.2.2.1 z.2.2.2.2.1 ++ (leW z.2.2.2.2.2.2.2.1 z.2.2.2.2.2.2.2.2.1 (y 3) z.2.2.2.2.2.2.2.2.2.1 z.2.2.2.2.2.2.2.2.2.2.1 ++ (mpW z vN.toNat vCell vDirt vAim vErr vCor vBrk ++ cpW z vC.toNat vTop vLm vRows vCols vDown vRight))) := rfl
