/-! the run's start: what stands in the tables and in the statics -/
theorem lw_nw : ∀ w ∈ nwL, w ∈ lw_tbl := by decide +kernel
theorem lw_xw : ∀ w ∈ xwL, w ∈ lw_tbl := by decide +kernel
theorem lw_st : ∀ q ∈ stL, Cond.stringRef "Heliokeep" q.1 q.2 ∈ lw_tbl := by decide +kernel
theorem nwL_o : ∀ w ∈ nwL, w.onTables = true := List.all_eq_true.mp (by decide +kernel)
theorem lw_sel : ∀ j : Nat, j < 24 → Cond.eq (Term.elem (Term.static "Heliokeep" "STRENGTHS" "[I") (Term.int (Int32.ofNat j))) (Term.int (zI (strZ (j : Int)))) ∈ flatC (Jvm.Cond.and given_1 narrow_1) := by decide +kernel
theorem lw_known {s : State} {args : Array Value} (hts : ∀ w ∈ lw_tbl, w.before args s = true) : ∀ (k : Nat) (q : vw_C), vwCl[k]? = some q → ∃ (c : ClassId) (iS : Nat → Nat), u_Kn s q.1 q.2.1 q.2.2 c iS := by
  intro k q hq
  match k, hq with
  | 0, hq => cases hq; exact u_known (n := 3) hts wsJx4a65c0_tin (hts (.instantiable RJx4a65c 3) (by decide +kernel))
  | 1, hq => cases hq; exact u_known (n := 7) hts wsX00_tin (hts (.instantiable RX0 7) (by decide +kernel))
  | 2, hq => cases hq; exact u_known (n := 6) hts wsX10_tin (hts (.instantiable RX1 6) (by decide +kernel))
  | 3, hq => cases hq; exact u_known (n := 5) hts wsX20_tin (hts (.instantiable RX2 5) (by decide +kernel))
  | 4, hq => cases hq; exact u_known (n := 2) hts wsX30_tin (hts (.instantiable RX3 2) (by decide +kernel))
  | 5, hq => cases hq; exact u_known (n := 8) hts wsX40_tin (hts (.instantiable RX4 8) (by decide +kernel))
  | 6, hq => cases hq; exact u_known (n := 4) hts wsX50_tin (hts (.instantiable RX5 4) (by decide +kernel))
  | 7, hq => cases hq; exact u_known (n := 3) hts wsX60_tin (hts (.instantiable RX6 3) (by decide +kernel))
  | 8, hq => cases hq; exact u_known (n := 14) hts wsX70_tin (hts (.instantiable RX7 14) (by decide +kernel))
  | k + 9, hq => cases hq
theorem lw_classes {s : State} {args : Array Value} (hts : ∀ w ∈ lw_tbl, w.before args s = true) : ∃ G : va_G, ∀ (k : Nat) (q : vw_C), vwCl[k]? = some q → u_Kn s q.1 q.2.1 q.2.2 (G.1 k) (G.2 k) := by
  have h : ∀ k : Nat, ∃ r : ClassId × (Nat → Nat), ∀ q : vw_C, vwCl[k]? = some q → u_Kn s q.1 q.2.1 q.2.2 r.1 r.2 := fun k => by
    cases hk : vwCl[k]? with
    | none => exact ⟨(0, fun _ => 0), fun q h => by cases h⟩
    | some q =>
      obtain ⟨c, i, h⟩ := lw_known hts k q hk
      exact ⟨(c, i), fun q' h' => by cases h'; exact h⟩
  exact ⟨(fun k => (Classical.choose (h k)).1, fun k => (Classical.choose (h k)).2), fun k q hq => Classical.choose_spec (h k) q hq⟩
theorem lw_arrs {s : State} {args : Array Value} (hts : ∀ w ∈ lw_tbl, w.before args s = true) : ∃ y : Nat → ClassId, ∀ (k : Nat) (q : ClassId × FieldType), (tyL y)[k]? = some q → ArrOfT s q.1 q.2 ∧ va_RA s q.1 q.2 := by
  obtain ⟨c0, k0, p0, a0, b0, d0⟩ := Cond.arrayClass_spec (hts (.arrayClass .int) (by decide +kernel))
  obtain ⟨c1, k1, p1, a1, b1, d1⟩ := Cond.arrayClass_spec (hts (.arrayClass .long) (by decide +kernel))
  obtain ⟨c2, k2, p2, a2, b2, d2⟩ := Cond.arrayClass_spec (hts (.arrayClass .boolean) (by decide +kernel))
  obtain ⟨p3, c3, k3, a3, _, b3, d3, e3⟩ := Cond.arrayOver_spec (hts (.arrayOver (.object "java/lang/Object")) (by decide +kernel))
  refine ⟨fun n => if n = 0 then c0 else if n = 1 then c1 else if n = 2 then c2 else c3, ?_⟩
  intro k q hq
  match k, hq with
  | 0, hq => cases hq; exact ⟨fun n z => ⟨fun k h => (by cases h), k0, b0, p0, d0⟩, a0⟩
  | 1, hq => cases hq; exact ⟨fun n z => ⟨fun k h => (by cases h), k1, b1, p1, d1⟩, a1⟩
  | 2, hq => cases hq; exact ⟨fun n z => ⟨fun k h => (by cases h), k2, b2, p2, d2⟩, a2⟩
  | 3, hq => cases hq; exact ⟨fun n z => ⟨fun k h => (by cases h), k3, b3, p3, d3⟩, k3, p3, b3, d3, a3, e3⟩
  | k + 4, hq => cases hq
section LGP
variable {s : State} {b : Nat}
theorem lw_zE (hts : ∀ w ∈ lw_tbl, w.before #[Value.ref b] s = true) (hn : ∀ w ∈ flatC (Jvm.Cond.and given_1 narrow_1), w.before #[Value.ref b] s = true) : ∃ zE : Nat, va_Z "java/util/ArrayList" "DEFAULTCAPACITY_EMPTY_ELEMENTDATA" "[Ljava/lang/Object;" (.ref zE) (fun q : Nat => s.heap.size ≤ q) s s.heap ∧ va_T (.object "java/lang/Object") zE 0 (fun _ => .null) (fun q : Nat => s.heap.size ≤ q) s s.heap := by
  have hA0 : ∀ a : Nat, a < s.heap.size → ¬ (fun q : Nat => s.heap.size ≤ q) a := fun a h => Nat.not_le.mpr h
  obtain ⟨t, ht, hT⟩ := va_Tof (tm := Term.static "java/util/ArrayList" "DEFAULTCAPACITY_EMPTY_ELEMENTDATA" "[Ljava/lang/Object;") (ty := .object "java/lang/Object") (N := 0) (f := fun _ => .null) (by decide) (hn _ (by decide +kernel)) (va_eqt (z := Int32.ofNat 0) (hn _ (by decide +kernel))) (fun j hj => absurd hj (Nat.not_lt_zero j)) hA0
  exact ⟨t, va_Zof (hts (.laysStatic "java/util/ArrayList" "DEFAULTCAPACITY_EMPTY_ELEMENTDATA" "[Ljava/lang/Object;") (by decide +kernel)) (hts (.initialized "java/util/ArrayList") (by decide +kernel)) ht hA0, hT⟩
theorem lw_str (hts : ∀ w ∈ lw_tbl, w.before #[Value.ref b] s = true) (hn : ∀ w ∈ flatC (Jvm.Cond.and given_1 narrow_1), w.before #[Value.ref b] s = true) : ∃ t : Nat, va_Z "Heliokeep" "STRENGTHS" "[I" (.ref t) (fun q : Nat => s.heap.size ≤ q) s s.heap ∧ va_T .int t 24 (fun j => zi (strZ (j : Int))) (fun q : Nat => s.heap.size ≤ q) s s.heap := by
  have hA0 : ∀ a : Nat, a < s.heap.size → ¬ (fun q : Nat => s.heap.size ≤ q) a := fun a h => Nat.not_le.mpr h
  obtain ⟨t, ht, hT⟩ := va_Tof (tm := Term.static "Heliokeep" "STRENGTHS" "[I") (ty := .int) (N := 24) (f := fun j => zi (strZ (j : Int))) (by decide) (hn _ (by decide +kernel)) (va_eqt (z := Int32.ofNat 24) (hn _ (by decide +kernel))) (fun j hj => va_eqt (hn _ (lw_sel j hj))) hA0
  exact ⟨t, va_Zof (hts (.laysStatic "Heliokeep" "STRENGTHS" "[I") (by decide +kernel)) (hts (.initialized "Heliokeep") (by decide +kernel)) ht hA0, hT⟩
theorem lw_GP {zE : Nat} (hts : ∀ w ∈ lw_tbl, w.before #[Value.ref b] s = true) (hn : ∀ w ∈ flatC (Jvm.Cond.and given_1 narrow_1), w.before #[Value.ref b] s = true) {cH : ClassId} (hH : s.vm.findClass "Heliokeep" = some cH) (hz : va_Z "java/util/ArrayList" "DEFAULTCAPACITY_EMPTY_ELEMENTDATA" "[Ljava/lang/Object;" (.ref zE) (fun q : Nat => s.heap.size ≤ q) s s.heap ∧ va_T (.object "java/lang/Object") zE 0 (fun _ => .null) (fun q : Nat => s.heap.size ≤ q) s s.heap) : GP zE (fun q : Nat => s.heap.size ≤ q) s s.heap := by
  have hA0 : ∀ a : Nat, a < s.heap.size → ¬ (fun q : Nat => s.heap.size ≤ q) a := fun a h => Nat.not_le.mpr h
  refine ⟨fun w hw => va_Nw.of (nwL_o w hw) (hts w (lw_nw w hw)), lw_str hts hn, ?_, ?_, hz, fun q hq => ?_, fun w hw => va_tabs (xwL_o w hw) rfl (hts w (lw_xw w hw))⟩
  · exact vx_Zqof (hts (.laysStatic Bundle.tN "UNASSIGNED_STACK" Bundle.steD) (by decide +kernel)) (hts (.initialized Bundle.tN) (by decide +kernel)) (hn (.isRef (.static Bundle.tN "UNASSIGNED_STACK" Bundle.steD)) (by decide +kernel)) hA0
  · exact vx_Zqof (hts (.laysStatic Bundle.tN "SUPPRESSED_SENTINEL" Bundle.listD) (by decide +kernel)) (hts (.initialized Bundle.tN) (by decide +kernel)) (hn (.isRef (.static Bundle.tN "SUPPRESSED_SENTINEL" Bundle.listD)) (by decide +kernel)) hA0
  · have h1 := hts _ (lw_st q hq)
    obtain ⟨_, _, _, a, _, _, _, _, _, h2⟩ := Cond.stringRef_spec hH h1
    exact ⟨a, vk_R.of h1 h2⟩
theorem lw_GX (hts : ∀ w ∈ lw_tbl, w.before #[Value.ref b] s = true) (hn : ∀ w ∈ flatC (Jvm.Cond.and given_1 narrow_1), w.before #[Value.ref b] s = true) : ∃ mi : Nat, GX mi s := by
  obtain ⟨mi, hmi⟩ := va_Mi.of (hn (.isRef (.mirror "[Ljava/lang/Object;")) (by decide +kernel))
  exact ⟨mi, va_AO.of (hts (.arrayOver (.object "java/lang/Object")) (by decide +kernel)), hmi, va_Dc.of (hts (.declares ⟨"java/lang/Object", "getClass", "()Ljava/lang/Class;"⟩) (by decide +kernel)), va_Nw.of rfl (hts (.castable RX4 "java/lang/Object") (by decide +kernel)), va_Nw.of rfl (hts (.castable RX1 "java/lang/Object") (by decide +kernel))⟩
theorem lw_GN (hn : ∀ w ∈ flatC (Jvm.Cond.and given_1 narrow_1), w.before #[Value.ref b] s = true) : GN s := va_Nc.of (hn (.not (.castable XA XS)) (by decide +kernel))
end LGP
theorem lc_draw {p : Program} {l : Launch} {e : Env} {R : Room} {s : State} {m : MethodId} {args : Array Value} {below : List Frame} {meth : Method} {c : Code} {H : Heap} {locs : List Loc} {cells slots : Nat} {Q : State → Prop} {cc bytes : ByteArray} {pc nL maxL index : Nat} {ls : Array Slot} {rest st0 : List Value} {D : va_G} {A : Nat → Prop} {b L : Nat} {xs : Nat → Int32} {k : Int} {ws : va_W} {Ts wz : List Cond} {own : String} {ret : Option FieldType} {rm : Room} (fx : CallFix p m c cc nL s args Ts own) (hM : Met l yL_draw wz rm (va_Pc [.ref b, zi k] (DPre b L xs)) QDr 0 0 (fun _ => False)) (cw : CallB R s args own index yL_draw bytes maxL ret wz rm 0 0 2 ∧ (Cond.static yL_draw).before args s = true)
    (hX0 : va_X b L xs s s.heap) (hbl : b < s.heap.size) (hbA : ¬ A b) (hP : va_P D vwCl ws H) (hS : va_S A s.heap H locs) (hsize : ls.size = nL) (hst : st0 = zi k :: .ref b :: rest) (hW : (rest.map fun v => v.category).sum ≤ 8) (hdg : decode cc pc = .ok (.invokestatic index, 3)) (hroom : cells + 0 ≤ R.cells ∧ slots + 0 ≤ R.slots)
    (kk : ∀ z : Int, (0 ≤ z ∧ z < 2147483648) → ∀ (H : Heap) (locs : List Loc), va_P D vwCl ws H → va_S A s.heap H locs → W p l e R s m args below meth c H locs cells slots Q (F0 m (pc + 3) ls (zi z :: rest))) : W p l e R s m args below meth c H locs cells slots Q (F0 m pc ls st0) := by
  refine va_calli (va_runS (As := [.ref b, zi k]) (rest := rest) fx hM cw ⟨fun a U g mk q => ⟨q.1, va_X.moved (u := U) (U := U.calling g mk a) (Vm.Alike.refl U.vm) q.2.1, q.2.2⟩, fun U hU hW => ⟨rfl, by rw [hU]; exact (hX0.kept (hS.2.1 b hbl hbA)).moved hW.alike, by rw [hU]; exact Nat.lt_of_lt_of_le hbl hS.1⟩⟩ rfl rfl hsize hst (lv_room hW) hdg hroom) hS (fun q _ h => h.elim) (fun q h => h.elim) (fun r z t H1 locs1 ht hvm hw hB hz1 hk1 hS1 => ?_)
  obtain ⟨rfl, hz⟩ := hw
  exact kk z hz H1 locs1 (hz_keptAll hP hk1) hS1
theorem kp_00 : Op.cmpValue (FP.fcmp (kpL (zL 0) (zL 0)) FP.fconst0) .l = zI 0 := by
  rw [kp_z ⟨by decide, by decide⟩]
  decide +kernel
theorem fl_00 {S : ST} (h : S.2.1 0 = 0) (p : Int) : flS S p = 0 := by
  unfold flS flZ
  rw [h]
  rfl
theorem sf_00 {zE : Nat} {S : ST} (hI : FC zE S) (h : S.2.1 0 = 0) : sfS S = 1 := by
  refine isZ_1 ⟨isZ_0 (fun ⟨j, a, b, q⟩ => ?_), fun k a b => by exfalso; omega⟩
  have e : flZ (S.2.1 0) (S.2.2 2) (S.2.2 3) (S.2.2 4) (ryS S) (-1) 0 j = 0 := fl_00 h j
  rw [e] at q
  have := hI.Bound j
  omega
