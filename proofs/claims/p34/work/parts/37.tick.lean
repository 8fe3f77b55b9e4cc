def sP (S : ST) (f : Int → Int) (mi : Int) (nA nD nT nL nS nU : Int → Int) (nNow nCold nHot nPipe nDeg nThaw nTurb nLeft nTrips : Int) : ST := (S.1, (fun j => if j = 15 then mi else if j = 2 then nNow else if j = 4 then nCold else if j = 5 then nHot else if j = 6 then nPipe else if j = 7 then nDeg else if j = 8 then nThaw else if j = 10 then nTurb else if j = 11 then nLeft else if j = 14 then nTrips else S.2.1 j), fun j => if j = 18 then f else if j = 1 then nD else if j = 2 then nA else if j = 6 then nT else if j = 7 then nL else if j = 13 then nS else if j = 16 then nU else S.2.2 j)
theorem sl_at {u : Int → Int} {e g h tk bo rest dl due price : Int} {j : Int} (hj : j = 0 ∨ j = 1 ∨ j = 2 ∨ j = 3 ∨ j = 4 ∨ j = 5 ∨ j = 6 ∨ j = 7 ∨ j = 8 ∨ j = 9 ∨ j = 10 ∨ j = 11 ∨ j = 12) : slZ (adZ (adZ (adZ u 4 e) 5 g) 6 h) tk bo rest dl due price j = u j + (if j = 4 then e else if j = 5 then g else if j = 6 then h else if j = 7 then tk else if j = 8 then bo else if j = 9 then dl else if j = 10 then due - dl else if j = 11 then rest - dl else if j = 12 then (rest - dl) * price else 0) := by
  rcases hj with rfl | rfl | rfl | rfl | rfl | rfl | rfl | rfl | rfl | rfl | rfl | rfl | rfl <;> simp [slZ, adZ, upZ]
theorem s3_at {u : Int → Int} {al ms tr : Int} {j : Int} (hj : 0 ≤ j) : (if tr = 1 then adZ (adZ (adZ u 0 (al + ms)) 1 ms) 2 al else adZ (adZ (adZ u 0 (al + ms)) 1 ms) 3 al) j = u j + (if j = 0 then al + ms else if j = 1 then ms else if j = 2 then (if tr = 1 then al else 0) else if j = 3 then (if tr = 1 then 0 else al) else 0) := by
  by_cases c : tr = 1
  · rw [if_pos c, if_pos c, if_pos c]
    unfold adZ upZ
    by_cases c2 : j = 2
    · subst c2; simp
    · by_cases c1 : j = 1
      · subst c1; simp
      · by_cases c0 : j = 0
        · subst c0; simp
        · simp [c0, c1, c2]
  · rw [if_neg c, if_neg c, if_neg c]
    unfold adZ upZ
    by_cases c2 : j = 3
    · subst c2; simp
    · by_cases c1 : j = 1
      · subst c1; simp
      · by_cases c0 : j = 0
        · subst c0; simp
        · simp [c0, c1, c2]
theorem sn6 {st fa bo : Int → Int} (h : ∃ j : Int, 0 ≤ j ∧ j < 6 ∧ bo j < fa j) : alZ st + 1 ≤ alZ (snZ st fa bo 6) ∧ alZ (snZ st fa bo 6) ≤ alZ st + 6 := by
  rw [alS6, alS6]
  obtain ⟨j, h0, h1, h2⟩ := h
  unfold snZ
  rcases (show j = 0 ∨ j = 1 ∨ j = 2 ∨ j = 3 ∨ j = 4 ∨ j = 5 by omega) with rfl | rfl | rfl | rfl | rfl | rfl <;> (constructor <;> (repeat' split) <;> omega)
theorem cm_rng {pipe heat cold : Int} (hh : 0 ≤ heat) (hc : 0 ≤ cold) : 0 ≤ cmZ pipe heat cold ∧ 100 * cmZ pipe heat cold ≤ heat ∧ cmZ pipe heat cold ≤ cold := by
  unfold cmZ
  split
  · omega
  · split <;> omega
theorem tu_rng {turb load hot : Int} (hl : 0 ≤ load ∧ load ≤ 20) (hh : 0 ≤ hot) : 0 ≤ tuZ turb load hot ∧ tuZ turb load hot ≤ 20 ∧ tuZ turb load hot ≤ hot := by
  unfold tuZ
  split
  · omega
  · split <;> omega
theorem pd_tick {pipe deg thaw trc U : Int} (h1 : (pipe = 0 → deg = 0) ∧ (pipe = 2 → 18 ≤ deg ∧ deg < 20)) (h2 : 0 ≤ deg ∧ deg ≤ 40 ∧ (pipe = 1 → 20 ≤ deg)) (h3 : 0 ≤ pipe ∧ pipe ≤ 2) : (npZ pipe deg thaw trc U = 0 → ndZ pipe deg thaw trc U = 0) ∧ (npZ pipe deg thaw trc U = 2 → 18 ≤ ndZ pipe deg thaw trc U ∧ ndZ pipe deg thaw trc U < 20) := by
  rcases (show pipe = 0 ∨ pipe = 1 ∨ pipe = 2 by omega) with c | c | c
  · have e1 : npZ pipe deg thaw trc U = pipe := by unfold npZ; rw [if_neg (by omega), if_neg (by omega)]
    have e2 : ndZ pipe deg thaw trc U = deg := by unfold ndZ; rw [if_neg (by omega), if_neg (by omega)]
    rw [e1, e2]; exact h1
  · have hw : 18 ≤ dwZ deg U := by
      unfold dwZ
      by_cases z : 0 < U
      · rw [if_pos z]; unfold hdZ; rw [if_neg (by omega)]; split <;> omega
      · rw [if_neg z]; omega
    have hg : 18 ≤ dgZ deg trc U := by
      unfold dgZ
      split <;> omega
    have e1 : npZ pipe deg thaw trc U = (if dgZ deg trc U < 20 then 2 else 1) := by unfold npZ; rw [if_neg (by omega), if_pos c]
    have e2 : ndZ pipe deg thaw trc U = dgZ deg trc U := by unfold ndZ; rw [if_neg (by omega), if_pos c]
    rw [e1, e2]
    split <;> omega
  · by_cases z : trc = 1 ∧ thaw + 1 = 3
    · have e1 : npZ pipe deg thaw trc U = 1 := by unfold npZ; rw [if_pos c, if_pos z]
      rw [e1]; omega
    · have e1 : npZ pipe deg thaw trc U = 2 := by unfold npZ; rw [if_pos c, if_neg z]
      have e2 : ndZ pipe deg thaw trc U = deg := by unfold ndZ; rw [if_pos c, if_neg z]
      rw [e1, e2]; have := h1.2 c; omega
set_option maxHeartbeats 8000000 in
set_option maxRecDepth 100000 in
theorem tk_all {zE : Nat} {S : ST} {f : Int → Int} {mi : Int} {nA nD nT nL nS nU : Int → Int} {nNow nCold nHot nPipe nDeg nW nThaw nTurb nLeft nTrips : Int} (hI : FC zE S) (hn : S.2.1 2 + 1 ≤ 9999) (t1 : (nA, nD, nT, nL, nS, nU, nNow, nCold, nHot, nPipe, nDeg, nW, nTurb, nLeft, nTrips) = itF ((S.2.1 0), (S.2.1 1), (S.2.1 3), (S.2.1 9), (S.2.1 12), (S.2.2 0), (S.2.2 3), (S.2.2 4), (S.2.2 5), (S.2.2 8), (S.2.2 9), (S.2.2 10), (S.2.2 11), (S.2.2 12), (S.2.2 14), (S.2.2 15)) (1 : Int).toNat ((S.2.2 2), (S.2.2 1), (S.2.2 6), (S.2.2 7), (S.2.2 13), (S.2.2 16), (S.2.1 2), (S.2.1 4), (S.2.1 5), (S.2.1 6), (S.2.1 7), (S.2.1 8), (S.2.1 10), (S.2.1 11), (S.2.1 14))) (wt : nPipe = 2 → nThaw = nW) (pAim : ∀ k : Int, -1 ≤ nA k ∧ nA k ≤ 5) (pDirt : ∀ k : Int, 0 ≤ nD k ∧ nD k ≤ 9) (pTop : ∀ k : Int, -(16 + nNow) ≤ nT k ∧ nT k ≤ 16 + nNow) (pLm : ∀ k : Int, -(16 + nNow) ≤ nL k ∧ nL k ≤ 16 + nNow) (pStrain : ∀ k : Int, 0 ≤ nS k ∧ nS k ≤ nNow) (pTrips : 0 ≤ nTrips ∧ nTrips ≤ nNow) (pSalt : 0 ≤ nCold ∧ 0 ≤ nHot ∧ nCold + nHot ≤ 1000) (pPipe : 0 ≤ nPipe ∧ nPipe ≤ 2) (pDeg : 0 ≤ nDeg ∧ nDeg ≤ 40 ∧ (nPipe = 1 → 20 ≤ nDeg)) (pThaw : nPipe = 2 → 0 ≤ nThaw ∧ nThaw ≤ 2) (pTurb : 0 ≤ nTurb ∧ nTurb ≤ 2) (pLeft : 0 ≤ nLeft ∧ nLeft ≤ 2 ∧ (nTurb = 1 → 1 ≤ nLeft)) : TK S (sP S f mi nA nD nT nL nS nU nNow nCold nHot nPipe nDeg nThaw nTurb nLeft nTrips) ∧ FC zE (sP S f mi nA nD nT nL nS nU nNow nCold nHot nPipe nDeg nThaw nTurb nLeft nTrips) := by
  have e0 : nA = (if (trN (flS S) (S.2.2 12) 6) = 1 then stZ (S.2.2 2) (S.2.2 5) (S.2.1 0) else S.2.2 2) := congrArg (fun t : TS => t.1) t1
  have e1 : nD = (if (S.2.1 2 + 1) % 24 = 0 then diZ (S.2.2 1) (S.2.1 0) else S.2.2 1) := congrArg (fun t : TS => t.2.1) t1
  have e2 : nT = drZ (S.2.2 6) (S.2.2 10) (S.2.1 1) := congrArg (fun t : TS => t.2.2.1) t1
  have e3 : nL = drZ (S.2.2 7) (S.2.2 11) (S.2.1 1) := congrArg (fun t : TS => t.2.2.2.1) t1
  have e4 : nS = (if (trN (flS S) (S.2.2 12) 6) = 1 then snZ (S.2.2 13) (flS S) (S.2.2 12) 6 else S.2.2 13) := congrArg (fun t : TS => t.2.2.2.2.1) t1
  have e5 : nU = slZ (adZ (adZ (adZ (if (trN (flS S) (S.2.2 12) 6) = 1 then adZ (adZ (adZ (S.2.2 16) 0 ((alZ (flS S)) + (msS S))) 1 (msS S)) 2 (alZ (flS S)) else adZ (adZ (adZ (S.2.2 16) 0 ((alZ (flS S)) + (msS S))) 1 (msS S)) 3 (alZ (flS S))) 4 ((if (trN (flS S) (S.2.2 12) 6) = 1 then 0 else (alZ (flS S))) - 100 * (cmZ (S.2.1 6) (if (trN (flS S) (S.2.2 12) 6) = 1 then 0 else (alZ (flS S))) (S.2.1 4)))) 5 (cmZ (S.2.1 6) (if (trN (flS S) (S.2.2 12) 6) = 1 then 0 else (alZ (flS S))) (S.2.1 4))) 6 ((tuZ (S.2.1 10) (S.2.1 12) (S.2.1 5 + (cmZ (S.2.1 6) (if (trN (flS S) (S.2.2 12) 6) = 1 then 0 else (alZ (flS S))) (S.2.1 4)))) * (10 - strZ (S.2.1 2) / 5))) (toZ (S.2.1 9)) (boZ (S.2.1 9) ((tuZ (S.2.1 10) (S.2.1 12) (S.2.1 5 + (cmZ (S.2.1 6) (if (trN (flS S) (S.2.2 12) 6) = 1 then 0 else (alZ (flS S))) (S.2.1 4)))) * (10 - strZ (S.2.1 2) / 5))) (((tuZ (S.2.1 10) (S.2.1 12) (S.2.1 5 + (cmZ (S.2.1 6) (if (trN (flS S) (S.2.2 12) 6) = 1 then 0 else (alZ (flS S))) (S.2.1 4)))) * (10 - strZ (S.2.1 2) / 5)) - toZ (S.2.1 9) + boZ (S.2.1 9) ((tuZ (S.2.1 10) (S.2.1 12) (S.2.1 5 + (cmZ (S.2.1 6) (if (trN (flS S) (S.2.2 12) 6) = 1 then 0 else (alZ (flS S))) (S.2.1 4)))) * (10 - strZ (S.2.1 2) / 5))) (dlZ (S.2.1 9) ((tuZ (S.2.1 10) (S.2.1 12) (S.2.1 5 + (cmZ (S.2.1 6) (if (trN (flS S) (S.2.2 12) 6) = 1 then 0 else (alZ (flS S))) (S.2.1 4)))) * (10 - strZ (S.2.1 2) / 5)) (S.2.2 15 (S.2.1 2 % 24))) (S.2.2 15 (S.2.1 2 % 24)) (S.2.2 14 (S.2.1 2 % 24)) := congrArg (fun t : TS => t.2.2.2.2.2.1) t1
  have e6 : nNow = S.2.1 2 + 1 := congrArg (fun t : TS => t.2.2.2.2.2.2.1) t1
  have e7 : nCold = S.2.1 4 - (cmZ (S.2.1 6) (if (trN (flS S) (S.2.2 12) 6) = 1 then 0 else (alZ (flS S))) (S.2.1 4)) + (tuZ (S.2.1 10) (S.2.1 12) (S.2.1 5 + (cmZ (S.2.1 6) (if (trN (flS S) (S.2.2 12) 6) = 1 then 0 else (alZ (flS S))) (S.2.1 4)))) := congrArg (fun t : TS => t.2.2.2.2.2.2.2.1) t1
  have e8 : nHot = S.2.1 5 + (cmZ (S.2.1 6) (if (trN (flS S) (S.2.2 12) 6) = 1 then 0 else (alZ (flS S))) (S.2.1 4)) - (tuZ (S.2.1 10) (S.2.1 12) (S.2.1 5 + (cmZ (S.2.1 6) (if (trN (flS S) (S.2.2 12) 6) = 1 then 0 else (alZ (flS S))) (S.2.1 4)))) := congrArg (fun t : TS => t.2.2.2.2.2.2.2.2.1) t1
  have e9 : nPipe = npZ (S.2.1 6) (S.2.1 7) (S.2.1 8) (S.2.1 9) (cmZ (S.2.1 6) (if (trN (flS S) (S.2.2 12) 6) = 1 then 0 else (alZ (flS S))) (S.2.1 4)) := congrArg (fun t : TS => t.2.2.2.2.2.2.2.2.2.1) t1
  have e10 : nDeg = ndZ (S.2.1 6) (S.2.1 7) (S.2.1 8) (S.2.1 9) (cmZ (S.2.1 6) (if (trN (flS S) (S.2.2 12) 6) = 1 then 0 else (alZ (flS S))) (S.2.1 4)) := congrArg (fun t : TS => t.2.2.2.2.2.2.2.2.2.2.1) t1
  have e12 : nTurb = nbZ (S.2.1 10) (S.2.1 11) := congrArg (fun t : TS => t.2.2.2.2.2.2.2.2.2.2.2.2.1) t1
  have e14 : nTrips = (if (trN (flS S) (S.2.2 12) 6) = 1 then S.2.1 14 + 1 else S.2.1 14) := congrArg (fun t : TS => t.2.2.2.2.2.2.2.2.2.2.2.2.2.2) t1
  clear t1
  have hfl := flS_rng hI
  have ral : 0 ≤ alZ (flS S) ∧ alZ (flS S) ≤ 68400 := by rw [alS6]; have q0 := hfl 0; have q1 := hfl 1; have q2 := hfl 2; have q3 := hfl 3; have q4 := hfl 4; have q5 := hfl 5; omega
  have rms := msS_rng hI
  have rtr : trN (flS S) (S.2.2 12) 6 = 0 ∨ trN (flS S) (S.2.2 12) 6 = 1 := isZ_01 _
  have hsf : sfS S = 1 → trN (flS S) (S.2.2 12) 6 = 0 := fun q => (isZ_y q).1
  have htr : trN (flS S) (S.2.2 12) 6 = 1 → ∃ j : Int, 0 ≤ j ∧ j < 6 ∧ S.2.2 12 j < flS S j := fun q => isZ_y q
  have hsn := fun q => sn6 (st := S.2.2 13) (htr q)
  generalize trN (flS S) (S.2.2 12) 6 = tr at e0 e4 e5 e7 e8 e9 e10 e14 rtr hsf htr hsn
  clear htr
  generalize hal : alZ (flS S) = al at e5 e7 e8 e9 e10 ral
  generalize msS S = ms at e5 rms
  have rh : 0 ≤ (if tr = 1 then 0 else al) ∧ (if tr = 1 then 0 else al) ≤ 68400 := by split <;> omega
  have hs3 : ∀ j : Int, 0 ≤ j → (if tr = 1 then adZ (adZ (adZ (S.2.2 16) 0 (al + ms)) 1 ms) 2 al else adZ (adZ (adZ (S.2.2 16) 0 (al + ms)) 1 ms) 3 al) j = _ := fun j q => s3_at q
  generalize hH : (if tr = 1 then 0 else al) = hh at e5 e7 e8 e9 e10 rh hs3
  generalize (if tr = 1 then adZ (adZ (adZ (S.2.2 16) 0 (al + ms)) 1 ms) 2 al else adZ (adZ (adZ (S.2.2 16) 0 (al + ms)) 1 ms) 3 al) = u3 at e5 hs3
  have rU := cm_rng (pipe := S.2.1 6) rh.1 hI.Salt.1
  have hp1 : ¬ S.2.1 6 = 1 → cmZ (S.2.1 6) hh (S.2.1 4) = 0 := fun q => if_pos q
  generalize cmZ (S.2.1 6) hh (S.2.1 4) = U at e5 e7 e8 e9 e10 rU hp1
  have hs := hI.Salt
  have ru := tu_rng (turb := S.2.1 10) (hot := S.2.1 5 + U) hI.Load (by omega)
  have ht1 : ¬ S.2.1 10 = 2 → tuZ (S.2.1 10) (S.2.1 12) (S.2.1 5 + U) = 0 := fun q => if_pos q
  generalize tuZ (S.2.1 10) (S.2.1 12) (S.2.1 5 + U) = u at e5 e7 e8 ru ht1
  have rst := strZ_rng (S.2.1 2)
  have rmd := mul_20 (u := u) (w := 10 - strZ (S.2.1 2) / 5) ⟨ru.1, ru.2.1⟩ (by omega)
  generalize u * (10 - strZ (S.2.1 2) / 5) = made at e5 rmd
  have rdue := hI.Firm (S.2.1 2 % 24)
  have rpr := hI.Price (S.2.1 2 % 24)
  have rto : 0 ≤ toZ (S.2.1 9) ∧ toZ (S.2.1 9) ≤ 2 := by unfold toZ; split <;> omega
  have rbo : 0 ≤ boZ (S.2.1 9) made ∧ boZ (S.2.1 9) made ≤ 2 ∧ 0 ≤ made - toZ (S.2.1 9) + boZ (S.2.1 9) made ∧ made - toZ (S.2.1 9) + boZ (S.2.1 9) made ≤ 200 := by unfold boZ; split <;> omega
  have rdl : 0 ≤ dlZ (S.2.1 9) made (S.2.2 15 (S.2.1 2 % 24)) ∧ dlZ (S.2.1 9) made (S.2.2 15 (S.2.1 2 % 24)) ≤ S.2.2 15 (S.2.1 2 % 24) ∧ dlZ (S.2.1 9) made (S.2.2 15 (S.2.1 2 % 24)) ≤ made - toZ (S.2.1 9) + boZ (S.2.1 9) made := by unfold dlZ; split <;> omega
  generalize dlZ (S.2.1 9) made (S.2.2 15 (S.2.1 2 % 24)) = dl at e5 rdl
  generalize boZ (S.2.1 9) made = bo at e5 rbo rdl
  generalize toZ (S.2.1 9) = tk at e5 rto rbo rdl
  generalize S.2.2 14 (S.2.1 2 % 24) = price at e5 rpr
  have rmon : 0 ≤ (made - tk + bo - dl) * price ∧ (made - tk + bo - dl) * price ≤ (made - tk + bo - dl) * 99 := ⟨Int.mul_nonneg (by omega) rpr.1, Int.mul_le_mul_of_nonneg_left rpr.2 (by omega)⟩
  have hmon : ∃ mon : Int, mon = (made - tk + bo - dl) * price := ⟨_, rfl⟩
  obtain ⟨mon, hmon⟩ := hmon
  rw [← hmon] at rmon
  have v0 := (congrFun e5 0).trans (sl_at (by decide))
  rw [hs3 0 (by decide)] at v0
  simp at v0
  have v1 := (congrFun e5 1).trans (sl_at (by decide))
  rw [hs3 1 (by decide)] at v1
  simp at v1
  have v2 := (congrFun e5 2).trans (sl_at (by decide))
  rw [hs3 2 (by decide)] at v2
  simp at v2
  have v3 := (congrFun e5 3).trans (sl_at (by decide))
  rw [hs3 3 (by decide)] at v3
  simp at v3
  have v4 := (congrFun e5 4).trans (sl_at (by decide))
  rw [hs3 4 (by decide)] at v4
  simp at v4
  have v5 := (congrFun e5 5).trans (sl_at (by decide))
  rw [hs3 5 (by decide)] at v5
  simp at v5
  have v6 := (congrFun e5 6).trans (sl_at (by decide))
  rw [hs3 6 (by decide)] at v6
  simp at v6
  have v7 := (congrFun e5 7).trans (sl_at (by decide))
  rw [hs3 7 (by decide)] at v7
  simp at v7
  have v8 := (congrFun e5 8).trans (sl_at (by decide))
  rw [hs3 8 (by decide)] at v8
  simp at v8
  have v9 := (congrFun e5 9).trans (sl_at (by decide))
  rw [hs3 9 (by decide)] at v9
  simp at v9
  have v10 := (congrFun e5 10).trans (sl_at (by decide))
  rw [hs3 10 (by decide)] at v10
  simp at v10
  have v11 := (congrFun e5 11).trans (sl_at (by decide))
  rw [hs3 11 (by decide)] at v11
  simp at v11
  have v12 := (congrFun e5 12).trans (sl_at (by decide))
  rw [hs3 12 (by decide)] at v12
  simp at v12; rw [← hmon] at v12
  clear e5 hs3
  have hSE := hI.SE
  have hSB := hI.SB
  have hb : ∀ j : Int, 0 ≤ j → j ≤ 12 → 0 ≤ nU j ∧ nU j ≤ 100000 * nNow := by
    intro j h0 h1
    have q := hSB j h0 h1
    rcases (show j = 0 ∨ j = 1 ∨ j = 2 ∨ j = 3 ∨ j = 4 ∨ j = 5 ∨ j = 6 ∨ j = 7 ∨ j = 8 ∨ j = 9 ∨ j = 10 ∨ j = 11 ∨ j = 12 by omega) with rfl | rfl | rfl | rfl | rfl | rfl | rfl | rfl | rfl | rfl | rfl | rfl | rfl
    · rw [v0, e6]; omega
    · rw [v1, e6]; omega
    · rw [v2, e6]; clear v0 v1 v4 v5 v6 v7 v8 v9 v10 v11 v12; first | (split <;> omega) | omega
    · rw [v3, e6]; clear v0 v1 v4 v5 v6 v7 v8 v9 v10 v11 v12; first | (split <;> omega) | omega
    · rw [v4, e6]; omega
    · rw [v5, e6]; omega
    · rw [v6, e6]; omega
    · rw [v7, e6]; omega
    · rw [v8, e6]; omega
    · rw [v9, e6]; omega
    · rw [v10, e6]; omega
    · rw [v11, e6]; omega
    · rw [v12, e6]; omega
  have hst : nTrips ≤ alZ nS ∧ alZ nS ≤ 6 * nTrips := by
    have q := hI.STR
    rcases rtr with c | c
    · rw [e4, e14, c]; simpa using q
    · have q2 := hsn c
      rw [e4, e14, c, if_pos rfl, if_pos rfl]; omega
  have hpd : (nPipe = 0 → nDeg = 0) ∧ (nPipe = 2 → 18 ≤ nDeg ∧ nDeg < 20) := by
    rw [e9, e10]; exact pd_tick hI.PD hI.Deg hI.Pipe
  refine ⟨⟨?_, rfl, ?_, ?_, ?_, ?_, ?_, ?_, ?_, rfl, rfl, rfl, rfl⟩, ?_⟩
  · exact ⟨rfl, rfl, rfl, rfl, rfl, rfl, rfl, rfl, e6, e1, e2, e3⟩
  · show 0 ≤ nTrips - S.2.1 14 ∧ nTrips - S.2.1 14 ≤ 1
    rw [e14]; split <;> omega
  · intro q; show nTrips = S.2.1 14; rw [e14, hsf q]; rfl
  · show S.2.1 6 = 1 ∨ nU 5 = S.2.2 16 5
    by_cases c : S.2.1 6 = 1
    · exact Or.inl c
    · have q := hp1 c; exact Or.inr (by omega)
  · show alZ (flS S) ≤ nU 0 - S.2.2 16 0; rw [hal]; omega
  · show nTurb = 2 ∨ nHot = S.2.1 5 + nU 5 - S.2.2 16 5
    by_cases c : S.2.1 10 = 2
    · refine Or.inl ?_; rw [e12, c]; rfl
    · have q := ht1 c; exact Or.inr (by omega)
  · show nU 9 + nU 10 = S.2.2 16 9 + S.2.2 16 10 + S.2.2 15 (S.2.1 2 % 24); omega
  · show nCold + nHot = S.2.1 4 + S.2.1 5; omega
  · exact ⟨hI.Z, hI.Ze, hI.Tk, hI.N, hI.C, (by have q := hI.Now; show 0 ≤ nNow ∧ nNow ≤ 9999; omega), hI.Haze, pSalt, pPipe, pDeg, pThaw, hI.Trc, pTurb, pLeft, hI.Load, hI.Water, pTrips, hI.Cell, pDirt, pAim, hI.Err, hI.Cor, hI.Brk, pTop, pLm, hI.Rows, hI.Cols, hI.Down, hI.Right, hI.Bound, pStrain, hI.Price, hI.Firm, (fun k9 q9 => by
    have q := hI.E0 k9 q9
    refine ⟨?_, q.2⟩
    show nD k9 = 0
    rw [e1]
    split
    · exact (if_neg (by have q2 : S.2.1 0 ≤ k9 := q9; omega)).trans q.1
    · exact q.1), hb, (by
    show nU 0 = nU 1 + nU 2 + nU 3 ∧ nU 3 = nU 4 + 100 * nU 5 ∧ nU 6 + nU 8 = nU 7 + nU 9 + nU 11 ∧ nU 12 ≤ 99 * nU 11
    rcases rtr with c | c
    · rw [c] at hH v2; simp at hH v2; omega
    · rw [c] at hH v2; simp at hH v2; omega), hst, (fun q => by
    have q2 : nTurb = 0 := q
    refine hI.TL ?_
    rw [e12] at q2
    unfold nbZ at q2
    split at q2
    · split at q2 <;> omega
    · exact q2), hpd⟩
