set_option maxHeartbeats 32000000 in
set_option maxRecDepth 100000 in
theorem c_step (l : Launch) (hlt : l.stackTraces = false) (G : va_G) (ah : Nat → Nat) (mi zE : Nat) (y : Nat → ClassId) (o0 : Nat) (sz : Nat) (S : ST) (d : Int → Int) (what a bb : Int) (hI : FC zE S) (hd : FD S d) (hw : 0 ≤ what ∧ what < 2147483648) (ha : 0 ≤ a ∧ a < 2147483648) (hbb : 0 ≤ bb ∧ bb < 2147483648) : Met l yL_step wsL_step ({ frames := 15, cells := 1250, slots := 7500, locals := 620 }) (va_Pc [.ref (ah 0), .ref o0, zi what, zi a, zi bb] (HPreL mi zE G (tyL y) (wH ah y S ++ dW o0 y d) sz)) (Q_step G ah zE y o0 (va_A (wH ah y S ++ dW o0 y d) sz)) 1250 7500 (va_A (wH ah y S ++ dW o0 y d) sz) := by
  refine hz_ofWM (Qf := Q_step G ah zE y o0) (cc := cL_step) (maxL := 33) (ret := some .boolean) (by decide) rfl (Nat.le_of_ble_eq_true rfl) ?_
  intro p e s m below meth c A ls hx hb hr hts hown hlocks hml hP hK hA hD hS hGP hX hGN hl
  have hown : s.vm.findClass RL = some m.cls := hown
  have hl : lv_has ls 33 [(0, .ref (ah 0)), (1, .ref o0), (2, zi what), (3, zi a), (4, zi bb)] := hl
  have hQ : LC p l s m meth c A G mi zE y 33 cL_step wsL_step [.ref (ah 0), .ref o0, zi what, zi a, zi bb] (some .boolean) := ⟨hx, hb, hr, hts, hown, hlocks, hml, hK, hA, hGP, hX, hGN, hlt⟩
  have qN := hI.N
  have qD0 := hd.D0
  refine lv_aload_n hx hb dL_step_0 rfl (lv_at hl 1 rfl) ?_
  refine hz_iconst hx hb dL_step_1 ?_
  refine hz_dld hx hb hK hP (by omega) dL_step_2 ?_
  refine hz_if_ne (tgt := 10) hx hb dL_step_3 (by decide) (by omega) (fun c1 => ?_) (fun c1 => ?_)
  · refine lv_iload_n hx hb dL_step_10 rfl (lv_at hl 3 rfl) ?_
    refine lv_aload_n hx hb dL_step_11 rfl (lv_at hl 1 rfl) ?_
    refine hz_iconst hx hb dL_step_12 ?_
    refine hz_dld hx hb hK hP (by omega) dL_step_13 ?_
    refine hz_irem hx hb dL_step_14 (by omega) ?_
    refine hz_topi (fun k hkk => ?_)
    have hk : 0 ≤ k ∧ k < S.2.1 0 := by rw [hkk, qD0]; exact ⟨Int.emod_nonneg _ (by omega), Int.emod_lt_of_pos _ (by omega)⟩
    refine lv_istore (lv' := [(5, zi k), (0, .ref (ah 0)), (1, .ref o0), (2, zi what), (3, zi a), (4, zi bb)]) hx hb dL_step_15 hl (by decide) rfl (fun ls hl => ?_)
    refine lv_aload_n hx hb dL_step_17 rfl (lv_at hl 2 rfl) ?_
    refine hz_iconst hx hb dL_step_18 ?_
    refine hz_dld hx hb hK hP (by omega) dL_step_19 ?_
    refine hz_if_ne (tgt := 27) hx hb dL_step_20 (by decide) (by omega) (fun _ => ?_) (fun q => by exfalso; omega)
    refine lv_iload_n hx hb dL_step_27 rfl (lv_at hl 3 rfl) ?_
    refine hz_bipush hx hb dL_step_28 (by decide) ?_
    refine hz_irem hx hb dL_step_30 (by omega) ?_
    rcases (show (what % 30) = 0 ∨ (what % 30) = 1 ∨ (what % 30) = 2 ∨ (what % 30) = 3 ∨ (what % 30) = 4 ∨ (what % 30) = 5 ∨ (what % 30) = 6 ∨ (what % 30) = 7 ∨ (what % 30) = 8 ∨ (what % 30) = 9 ∨ (what % 30) = 10 ∨ (what % 30) = 11 ∨ (what % 30) = 12 ∨ (what % 30) = 13 ∨ (what % 30) = 14 ∨ (what % 30) = 15 ∨ (what % 30) = 16 ∨ (what % 30) = 17 ∨ (what % 30) = 18 ∨ (what % 30) = 19 ∨ (what % 30) = 20 ∨ (what % 30) = 21 ∨ (what % 30) = 22 ∨ (what % 30) = 23 ∨ (what % 30) = 24 ∨ (what % 30) = 25 ∨ 25 < (what % 30) by omega) with hj | hj | hj | hj | hj | hj | hj | hj | hj | hj | hj | hj | hj | hj | hj | hj | hj | hj | hj | hj | hj | hj | hj | hj | hj | hj | hj
    · exact hz_tableIn (j := 0) (off := 117) (tgt := 148) hx hb dL_step_31 hj ⟨⟨by decide, by decide⟩, by decide, by decide⟩ rfl (by decide) (st_mirror hQ hI hd ha hbb (Or.inr hk) hP hD ls (lv_sub hl [0, 1, 2, 3, 4, 5] rfl))
    · exact hz_tableIn (j := 1) (off := 117) (tgt := 148) hx hb dL_step_31 hj ⟨⟨by decide, by decide⟩, by decide, by decide⟩ rfl (by decide) (st_mirror hQ hI hd ha hbb (Or.inr hk) hP hD ls (lv_sub hl [0, 1, 2, 3, 4, 5] rfl))
    · exact hz_tableIn (j := 2) (off := 268) (tgt := 299) hx hb dL_step_31 hj ⟨⟨by decide, by decide⟩, by decide, by decide⟩ rfl (by decide) (st_aim hQ hI hd ha hbb hk hP hD ls (lv_sub hl [0, 1, 2, 3, 4, 5] rfl))
    · exact hz_tableIn (j := 3) (off := 268) (tgt := 299) hx hb dL_step_31 hj ⟨⟨by decide, by decide⟩, by decide, by decide⟩ rfl (by decide) (st_aim hQ hI hd ha hbb hk hP hD ls (lv_sub hl [0, 1, 2, 3, 4, 5] rfl))
    · exact hz_tableIn (j := 4) (off := 268) (tgt := 299) hx hb dL_step_31 hj ⟨⟨by decide, by decide⟩, by decide, by decide⟩ rfl (by decide) (st_aim hQ hI hd ha hbb hk hP hD ls (lv_sub hl [0, 1, 2, 3, 4, 5] rfl))
    · exact hz_tableIn (j := 5) (off := 268) (tgt := 299) hx hb dL_step_31 hj ⟨⟨by decide, by decide⟩, by decide, by decide⟩ rfl (by decide) (st_aim hQ hI hd ha hbb hk hP hD ls (lv_sub hl [0, 1, 2, 3, 4, 5] rfl))
    · exact hz_tableIn (j := 6) (off := 371) (tgt := 402) hx hb dL_step_31 hj ⟨⟨by decide, by decide⟩, by decide, by decide⟩ rfl (by decide) (st_drift hQ hI hd ha hbb hk hP hD ls (lv_sub hl [0, 1, 2, 3, 4, 5] rfl))
    · exact hz_tableIn (j := 7) (off := 466) (tgt := 497) hx hb dL_step_31 hj ⟨⟨by decide, by decide⟩, by decide, by decide⟩ rfl (by decide) (st_correct hQ hI hd ha hbb hk hP hD ls (lv_sub hl [0, 1, 2, 3, 4, 5] rfl))
    · exact hz_tableIn (j := 8) (off := 546) (tgt := 577) hx hb dL_step_31 hj ⟨⟨by decide, by decide⟩, by decide, by decide⟩ rfl (by decide) (st_fail hQ hI hd ha hbb hk hP hD ls (lv_sub hl [0, 1, 2, 3, 4, 5] rfl))
    · exact hz_tableIn (j := 9) (off := 615) (tgt := 646) hx hb dL_step_31 hj ⟨⟨by decide, by decide⟩, by decide, by decide⟩ rfl (by decide) (st_wash hQ hI hd ha hbb hk hP hD ls (lv_sub hl [0, 1, 2, 3, 4, 5] rfl))
    · exact hz_tableIn (j := 10) (off := 716) (tgt := 747) hx hb dL_step_31 hj ⟨⟨by decide, by decide⟩, by decide, by decide⟩ rfl (by decide) (st_haze hQ hI hd ha hbb hk hP hD ls (lv_sub hl [0, 1, 2, 3, 4, 5] rfl))
    · exact hz_tableIn (j := 11) (off := 755) (tgt := 786) hx hb dL_step_31 hj ⟨⟨by decide, by decide⟩, by decide, by decide⟩ rfl (by decide) (st_cloud hQ hI hd ha hbb hk hP hD ls (lv_sub hl [0, 1, 2, 3, 4, 5] rfl))
    · exact hz_tableIn (j := 12) (off := 755) (tgt := 786) hx hb dL_step_31 hj ⟨⟨by decide, by decide⟩, by decide, by decide⟩ rfl (by decide) (st_cloud hQ hI hd ha hbb hk hP hD ls (lv_sub hl [0, 1, 2, 3, 4, 5] rfl))
    · exact hz_tableIn (j := 13) (off := 903) (tgt := 934) hx hb dL_step_31 hj ⟨⟨by decide, by decide⟩, by decide, by decide⟩ rfl (by decide) (st_bound hQ hI hd ha hbb hk hP hD ls (lv_sub hl [0, 1, 2, 3, 4, 5] rfl))
    · exact hz_tableIn (j := 14) (off := 939) (tgt := 970) hx hb dL_step_31 hj ⟨⟨by decide, by decide⟩, by decide, by decide⟩ rfl (by decide) (st_salt hQ hI hd ha hbb hk hP hD ls (lv_sub hl [0, 1, 2, 3, 4, 5] rfl))
    · exact hz_tableIn (j := 15) (off := 1043) (tgt := 1074) hx hb dL_step_31 hj ⟨⟨by decide, by decide⟩, by decide, by decide⟩ rfl (by decide) (st_pipe hQ hI hd ha hbb hk hP hD ls (lv_sub hl [0, 1, 2, 3, 4, 5] rfl))
    · exact hz_tableIn (j := 16) (off := 1043) (tgt := 1074) hx hb dL_step_31 hj ⟨⟨by decide, by decide⟩, by decide, by decide⟩ rfl (by decide) (st_pipe hQ hI hd ha hbb hk hP hD ls (lv_sub hl [0, 1, 2, 3, 4, 5] rfl))
    · exact hz_tableIn (j := 17) (off := 1170) (tgt := 1201) hx hb dL_step_31 hj ⟨⟨by decide, by decide⟩, by decide, by decide⟩ rfl (by decide) (st_trace hQ hI hd ha hbb hk hP hD ls (lv_sub hl [0, 1, 2, 3, 4, 5] rfl))
    · exact hz_tableIn (j := 18) (off := 1245) (tgt := 1276) hx hb dL_step_31 hj ⟨⟨by decide, by decide⟩, by decide, by decide⟩ rfl (by decide) (st_load hQ hI hd ha hbb hk hP hD ls (lv_sub hl [0, 1, 2, 3, 4, 5] rfl))
    · exact hz_tableIn (j := 19) (off := 1245) (tgt := 1276) hx hb dL_step_31 hj ⟨⟨by decide, by decide⟩, by decide, by decide⟩ rfl (by decide) (st_load hQ hI hd ha hbb hk hP hD ls (lv_sub hl [0, 1, 2, 3, 4, 5] rfl))
    · exact hz_tableIn (j := 20) (off := 1319) (tgt := 1350) hx hb dL_step_31 hj ⟨⟨by decide, by decide⟩, by decide, by decide⟩ rfl (by decide) (st_stop hQ hI hd ha hbb hk hP hD ls (lv_sub hl [0, 1, 2, 3, 4, 5] rfl))
    · exact hz_tableIn (j := 21) (off := 1378) (tgt := 1409) hx hb dL_step_31 hj ⟨⟨by decide, by decide⟩, by decide, by decide⟩ rfl (by decide) (st_water hQ hI hd ha hbb hk hP hD ls (lv_sub hl [0, 1, 2, 3, 4, 5] rfl))
    · exact hz_tableIn (j := 22) (off := 1458) (tgt := 1489) hx hb dL_step_31 hj ⟨⟨by decide, by decide⟩, by decide, by decide⟩ rfl (by decide) (st_firm hQ hI hd ha hbb hk hP hD ls (lv_sub hl [0, 1, 2, 3, 4, 5] rfl))
    · exact hz_tableIn (j := 23) (off := 1542) (tgt := 1573) hx hb dL_step_31 hj ⟨⟨by decide, by decide⟩, by decide, by decide⟩ rfl (by decide) (by
      obtain ⟨kN, rfl⟩ := Int.eq_ofNat_of_zero_le hk.1
      exact st_best hQ hI hd ha hbb hk.2 hP hD ls (lv_sub hl [0, 1, 2, 3, 4, 5] rfl))
    · exact hz_tableIn (j := 24) (off := 1542) (tgt := 1573) hx hb dL_step_31 hj ⟨⟨by decide, by decide⟩, by decide, by decide⟩ rfl (by decide) (by
      obtain ⟨kN, rfl⟩ := Int.eq_ofNat_of_zero_le hk.1
      exact st_best hQ hI hd ha hbb hk.2 hP hD ls (lv_sub hl [0, 1, 2, 3, 4, 5] rfl))
    · exact hz_tableIn (j := 25) (off := 1552) (tgt := 1583) hx hb dL_step_31 hj ⟨⟨by decide, by decide⟩, by decide, by decide⟩ rfl (by decide) (st_fore hQ hI hd ha hbb hk hP hD ls (lv_sub hl [0, 1, 2, 3, 4, 5] rfl))
    · exact hz_tableOut (tgt := 1598) hx hb dL_step_31 (by omega) (Or.inr hj) (by decide) (st_goes hQ hI hd ha hbb hk hP hD ls (lv_sub hl [0, 1, 2, 3, 4, 5] rfl))
  · refine hz_iconst hx hb dL_step_6 ?_
    refine lv_goto (tgt := 15) hx hb dL_step_7 (by decide) ?_
    refine lv_istore (lv' := [(5, zi 0), (0, .ref (ah 0)), (1, .ref o0), (2, zi what), (3, zi a), (4, zi bb)]) hx hb dL_step_15 hl (by decide) rfl (fun ls hl => ?_)
    refine lv_aload_n hx hb dL_step_17 rfl (lv_at hl 2 rfl) ?_
    refine hz_iconst hx hb dL_step_18 ?_
    refine hz_dld hx hb hK hP (by omega) dL_step_19 ?_
    refine hz_if_ne (tgt := 27) hx hb dL_step_20 (by decide) (by omega) (fun q => by exfalso; omega) (fun _ => ?_)
    refine hz_iconst hx hb dL_step_23 ?_
    refine lv_goto (tgt := 31) hx hb dL_step_24 (by decide) ?_
    exact hz_tableIn (j := 0) (off := 117) (tgt := 148) hx hb dL_step_31 rfl ⟨⟨by decide, by decide⟩, by decide, by decide⟩ rfl (by decide) (st_mirror (k := 0) hQ hI hd ha hbb (Or.inl rfl) hP hD ls (lv_sub hl [0, 1, 2, 3, 4, 5] rfl))
