/-! the law from its entry -/
theorem mx_F0 (f g : Nat → Nat) : mx_F 0 f = mx_F 0 g := by
  funext s
  unfold mx_F
  cases mx_S s <;> rfl
theorem hy_dv2 : ∀ j, j < 17 → defaultValue (tyX2 j) = vp_V (cx_FS .null .null .null .null .null .null .null) j := fun j hj => by
  rcases (show j = 0 ∨ j = 1 ∨ j = 2 ∨ j = 3 ∨ j = 4 ∨ j = 5 ∨ j = 6 ∨ j = 7 ∨ j = 8 ∨ j = 9 ∨ j = 10 ∨ j = 11 ∨ j = 12 ∨ j = 13 ∨ j = 14 ∨ j = 15 ∨ j = 16 by omega) with rfl | rfl | rfl | rfl | rfl | rfl | rfl | rfl | rfl | rfl | rfl | rfl | rfl | rfl | rfl | rfl | rfl <;> rfl
theorem hy_dv3 : ∀ j, j < 33 → defaultValue (tyX3 j) = vp_V (sc_tab 33 (mx_F 0 (fun _ => 0))) j := fun j hj => by
  unfold vp_V
  rw [List.getD_eq_getElem?_getD, sc_tab_get hj]
  rcases (show j = 0 ∨ j = 1 ∨ j = 2 ∨ j = 3 ∨ j = 4 ∨ j = 5 ∨ j = 6 ∨ j = 7 ∨ j = 8 ∨ j = 9 ∨ j = 10 ∨ j = 11 ∨ j = 12 ∨ j = 13 ∨ j = 14 ∨ j = 15 ∨ j = 16 ∨ j = 17 ∨ j = 18 ∨ j = 19 ∨ j = 20 ∨ j = 21 ∨ j = 22 ∨ j = 23 ∨ j = 24 ∨ j = 25 ∨ j = 26 ∨ j = 27 ∨ j = 28 ∨ j = 29 ∨ j = 30 ∨ j = 31 ∨ j = 32 by omega) with rfl | rfl | rfl | rfl | rfl | rfl | rfl | rfl | rfl | rfl | rfl | rfl | rfl | rfl | rfl | rfl | rfl | rfl | rfl | rfl | rfl | rfl | rfl | rfl | rfl | rfl | rfl | rfl | rfl | rfl | rfl | rfl | rfl <;> rfl
theorem sc_N_warm {s U : State} (hW : s.WarmedH U.vm) (h : sc_N s) : sc_N U := ⟨fun q hq => va_Nw.warmF hW (h.1 q hq), fun q hq => va_Nw.warmM hW (h.2 q hq)⟩
theorem sc_N_same {s U : State} (hv : s.vm = U.vm) (h : sc_N s) : sc_N U := ⟨fun q hq => va_Nw.same rfl hv (h.1 q hq), fun q hq => va_Nw.same rfl hv (h.2 q hq)⟩
set_option maxRecDepth 100000 in
theorem hk_c2 : Cond.code yX2_init cX2_init 2 none ∈ sc_G := sc_inG 15 rfl rfl
set_option maxRecDepth 100000 in
theorem hk_c3 : Cond.code yX3_init cX3_init 2 none ∈ sc_G := sc_inG 440 rfl rfl
set_option maxRecDepth 100000 in
set_option maxHeartbeats 4000000 in
theorem whole_start {p : Program} {e : Env} {s : State} {m : MethodId} {below : List Frame} {meth : Method} {c : Code} (l : Launch) (hst : l.stackTraces = false) {b L : Nat} {xs : Nat → Int32} (hL : L ≤ 3584) (C0 : lw_At p s m meth c b L xs) : W p l e room_1 s m #[Value.ref b] below meth c s.heap [] 0 0 (lw_Z below #[Value.ref b] s) (entryFrame m ([Value.ref b] : List Value).toArray 9) := by
  obtain ⟨hx, hb, hr, hml, hown, hts, hX, hbl, hlocks, hgv⟩ := id C0
  obtain ⟨dC, dI, hKc⟩ := hy_KC hts
  obtain ⟨k, hZ⟩ := hy_Z hts hgv (hKc 2 _ rfl).2.1
  have hN := hy_N hts
  have hA : ∀ q : Nat, s.heap.size ≤ q → (fun q : Nat => s.heap.size ≤ q) q := fun _ h => h
  have hbA : ¬ (fun q : Nat => s.heap.size ≤ q) b := Nat.not_le.mpr hbl
  have hS : va_S (fun q : Nat => s.heap.size ≤ q) s.heap s.heap [] := va_S.rf
  have hK : va_K (dC, dI) vwCl [] s := ⟨hKc, fun k q h => by simp at h⟩
  have hP : va_P (dC, dI) vwCl [] s.heap := fun k q h => by simp at h
  have hD : va_D (fun q : Nat => s.heap.size ≤ q) [] := ⟨fun i j p q h => by simp at h, fun k q h => by simp at h⟩
  have hl := lv_entry ([.ref b]) (n := 9) (Nat.le_of_ble_eq_true rfl)
  rw [lg_entry_eq]
  generalize (lg_sl ([.ref b]) ++ List.replicate (9 - (lg_sl ([.ref b])).length) Slot.unset).toArray = ls at hl ⊢
  have hl : lv_has ls 9 [(0, .ref b)] := hl
  refine va_new (ci := 2) (fs := cx_FS .null .null .null .null .null .null .null) (C := RX2) (T := TX2) (N := 17) hx hb hts (hy_inw (k1 := 2) (by decide)) tyX2 tyX2_ok hown (hts _ (hy_in 11 (by decide +kernel))) (hts _ (hy_in 12 (by decide +kernel))) (hts _ (hy_in 1 (by decide +kernel))) hK hP hD hS hA rfl hy_dv2 (Nat.le_of_ble_eq_true rfl) (Nat.le_of_ble_eq_true rfl) dL_law_0 (fun q0 H hP hD hS => ?_)
  have hP : va_P (dC, dI) vwCl [(q0, .inr (2, cx_FS .null .null .null .null .null .null .null))] H := hP
  have hq0 : s.heap.size ≤ q0 := hD.2 0 _ rfl
  refine lv_dup hx hb dL_law_3 rfl ?_
  refine va_callv (va_runI (As := []) (rest := [.ref q0]) ⟨hx, hb, hml, hown, hts⟩ (cx_init l dC dI (fun q => q = q0 ∨ H.size ≤ q) q0 (Or.inl rfl)) (cwI 0 hts (hy_gws hk_c2) rfl rfl rfl (hts _ (hy_in 1 (by decide +kernel))) (hts _ (hy_in 13 (by decide +kernel))) (hts _ (hy_in 14 (by decide +kernel))) rfl ⟨by decide, by decide, by decide +kernel⟩ ⟨by decide, by decide⟩) ⟨fun a U g mk z => ⟨z.1, ⟨va_K.moved (u := U) (U := U.calling g mk a) (Vm.Alike.refl U.vm) z.2.1.1, sc_N_same (s := U) (U := U.calling g mk a) rfl z.2.1.2.1, va_AO.moved (u := U) (U := U.calling g mk a) (Vm.Alike.refl U.vm) z.2.1.2.2.1, va_AO.moved (u := U) (U := U.calling g mk a) (Vm.Alike.refl U.vm) z.2.1.2.2.2.1, z.2.1.2.2.2.2⟩, z.2.2⟩, fun U hU hW => ⟨rfl, ⟨va_K.moved hW.alike hK, sc_N_warm hW hN, va_AO.moved hW.alike (hy_O1 hts), va_AO.moved hW.alike (hy_O0 hts), by rw [hU]; exact hP⟩, fun q hq => Or.inr (by rw [← hU]; exact hq)⟩⟩ rfl rfl hl.1 rfl (lv_room (Nat.le_of_ble_eq_true rfl)) dL_law_4 ⟨by decide, by decide⟩) hS (fun z _ h => h.elim (fun h => by rw [h]; exact hq0) (fun h => Nat.le_trans hS.1 h)) (fun z h => h.elim (fun h => by rw [h]; exact hq0) (fun h => Nat.le_trans hS.1 h)) ?_
  intro u t H1 locs1 ht hal _ hB hz hk hS1
  obtain ⟨ac, cc, h0, hK1, hP1, hD1⟩ := hB
  subst h0
  rw [ht] at hP1
  have hK1 := va_K.moved hal.symm hK1
  have hDc : va_D (fun q : Nat => s.heap.size ≤ q) (cx_w ac cc) := hD1.weaken (fun _ _ _ h => h.elim (fun h => by rw [h]; exact hq0) (fun h => Nat.le_trans hS.1 h))
  clear hP hD hD1 hk hz
  refine lv_astore_n (lv' := [(1, .ref (ac 0)), (0, .ref b)]) hx hb dL_law_7 rfl hl (by decide) rfl (fun ls hl => ?_)
  refine va_new (ci := 3) (fs := sc_tab 33 (mx_F 0 (fun _ => 0))) (C := RX3) (T := TX3) (N := 33) hx hb hts (hy_inw (k1 := 3) (by decide)) tyX3 tyX3_ok hown (hts _ (hy_in 436 (by decide +kernel))) (hts _ (hy_in 437 (by decide +kernel))) (hts _ (hy_in 4 (by decide +kernel))) hK hP1 hDc hS1 hA rfl hy_dv3 (by decide) (by decide) dL_law_8 (fun q1 H2 hP2 hD2 hS2 => ?_)
  obtain ⟨hPq, hPw, hq1, hne⟩ := cx_last hP2 hD2
  rw [mx_F0 (fun _ => 0) (fun _ => q1)] at hPq
  refine lv_dup hx hb dL_law_11 rfl ?_
  refine va_callv (va_runI (As := []) (rest := [.ref q1]) ⟨hx, hb, hml, hown, hts⟩ (mx_init l dC dI (fun q => q = q1 ∨ H2.size ≤ q) q1 (Or.inl rfl)) (cwI 0 hts (hy_gws hk_c3) rfl rfl rfl (hts _ (hy_in 4 (by decide +kernel))) (hts _ (hy_in 438 (by decide +kernel))) (hts _ (hy_in 439 (by decide +kernel))) rfl ⟨by decide, by decide, by decide +kernel⟩ ⟨by decide, by decide⟩) ⟨fun a U g mk z => ⟨z.1, ⟨va_K.moved (u := U) (U := U.calling g mk a) (Vm.Alike.refl U.vm) z.2.1.1, z.2.1.2⟩, z.2.2⟩, fun U hU hW => ⟨rfl, ⟨va_K.moved hW.alike hK, by rw [hU]; exact hPq⟩, fun q hq => Or.inr (by rw [← hU]; exact hq)⟩⟩ rfl rfl hl.1 rfl (lv_room (Nat.le_of_ble_eq_true rfl)) dL_law_12 ⟨by decide, by decide⟩) hS2 (fun z _ h => h.elim (fun h => by rw [h]; exact hq1) (fun h => Nat.le_trans hS2.1 h)) (fun z h => h.elim (fun h => by rw [h]; exact hq1) (fun h => Nat.le_trans hS2.1 h)) ?_
  intro u t2 H3 locs3 ht2 hal2 _ hB hz hk hS3
  obtain ⟨am, cm, h0, hK3, hP3, hD3⟩ := hB
  subst h0
  rw [ht2] at hP3
  have hK3 := va_K.moved hal2.symm hK3
  have hap : ∀ (j : Nat) (z : Nat × va_E), (cx_w ac cc)[j]? = some z → ¬ (z.1 = am 0 ∨ H2.size ≤ z.1) := fun j z hj h => h.elim (hne j z hj) (fun h => absurd (hPw j z hj).lt (Nat.not_lt.mpr h))
  have hPc : va_P (dC, dI) vwCl (cx_w ac cc) H3 := hPw.kept (fun j z hj => hk z.1 (hPw j z hj).lt (hap j z hj))
  have hP4 := va_P.app hPc hP3
  have hD4 : va_D (fun q : Nat => s.heap.size ≤ q) (cx_w ac cc ++ mx_w 20 am cm (mx_r 64 8)) := va_D.app hDc (hD3.weaken (fun _ _ _ h => h.elim (fun h => by rw [h]; exact hq1) (fun h => Nat.le_trans hS2.1 h))) (fun i j x y hi hj hxy => hap i x hi (by rw [hxy]; exact hD3.2 j y hj))
  clear hP2 hD2 hPq hPw hk hz
  refine lv_astore_n (lv' := [(2, .ref (am 0)), (1, .ref (ac 0)), (0, .ref b)]) hx hb dL_law_15 rfl hl (by decide) rfl (fun ls hl => ?_)
  refine lv_iconst (v := 1) hx hb dL_law_16 (by decide) ?_
  refine va_newa (atype := .long) (ty := .long) (a0 := (1, .inr (.inl (fun _ => 0)))) (N' := 1) hx hb (hts _ (hy_in 654 (by decide +kernel))) rfl hK hP4 hD4 hS3 hA (fun _ => rfl) (by decide) rfl (by decide) (by decide) (by decide) dL_law_17 (fun q2 cq H4 hK4 hP5 hD5 hS4 => ?_)
  rw [List.append_assoc] at hP5 hD5
  have hP6 := hx_P hP5
  have hD6 := hx_Dd hD5
  have hK6 : sc_KN dC dI (hx_cA cc cm cq) s := ⟨hx_K hK1 hK3 hK4, hN⟩
  refine lv_astore_n (lv' := [(3, .ref q2), (2, .ref (am 0)), (1, .ref (ac 0)), (0, .ref b)]) hx hb dL_law_19 rfl hl (by decide) rfl (fun ls hl => ?_)
  refine lv_iconst (v := nI 0) hx hb dL_law_20 (by decide) ?_
  refine lv_istore (lv' := [(4, .int (nI 0)), (3, .ref q2), (2, .ref (am 0)), (1, .ref (ac 0)), (0, .ref b)]) hx hb dL_law_21 hl (by decide) rfl (fun ls hl => ?_)
  refine W.widen (k := 40) (n := 2000) (by decide) (by decide) ?_
  refine lz_loop (ad := hx_ad ac am q2) (cA := hx_cA cc cm cq) (k := k) (A := fun q : Nat => s.heap.size ≤ q) (L := L) (xs := xs) ⟨⟨hx, hb, hml, hown, hts⟩, ⟨hK6, hZ, hst⟩, hX, hbl, hbA, hA⟩ hL 40 2000 (by decide) (by decide) ?_ 513 0 rfl ls [ac 1] (fun _ => 0) hx_I (hx_D (ac 1)) hx_S H4 locs3 hl ⟨hP6, hD6, hS4, hx_vd _, hx_AB _, hx_R⟩
  intro ls H locs cells slots hS hc1 hc2
  refine lv_iconst (v := 1) hx hb dL_law_875 (by decide) ?_
  refine va_forget (fun q hq => hS.2.2 q hq) ?_
  refine W.widen (k := 636560) (n := 7186423) hc1 hc2 ?_
  exact lw_ret hx hb hr hlocks dL_law_876
