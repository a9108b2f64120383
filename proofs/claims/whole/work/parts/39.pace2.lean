set_option maxRecDepth 100000 in
theorem px_k71 : Cond.fieldLink RX3 71 RX3 "thrown" "I" ∈ sc_G := sc_inG 442 (by decide +kernel) (by decide +kernel)
set_option maxRecDepth 100000 in
theorem px_k145 : Cond.fieldLink RX3 145 RX3 "all" "I" ∈ sc_G := sc_inG 468 (by decide +kernel) (by decide +kernel)
set_option maxRecDepth 100000 in
theorem px_k108 : Cond.fieldLink RX3 108 RX3 "done" "I" ∈ sc_G := sc_inG 469 (by decide +kernel) (by decide +kernel)
set_option maxRecDepth 100000 in
set_option maxHeartbeats 4000000 in
theorem px_m {l : Launch} {dC : Nat → ClassId} {dI : Nat → Nat → Nat} {ad : Nat → Nat} {cA : Nat → ClassId} {LP : List Nat} {o : Nat → Int64} {A : Nat → Prop} {I : sc_I} {D : sc_R} (hD0 : ∀ I D, va_D A (sc_w ad cA LP o I D)) : Met l yX3_pace (sc_ws yX3_pace cX3_pace 3 (some .float)) (sc_room 1) (sc_Pc dC dI ad cA LP o A [.inr (3, 0)] I D) (px_Qc dC dI ad cA LP o A (px_f (I 3 0 26) (I 3 0 27)) (sc_u I 3 0 0 0) D) 0 0 A := by
  refine Met.ofW (cc := cX3_pace) (maxL := 3) (ret := some .float) (by decide) rfl ?_
  intro p e s m args below meth c s₁ B hml hv
  obtain ⟨rfl, hK, hP⟩ := hv
  have hx := B.exec
  have hb := B.bytes
  have hr := B.returns
  have hts := atoms_spec (ws := sc_ws yX3_pace cX3_pace 3 (some .float)) B.pre
  have hG : ∀ w ∈ sc_G, w.before _ s = true := fun w hw => hts w (List.mem_cons_of_mem _ hw)
  have hown : s.vm.findClass RX3 = some m.cls := findClass_of_methodNamed B.named
  have hlocks := B.notSynchronized
  rw [lg_entry_eq]
  have hls := lv_entry (([.inr (3, 0)] : List sc_V).map (sc_tv ad)) (n := 3) (Nat.le_of_ble_eq_true rfl)
  rw [sc_al_map] at hls
  generalize ((lg_sl (([.inr (3, 0)] : List sc_V).map (sc_tv ad)) ++ List.replicate (3 - (lg_sl (([.inr (3, 0)] : List sc_V).map (sc_tv ad))).length) Slot.unset).toArray) = ls at hls ⊢
  have hls : lv_has ls 3 [(0, .ref (sc_ad ad 3 0))] := hls
  obtain ⟨hp, he0⟩ := sc_obj (ad := ad) (cA := cA) (LP := LP) (o := o) (I := I) (D := D) (k := 3) (i := 0) (Or.inr (Or.inr rfl)) rfl
  refine lv_aload_n hx hb dX3_pace_0 rfl (lv_at hls 0 rfl) ?_
  refine lv_iconst hx hb dX3_pace_1 rfl ?_
  refine va_put (D := (dC, dI)) (v := .int 0) (ty := .int) (C := (sc_cl 3).1) (T := (sc_cl 3).2.1) (N := (sc_cl 3).2.2) hx hb hts (sc_in (by decide)) (sc_ty0 3) (sc_ty_ok (by decide)) (sc_nm_ok (by decide)) hown hK.1 hP (hD0 I D) va_S.rf (sc_pl 3 0) he0 (sc_cl_at (by decide)) 0 (by decide) (hG _ px_k71) (fun _ h9 => h9) rfl (by decide +kernel) rfl rfl (by rw [sc_tab_len]; decide) dX3_pace_2 (fun H1 locs1 hP1 hD1 hS => ?_)
  rw [sc_w_putI (LP := LP) (Or.inr (Or.inr rfl)) rfl rfl] at hP1
  obtain ⟨q0, he⟩ := sc_objx (ad := ad) (cA := cA) (LP := LP) (o := o) (I := sc_u I 3 0 0 0) (D := D) (k := 3) (i := 0) (by decide) rfl
  refine lv_aload_n hx hb dX3_pace_5 rfl (lv_at hls 0 rfl) ?_
  refine va_get (D := (dC, dI)) (C := (sc_cl 3).1) (T := (sc_cl 3).2.1) (N := (sc_cl 3).2.2) hx hb hts (sc_in (by decide)) hown hK.1 hP1 q0 he (sc_cl_at (by decide)) 27 (by decide) (hG _ px_k108) (fun _ h9 => h9) (sc_tab_get (by decide)) dX3_pace_6 ?_
  refine lv_if_ne hx hb dX3_pace_9 (tgt := 14) (by decide) (fun z => ?_) (fun z => ?_)
  · have z : ¬ I 3 0 27 = 0 := z
    refine lv_aload_n hx hb dX3_pace_14 rfl (lv_at hls 0 rfl) ?_
    refine va_get (D := (dC, dI)) (C := (sc_cl 3).1) (T := (sc_cl 3).2.1) (N := (sc_cl 3).2.2) hx hb hts (sc_in (by decide)) hown hK.1 hP1 q0 he (sc_cl_at (by decide)) 26 (by decide) (hG _ px_k145) (fun _ h9 => h9) (sc_tab_get (by decide)) dX3_pace_15 ?_
    refine lv_i2f (x := I 3 0 26) hx hb dX3_pace_18 ?_
    refine lv_fstore_n hx hb dX3_pace_19 rfl hls (by decide) rfl ?_
    intro ls1 hls1
    refine lv_aload_n hx hb dX3_pace_20 rfl (lv_at hls1 1 rfl) ?_
    refine va_get (D := (dC, dI)) (C := (sc_cl 3).1) (T := (sc_cl 3).2.1) (N := (sc_cl 3).2.2) hx hb hts (sc_in (by decide)) hown hK.1 hP1 q0 he (sc_cl_at (by decide)) 27 (by decide) (hG _ px_k108) (fun _ h9 => h9) (sc_tab_get (by decide)) dX3_pace_21 ?_
    refine lv_i2f (x := I 3 0 27) hx hb dX3_pace_24 ?_
    refine lv_fstore_n hx hb dX3_pace_25 rfl hls1 (by decide) rfl ?_
    intro ls2 hls2
    refine lv_fload_n hx hb dX3_pace_26 rfl (lv_at hls2 1 rfl) ?_
    refine lv_fload_n hx hb dX3_pace_27 rfl (lv_at hls2 0 rfl) ?_
    refine lv_fdiv hx hb dX3_pace_28 (px_n32 z) ?_
    exact W.fret hx hb hr (fun t ht hW => ⟨by unfold px_f; rw [if_neg z], by rw [ht]; exact hP1, hS.F ht⟩) hS.2.2 dX3_pace_29 hlocks
  · have z : I 3 0 27 = 0 := z
    refine lv_fconst0 hx hb dX3_pace_12 ?_
    exact W.fret hx hb hr (fun t ht hW => ⟨by unfold px_f; rw [if_pos z], by rw [ht]; exact hP1, hS.F ht⟩) hS.2.2 dX3_pace_13 hlocks
