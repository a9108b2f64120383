/-! pace: the two quotients are the same float, no NaN -/
def px_f (a d : Int32) : UInt32 := if d = 0 then FP.fconst0 else FP.fdiv (FP.i2f a) (FP.i2f d)
theorem px_mod (r : UInt32) : (r &&& 0x7fffffff).toNat = r.toNat % 2 ^ 31 := by
  rw [UInt32.toNat_and]
  exact Nat.and_two_pow_sub_one_eq_mod r.toNat 31
theorem px_of32 {r : UInt32} (h : FP.Core.fIsNaN r = false) : vf_n32 r := by
  unfold vf_n32
  rw [UInt32.le_iff_toNat_le, px_mod]
  have h2 : ¬ 2139095040 < r.toNat % 2 ^ 31 := fun z => by
    have := (FP.Core.isNaN_bits32 r).mpr z
    rw [h] at this
    cases this
  show r.toNat % 2 ^ 31 ≤ 2139095040
  omega
theorem px_div {a d : Int32} (h : ¬ d = 0) : FP.Core.fIsNaN (FP.Core.fdiv (FP.Core.i2f a) (FP.Core.i2f d)) = false := FP.Core.fdiv_out (FP.Core.i2f_fin a).notNaN (FP.Core.i2f_fin d) (fun hz => by
  have h1 := FP.Core.i2f_ne_zero h
  exact h1 ((FP.Core.zero_bits232 _).mp hz))
theorem px_n32 {a d : Int32} (h : ¬ d = 0) : vf_n32 (FP.fdiv (FP.i2f a) (FP.i2f d)) := px_of32 (px_div h)
theorem px_nan (a d : Int32) : FP.Core.fIsNaN (px_f a d) = false := by
  unfold px_f
  split
  · decide
  · rename_i h
    exact px_div h
theorem px_of64 {r : UInt64} (h : FP.Core.dIsNaN r = false) : vf_n64 r := by
  unfold vf_n64
  have hm : (r &&& 0x7fffffffffffffff).toNat = r.toNat % 2 ^ 63 := by
    rw [UInt64.toNat_and]
    exact Nat.and_two_pow_sub_one_eq_mod r.toNat 63
  rw [UInt64.le_iff_toNat_le, hm]
  have h2 : ¬ 9218868437227405312 < r.toNat % 2 ^ 63 := fun z => by
    have := (FP.Core.isNaN_bits r).mpr z
    rw [h] at this
    cases this
  show r.toNat % 2 ^ 63 ≤ 9218868437227405312
  omega
theorem px_d {x : UInt32} (h : FP.Core.fIsNaN x = false) : FP.Core.dIsNaN (FP.f2d x) = false := by
  have e : FP.f2d x = FP.Core.f2d x := by
    unfold FP.f2d
    rw [h]
    rfl
  rw [e]
  exact FP.Core.f2d_out h
theorem px_eq {x : UInt64} (h : FP.Core.dIsNaN x = false) : FP.dcmp x x = some .eq := FP.Core.dcmp_refl h
def px_Qc (dC : Nat → ClassId) (dI : Nat → Nat → Nat) (ad : Nat → Nat) (cA : Nat → ClassId) (LP : List Nat) (o : Nat → Int64) (A : Nat → Prop) (x : UInt32) (I : sc_I) (D : sc_R) : Array Value → State → Outcome → State → Prop := fun _ st oc t => oc = .returned (some (.float x)) ∧ va_P (dC, dI) vwCl (sc_w ad cA LP o I D) t.heap ∧ va_F A st t
set_option maxRecDepth 100000 in
theorem px_k92 : Cond.fieldLink RX2 92 RX2 "cycleCount" "I" ∈ sc_G := sc_inG 97 (by decide +kernel) (by decide +kernel)
set_option maxRecDepth 100000 in
set_option maxHeartbeats 4000000 in
theorem px_c {l : Launch} {dC : Nat → ClassId} {dI : Nat → Nat → Nat} {ad : Nat → Nat} {cA : Nat → ClassId} {LP : List Nat} {o : Nat → Int64} {A : Nat → Prop} {I : sc_I} {D : sc_R} : Met l yX2_pace (sc_ws yX2_pace cX2_pace 1 (some .float)) (sc_room 1) (sc_Pc dC dI ad cA LP o A [.inr (2, 0)] I D) (px_Qc dC dI ad cA LP o A (px_f (I 2 0 12) (I 2 0 13)) I D) 0 0 A := by
  refine Met.ofW (cc := cX2_pace) (maxL := 1) (ret := some .float) (by decide) rfl ?_
  intro p e s m args below meth c s₁ B hml hv
  obtain ⟨rfl, hK, hP⟩ := hv
  have hx := B.exec
  have hb := B.bytes
  have hr := B.returns
  have hts := atoms_spec (ws := sc_ws yX2_pace cX2_pace 1 (some .float)) B.pre
  have hG : ∀ w ∈ sc_G, w.before _ s = true := fun w hw => hts w (List.mem_cons_of_mem _ hw)
  have hown : s.vm.findClass RX2 = some m.cls := findClass_of_methodNamed B.named
  have hlocks := B.notSynchronized
  rw [lg_entry_eq]
  have hls := lv_entry (([.inr (2, 0)] : List sc_V).map (sc_tv ad)) (n := 1) (Nat.le_of_ble_eq_true rfl)
  rw [sc_al_map] at hls
  generalize ((lg_sl (([.inr (2, 0)] : List sc_V).map (sc_tv ad)) ++ List.replicate (1 - (lg_sl (([.inr (2, 0)] : List sc_V).map (sc_tv ad))).length) Slot.unset).toArray) = ls at hls ⊢
  obtain ⟨q0, he⟩ := sc_objx (ad := ad) (cA := cA) (LP := LP) (o := o) (I := I) (D := D) (k := 2) (i := 0) (by decide) rfl
  have hS : va_S A s.heap s.heap [] := va_S.rf
  refine lv_aload_n hx hb dX2_pace_0 rfl (lv_at hls 0 rfl) ?_
  refine va_get (D := (dC, dI)) (C := (sc_cl 2).1) (T := (sc_cl 2).2.1) (N := (sc_cl 2).2.2) hx hb hts (sc_in (by decide)) hown hK.1 hP q0 he (sc_cl_at (by decide)) 13 (by decide) (hG _ kF_2_74) (fun _ h9 => h9) (sc_tab_get (by decide)) dX2_pace_1 ?_
  refine lv_if_ne hx hb dX2_pace_4 (tgt := 11) (by decide) (fun z => ?_) (fun z => ?_)
  · have z : ¬ I 2 0 13 = 0 := z
    refine lv_aload_n hx hb dX2_pace_11 rfl (lv_at hls 0 rfl) ?_
    refine va_get (D := (dC, dI)) (C := (sc_cl 2).1) (T := (sc_cl 2).2.1) (N := (sc_cl 2).2.2) hx hb hts (sc_in (by decide)) hown hK.1 hP q0 he (sc_cl_at (by decide)) 12 (by decide) (hG _ px_k92) (fun _ h9 => h9) (sc_tab_get (by decide)) dX2_pace_12 ?_
    refine lv_i2f (x := I 2 0 12) hx hb dX2_pace_15 ?_
    refine lv_aload_n hx hb dX2_pace_16 rfl (lv_at hls 0 rfl) ?_
    refine va_get (D := (dC, dI)) (C := (sc_cl 2).1) (T := (sc_cl 2).2.1) (N := (sc_cl 2).2.2) hx hb hts (sc_in (by decide)) hown hK.1 hP q0 he (sc_cl_at (by decide)) 13 (by decide) (hG _ kF_2_74) (fun _ h9 => h9) (sc_tab_get (by decide)) dX2_pace_17 ?_
    refine lv_i2f (x := I 2 0 13) hx hb dX2_pace_20 ?_
    refine lv_fdiv hx hb dX2_pace_21 (px_n32 z) ?_
    exact W.fret hx hb hr (fun t ht hW => ⟨by unfold px_f; rw [if_neg z], by rw [ht]; exact hP, hS.F ht⟩) hS.2.2 dX2_pace_22 hlocks
  · have z : I 2 0 13 = 0 := z
    refine lv_fconst0 hx hb dX2_pace_7 ?_
    refine lv_goto hx hb dX2_pace_8 (tgt := 22) (by decide) ?_
    exact W.fret hx hb hr (fun t ht hW => ⟨by unfold px_f; rw [if_pos z], by rw [ht]; exact hP, hS.F ht⟩) hS.2.2 dX2_pace_22 hlocks
