/-! Flight.<init> -/
set_option maxRecDepth 100000 in
theorem fx_o1 : Cond.methodLink RX0 3 objectInit ∈ sc_G := sc_inG 55 (by decide +kernel) (by decide +kernel)
set_option maxRecDepth 100000 in
theorem fx_f1 : Cond.fieldLink RX0 9 RX0 "instruction" "LStageChip$Instruction;" ∈ sc_G := sc_inG 58 (by decide +kernel) (by decide +kernel)
theorem va_D_one {b : Nat} {e : va_E} : va_D (fun q => q = b) [(b, e)] := by
  refine ⟨?_, ?_⟩
  · intro i j p q hi hj _
    have h1 : i < 1 := by simpa using (List.getElem?_eq_some_iff.mp hi).1
    have h2 : j < 1 := by simpa using (List.getElem?_eq_some_iff.mp hj).1
    omega
  · intro i q hi
    have h1 : i < 1 := by simpa using (List.getElem?_eq_some_iff.mp hi).1
    have h2 : i = 0 := by omega
    subst h2
    cases hi
    rfl
set_option maxRecDepth 100000 in
set_option maxHeartbeats 4000000 in
theorem fx_init (l : Launch) (dC : Nat → ClassId) (dI : Nat → Nat → Nat) (tys : List (ClassId × FieldType)) (b n : Nat) (v0 v1 v2 v3 v4 v5 v6 v7 : Value) : Met l yX0_init (sc_ws yX0_init cX0_init 2 none) ({ frames := 1, cells := 0, slots := 0, locals := 30 }) (va_Pc [.ref b, .ref n] (fun U => va_K (dC, dI) vwCl tys U ∧ va_P (dC, dI) vwCl [(b, .inr (0, [v0, v1, v2, v3, v4, v5, v6, v7]))] U.heap)) (va_Qv (fun _ : Unit => True) (fun _ t => va_P (dC, dI) vwCl [(b, .inr (0, [v0, .ref n, v2, v3, v4, v5, v6, v7]))] t.heap) (fun q => q = b)) 0 0 (fun q => q = b) := by
  refine Met.ofW (cc := cX0_init) (maxL := 2) (ret := none) (by decide) rfl ?_
  intro p e s m args below meth c s₁ B hml hv
  obtain ⟨rfl, hK, hP⟩ := hv
  have hx := B.exec
  have hb := B.bytes
  have hr := B.returns
  have hts := atoms_spec (ws := sc_ws yX0_init cX0_init 2 none) B.pre
  have hG : ∀ w ∈ sc_G, w.before _ s = true := fun w hw => hts w (List.mem_cons_of_mem _ hw)
  have hown : s.vm.findClass RX0 = some m.cls := findClass_of_methodNamed B.named
  have hlocks := B.notSynchronized
  have hD : va_D (fun q => q = b) [(b, (.inr (0, [v0, v1, v2, v3, v4, v5, v6, v7]) : va_E))] := va_D_one
  have hS : va_S (fun q => q = b) s.heap s.heap [] := va_S.rf
  have hl := lv_entry ([.ref b, .ref n]) (n := 2) (Nat.le_of_ble_eq_true rfl)
  rw [lg_entry_eq]
  generalize (lg_sl ([.ref b, .ref n]) ++ List.replicate (2 - (lg_sl ([.ref b, .ref n])).length) Slot.unset).toArray = ls at hl ⊢
  have hl : lv_has ls 2 [(0, .ref b), (1, .ref n)] := hl
  refine lv_aload_n hx hb dX0_init_0 rfl (lv_at hl 0 rfl) ?_
  refine W.objInit hx hb hown (hG _ fx_o1) (hG _ ix_o2) (hG _ (sc_inG 18 rfl rfl)) rfl (by rw [hml]; exact hl.1) rfl dX0_init_1 (Nat.le_of_ble_eq_true rfl) (Nat.le_of_ble_eq_true rfl) ?_
  refine W.eq (g2 := F0 m 4 ls []) rfl ?_
  refine lv_aload_n hx hb dX0_init_4 rfl (lv_at hl 0 rfl) (lv_aload_n hx hb dX0_init_5 rfl (lv_at hl 1 rfl) ?_)
  refine va_put (D := (dC, dI)) (v := .ref n) (ty := .object RX1) (C := (sc_cl 0).1) (T := (sc_cl 0).2.1) (N := (sc_cl 0).2.2) hx hb hts (sc_in (by decide)) (sc_ty0 0) (sc_ty_ok (by decide)) (sc_nm_ok (by decide)) hown hK hP hD hS 0 rfl (sc_cl_at (by decide)) 1 (by decide) (hG _ fx_f1) (fun _ h9 => h9) rfl (by decide +kernel) rfl rfl (Nat.le_of_ble_eq_true rfl) dX0_init_6 (fun H locs hP hD hS => ?_)
  exact W.vret hx hb hr (fun t ht hW => ⟨⟨(), rfl, trivial, by show va_P _ _ _ t.heap; rw [ht]; exact hP⟩, hS.F ht⟩) hS.2.2 dX0_init_9
