/-! Instruction.<init> -/
theorem ix_nm : ∀ a, a < 5 → ∀ b, b < 5 → a ≠ b → (TX1 a).2.1 ≠ (TX1 b).2.1 := by decide
theorem ix_f0 : Cond.fieldLink RX1 9 RX1 "operation" "I" ∈ sc_G := sc_inG 25 (by decide +kernel) (by decide +kernel)
theorem ix_f1 : Cond.fieldLink RX1 15 RX1 "d" "I" ∈ sc_G := sc_inG 28 (by decide +kernel) (by decide +kernel)
theorem ix_f2 : Cond.fieldLink RX1 18 RX1 "s" "I" ∈ sc_G := sc_inG 31 (by decide +kernel) (by decide +kernel)
theorem ix_f3 : Cond.fieldLink RX1 21 RX1 "t" "I" ∈ sc_G := sc_inG 33 (by decide +kernel) (by decide +kernel)
theorem ix_f4 : Cond.fieldLink RX1 24 RX1 "n" "I" ∈ sc_G := sc_inG 35 (by decide +kernel) (by decide +kernel)
theorem ix_o1 : Cond.methodLink RX1 3 objectInit ∈ sc_G := sc_inG 24 (by decide +kernel) (by decide +kernel)
theorem ix_o2 : Cond.instanceMethod objectInit ∈ sc_G := sc_inG 17 (by decide +kernel) (by decide +kernel)
set_option maxRecDepth 100000 in
set_option maxHeartbeats 4000000 in
theorem ix_init (l : Launch) (dC : Nat → ClassId) (dI : Nat → Nat → Nat) (tys : List (ClassId × FieldType)) (b : Nat) (z0 z1 z2 z3 z4 a1 a2 a3 a4 a5 : Int32) : Met l yX1_init (sc_ws yX1_init cX1_init 6 none) ({ frames := 1, cells := 0, slots := 0, locals := 30 }) (va_Pc [.ref b, .int a1, .int a2, .int a3, .int a4, .int a5] (fun U => va_K (dC, dI) vwCl tys U ∧ va_P (dC, dI) vwCl [(b, .inr (1, [.int z0, .int z1, .int z2, .int z3, .int z4]))] U.heap)) (va_Qv (fun _ : Unit => True) (fun _ t => va_P (dC, dI) vwCl [(b, .inr (1, [.int a1, .int a2, .int a3, .int a4, .int a5]))] t.heap) (fun q => q = b)) 0 0 (fun q => q = b) := by
  refine Met.ofW (cc := cX1_init) (maxL := 6) (ret := none) (by decide) rfl ?_
  intro p e s m args below meth c s₁ B hml hv
  obtain ⟨rfl, hK, hP⟩ := hv
  have hx := B.exec
  have hb := B.bytes
  have hr := B.returns
  have hts := atoms_spec (ws := sc_ws yX1_init cX1_init 6 none) B.pre
  have hG : ∀ w ∈ sc_G, w.before _ s = true := fun w hw => hts w (List.mem_cons_of_mem _ hw)
  have hown : s.vm.findClass RX1 = some m.cls := findClass_of_methodNamed B.named
  have hlocks := B.notSynchronized
  have hin : meth.name = "<init>" := (name_of_methodNamed B.named B.method).1
  have hD : va_D (fun q => q = b) [(b, (.inr (1, [.int z0, .int z1, .int z2, .int z3, .int z4]) : va_E))] := by
    refine ⟨?_, ?_⟩
    · intro i j p q hi hj hij
      have h1 : i < 1 := by simpa using (List.getElem?_eq_some_iff.mp hi).1
      have h2 : j < 1 := by simpa using (List.getElem?_eq_some_iff.mp hj).1
      omega
    · intro i q hi
      have h1 : i < 1 := by simpa using (List.getElem?_eq_some_iff.mp hi).1
      have h2 : i = 0 := by omega
      subst h2
      cases hi
      rfl
  have hS : va_S (fun q => q = b) s.heap s.heap [] := va_S.rf
  have hl := lv_entry ([.ref b, .int a1, .int a2, .int a3, .int a4, .int a5]) (n := 6) (Nat.le_of_ble_eq_true rfl)
  rw [lg_entry_eq]
  generalize (lg_sl ([.ref b, .int a1, .int a2, .int a3, .int a4, .int a5]) ++ List.replicate (6 - (lg_sl ([.ref b, .int a1, .int a2, .int a3, .int a4, .int a5])).length) Slot.unset).toArray = ls at hl ⊢
  have hl : lv_has ls 6 [(0, .ref b), (1, .int a1), (2, .int a2), (3, .int a3), (4, .int a4), (5, .int a5)] := hl
  refine lv_aload_n hx hb dX1_init_0 rfl (lv_at hl 0 rfl) ?_
  refine W.objInit hx hb hown (hG _ ix_o1) (hG _ ix_o2) (hG _ (sc_inG 18 rfl rfl)) rfl (by rw [hml]; exact hl.1) rfl dX1_init_1 (Nat.le_of_ble_eq_true rfl) (Nat.le_of_ble_eq_true rfl) ?_
  refine W.eq (g2 := F0 m 4 ls []) rfl ?_
  refine lv_aload_n hx hb dX1_init_4 rfl (lv_at hl 0 rfl) (lv_iload_n hx hb dX1_init_5 rfl (lv_at hl 1 rfl) ?_)
  refine va_putF (D := (dC, dI)) (ci := 1) (v := .int a1) (ty := .int) (C := RX1) (T := TX1) (N := 5) hx hb hts (sc_in (k1 := 1) (by decide)) tyX1 tyX1_ok ix_nm hown hK hP hD hS 0 rfl rfl 0 (by decide) (hG _ ix_f0) (fun _ h9 => h9) rfl hin rfl (by decide +kernel) rfl rfl (Nat.le_of_ble_eq_true rfl) dX1_init_6 (fun H locs hP hD hS => ?_)
  refine lv_aload_n hx hb dX1_init_9 rfl (lv_at hl 0 rfl) (lv_iload_n hx hb dX1_init_10 rfl (lv_at hl 2 rfl) ?_)
  refine va_putF (D := (dC, dI)) (ci := 1) (v := .int a2) (ty := .int) (C := RX1) (T := TX1) (N := 5) hx hb hts (sc_in (k1 := 1) (by decide)) tyX1 tyX1_ok ix_nm hown hK hP hD hS 0 rfl rfl 1 (by decide) (hG _ ix_f1) (fun _ h9 => h9) rfl hin rfl (by decide +kernel) rfl rfl (Nat.le_of_ble_eq_true rfl) dX1_init_11 (fun H locs hP hD hS => ?_)
  refine lv_aload_n hx hb dX1_init_14 rfl (lv_at hl 0 rfl) (lv_iload_n hx hb dX1_init_15 rfl (lv_at hl 3 rfl) ?_)
  refine va_putF (D := (dC, dI)) (ci := 1) (v := .int a3) (ty := .int) (C := RX1) (T := TX1) (N := 5) hx hb hts (sc_in (k1 := 1) (by decide)) tyX1 tyX1_ok ix_nm hown hK hP hD hS 0 rfl rfl 2 (by decide) (hG _ ix_f2) (fun _ h9 => h9) rfl hin rfl (by decide +kernel) rfl rfl (Nat.le_of_ble_eq_true rfl) dX1_init_16 (fun H locs hP hD hS => ?_)
  refine lv_aload_n hx hb dX1_init_19 rfl (lv_at hl 0 rfl) (lv_iload hx hb dX1_init_20 (lv_at hl 4 rfl) ?_)
  refine va_putF (D := (dC, dI)) (ci := 1) (v := .int a4) (ty := .int) (C := RX1) (T := TX1) (N := 5) hx hb hts (sc_in (k1 := 1) (by decide)) tyX1 tyX1_ok ix_nm hown hK hP hD hS 0 rfl rfl 3 (by decide) (hG _ ix_f3) (fun _ h9 => h9) rfl hin rfl (by decide +kernel) rfl rfl (Nat.le_of_ble_eq_true rfl) dX1_init_22 (fun H locs hP hD hS => ?_)
  refine lv_aload_n hx hb dX1_init_25 rfl (lv_at hl 0 rfl) (lv_iload hx hb dX1_init_26 (lv_at hl 5 rfl) ?_)
  refine va_putF (D := (dC, dI)) (ci := 1) (v := .int a5) (ty := .int) (C := RX1) (T := TX1) (N := 5) hx hb hts (sc_in (k1 := 1) (by decide)) tyX1 tyX1_ok ix_nm hown hK hP hD hS 0 rfl rfl 4 (by decide) (hG _ ix_f4) (fun _ h9 => h9) rfl hin rfl (by decide +kernel) rfl rfl (Nat.le_of_ble_eq_true rfl) dX1_init_28 (fun H locs hP hD hS => ?_)
  exact W.vret hx hb hr (fun t ht hW => ⟨⟨(), rfl, trivial, by show va_P _ _ _ t.heap; rw [ht]; exact hP⟩, hS.F ht⟩) hS.2.2 dX1_init_31
