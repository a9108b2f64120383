/-! any method of the class by its name, that throws -/
def tx_MetY (l : Launch) (d : Nat) (dC : Nat → ClassId) (dI : Nat → Nat → Nat) (ad : Nat → Nat) (cA : Nat → ClassId) (LP : List Nat) (o : Nat → Int64) (A : Nat → Prop) (k : Nat → Nat) (y : MethodName) (cc : ByteArray) (nL : Nat) (rt : Option FieldType) (as : List sc_V) (I : sc_I) (D : sc_R) (E : String) : Prop :=
  ∀ Qc : Array Value → State → Outcome → State → Prop, vx_Met l y (sc_ws y cc nL rt) (tx_room d) (tx_Pc dC dI ad cA LP o A k as I D) Qc (tx_XW dC dI ad cA LP o A I D E) 1 6 A
theorem tx_pubY {l : Launch} {d : Nat} {dC : Nat → ClassId} {dI : Nat → Nat → Nat} {ad : Nat → Nat} {cA : Nat → ClassId} {LP : List Nat} {o : Nat → Int64} {A : Nat → Prop} {k : Nat → Nat} {y : MethodName} {cc : ByteArray} {nL : Nat} {rt : Option FieldType} {as : List sc_V} {I : sc_I} {D : sc_R} {E : String} (hy : plainName y.cls = true) (hle : as.length ≤ nL)
    (body : ∀ (Qc : Array Value → State → Outcome → State → Prop) (p : Program) (e : Env) (s : State) (m : MethodId) (args : Array Value) (below : List Frame) (meth : Method) (c : Code) (ls : Array Slot), p.tables.exec = Jvm.exec → c.code = cc → c.maxLocals = nL → s.vm.findClass y.cls = some m.cls → (∀ w ∈ sc_ws y cc nL rt, w.before args s = true) → meth.locks = false → (∀ x ∈ c.exceptionTable.toList, False) → sc_KN dC dI cA s → va_P (dC, dI) vwCl (sc_w ad cA LP o I D) s.heap → tx_Z A k s → lv_has ls nL (sc_lm ad (sc_al 0 as)) →
      W p l e (tx_room d) s m args below meth c s.heap [] 0 0 (vx_MQ below Qc (tx_XW dC dI ad cA LP o A I D E) args s 1 6 A) (F0 m 0 ls [])) : tx_MetY l d dC dI ad cA LP o A k y cc nL rt as I D E := by
  intro Qc
  refine vx_ofW (cc := cc) (maxL := nL) (ret := rt) hy rfl ?_
  intro p e s m args below meth c s₁ B hml htb hv
  obtain ⟨rfl, hK, hP, hZ⟩ := hv
  have hts := atoms_spec (ws := sc_ws y cc nL rt) B.pre
  rw [lg_entry_eq]
  have hls := lv_entry (as.map (sc_tv ad)) (n := nL) (by rw [sc_lg]; exact hle)
  rw [sc_al_map] at hls
  exact body Qc p e s m _ below meth c _ B.exec B.bytes hml (findClass_of_methodNamed B.named) hts B.notSynchronized htb hK hP hZ hls
set_option maxRecDepth 100000 in
theorem tx_putI {l : Launch} (hl : l.stackTraces = false) {dC : Nat → ClassId} {dI : Nat → Nat → Nat} {ad : Nat → Nat} {cA : Nat → ClassId} {LP : List Nat} {o : Nat → Int64} {A : Nat → Prop} {k : Nat → Nat} {I : sc_I} {D : sc_R} {w a1 a2 a3 a4 a5 : Int32} (h : ¬ (0 ≤ w ∧ w < 64)) : tx_MetY l 1 dC dI ad cA LP o A k yX2_put cX2_put 7 none [.inr (2, 0), .inl w, .inl a1, .inl a2, .inl a3, .inl a4, .inl a5] I D tx_I := by
  refine tx_pubY (by decide) (Nat.le_of_ble_eq_true rfl) ?_
  intro Qc p e s m args below meth c ls hx hb hml hown hts hlk htb hK hP hZ hls
  exact lv_iload_n hx hb dX2_put_0 rfl (lv_at hls 1 rfl) (lv_bipush hx hb dX2_put_1 rfl (tx_callC (d := 0) (As := [.int w, .int 64]) (tx_cI hl h) mo_8 rfl kM_2_44 kS_8 hx hb hml hown hts hlk htb hls.1 hZ hP va_S.rf dX2_put_3))
set_option maxRecDepth 100000 in
theorem tx_putA {l : Launch} (hl : l.stackTraces = false) {dC : Nat → ClassId} {dI : Nat → Nat → Nat} {ad : Nat → Nat} {cA : Nat → ClassId} {LP : List Nat} {o : Nat → Int64} {A : Nat → Prop} {k : Nat → Nat} {I : sc_I} {D : sc_R} (hD : ∀ I D, va_D A (sc_w ad cA LP o I D)) (hv : sc_vd LP D) {w a1 a2 a3 a4 a5 : Int32} (h0 : 0 ≤ w ∧ w < 64) (h : ¬ m_pok a1 a2 a3 a4 a5) : tx_MetY l 1 dC dI ad cA LP o A k yX2_put cX2_put 7 none [.inr (2, 0), .inl w, .inl a1, .inl a2, .inl a3, .inl a4, .inl a5] I D tx_A := by
  refine tx_pubY (by decide) (Nat.le_of_ble_eq_true rfl) ?_
  intro Qc p e s m args below meth c ls hx hb hml hown hts hlk htb hK hP hZ hls
  refine lv_iload_n hx hb dX2_put_0 rfl (lv_at hls 1 rfl) (lv_bipush hx hb dX2_put_1 rfl ?_)
  refine tx_passC (rest := []) (tx_pI hD hv h0) mo_8 rfl kM_2_44 kS_8 hx hb hml hown hts hls.1 hK (by decide) (by decide) (by decide) (by decide) (by decide) hP va_S.rf dX2_put_3 ?_
  rintro r I1 D1 H1 locs1 ⟨rfl, rfl, rfl⟩ _ hP hS
  refine lv_iload_n hx hb dX2_put_6 rfl (lv_at hls 2 rfl) ?_
  refine lv_iconst hx hb dX2_put_7 rfl ?_
  refine lv_bipush hx hb dX2_put_8 rfl ?_
  by_cases c1 : 0 ≤ a1 ∧ a1 ≤ 19
  case neg => exact tx_callC (d := 0) (As := [.int a1, .int 0, .int 19]) (tx_cA hl c1) mo_9 rfl kM_2_48 kS_9 hx hb hml hown hts hlk htb hls.1 hZ hP hS dX2_put_10
  refine tx_passC (rest := []) (tx_pA hD hv c1) mo_9 rfl kM_2_48 kS_9 hx hb hml hown hts hls.1 hK (by decide) (by decide) (by decide) (by decide) (by decide) hP hS dX2_put_10 ?_
  rintro r I2 D2 H2 locs2 ⟨rfl, rfl, rfl⟩ _ hP hS
  refine lv_iload_n hx hb dX2_put_13 rfl (lv_at hls 3 rfl) ?_
  refine lv_iconst hx hb dX2_put_14 rfl ?_
  refine lv_bipush hx hb dX2_put_15 rfl ?_
  by_cases c2 : 0 ≤ a2 ∧ a2 ≤ 15
  case neg => exact tx_callC (d := 0) (As := [.int a2, .int 0, .int 15]) (tx_cA hl c2) mo_9 rfl kM_2_48 kS_9 hx hb hml hown hts hlk htb hls.1 hZ hP hS dX2_put_17
  refine tx_passC (rest := []) (tx_pA hD hv c2) mo_9 rfl kM_2_48 kS_9 hx hb hml hown hts hls.1 hK (by decide) (by decide) (by decide) (by decide) (by decide) hP hS dX2_put_17 ?_
  rintro r I2 D2 H2 locs2 ⟨rfl, rfl, rfl⟩ _ hP hS
  refine lv_iload hx hb dX2_put_20 (lv_at hls 4 rfl) ?_
  refine lv_iconst hx hb dX2_put_22 rfl ?_
  refine lv_bipush hx hb dX2_put_23 rfl ?_
  by_cases c3 : 0 ≤ a3 ∧ a3 ≤ 15
  case neg => exact tx_callC (d := 0) (As := [.int a3, .int 0, .int 15]) (tx_cA hl c3) mo_9 rfl kM_2_48 kS_9 hx hb hml hown hts hlk htb hls.1 hZ hP hS dX2_put_25
  refine tx_passC (rest := []) (tx_pA hD hv c3) mo_9 rfl kM_2_48 kS_9 hx hb hml hown hts hls.1 hK (by decide) (by decide) (by decide) (by decide) (by decide) hP hS dX2_put_25 ?_
  rintro r I2 D2 H2 locs2 ⟨rfl, rfl, rfl⟩ _ hP hS
  refine lv_iload hx hb dX2_put_28 (lv_at hls 5 rfl) ?_
  refine lv_iconst hx hb dX2_put_30 rfl ?_
  refine lv_bipush hx hb dX2_put_31 rfl ?_
  by_cases c4 : 0 ≤ a4 ∧ a4 ≤ 15
  case neg => exact tx_callC (d := 0) (As := [.int a4, .int 0, .int 15]) (tx_cA hl c4) mo_9 rfl kM_2_48 kS_9 hx hb hml hown hts hlk htb hls.1 hZ hP hS dX2_put_33
  refine tx_passC (rest := []) (tx_pA hD hv c4) mo_9 rfl kM_2_48 kS_9 hx hb hml hown hts hls.1 hK (by decide) (by decide) (by decide) (by decide) (by decide) hP hS dX2_put_33 ?_
  rintro r I2 D2 H2 locs2 ⟨rfl, rfl, rfl⟩ _ hP hS
  refine lv_iload hx hb dX2_put_36 (lv_at hls 6 rfl) ?_
  refine lv_bipush hx hb dX2_put_38 rfl ?_
  refine lv_bipush hx hb dX2_put_40 rfl ?_
  by_cases c5 : (-64) ≤ a5 ∧ a5 ≤ 63
  case neg => exact tx_callC (d := 0) (As := [.int a5, .int (-64), .int 63]) (tx_cA hl c5) mo_9 rfl kM_2_48 kS_9 hx hb hml hown hts hlk htb hls.1 hZ hP hS dX2_put_42
  exact absurd ⟨c1, c2, c3, c4, c5⟩ h
def tx_K1 (x : Int32) (I : sc_I) (D : sc_R) : sc_RT := fun r I' D' => r = some (.inl x) ∧ I' = I ∧ D' = D
theorem tx_pm {l : Launch} {dC : Nat → ClassId} {dI : Nat → Nat → Nat} {ad : Nat → Nat} {cA : Nat → ClassId} {LP : List Nat} {o : Nat → Int64} {A : Nat → Prop} {I : sc_I} {D : sc_R} (hD : ∀ I D, va_D A (sc_w ad cA LP o I D)) (hv : sc_vd LP D) {x : Int32} : sc_Met l 1 dC dI ad cA LP o A 71 [.inl x, .inl 16] I D (tx_K1 (c_m16 x) I D) :=
  sc_sound l dC dI ad cA LP o A hD 1 71 [.inl x, .inl 16] I D (tx_K1 (c_m16 x) I D) mo_71.1 (x_min 0 I D _ x 16 (fun h => ⟨by unfold c_m16; rw [if_pos h], rfl, rfl⟩) (fun h => ⟨by unfold c_m16; rw [if_neg h], rfl, rfl⟩)) (fun v hv => by
    simp only [List.mem_cons, List.not_mem_nil, or_false] at hv
    rcases hv with rfl | rfl <;> trivial) hv
set_option maxRecDepth 100000 in
theorem tx_retired {l : Launch} (hl : l.stackTraces = false) {dC : Nat → ClassId} {dI : Nat → Nat → Nat} {ad : Nat → Nat} {cA : Nat → ClassId} {LP : List Nat} {o : Nat → Int64} {A : Nat → Prop} {k : Nat → Nat} {I : sc_I} {D : sc_R} (hD : ∀ I D, va_D A (sc_w ad cA LP o I D)) (hv : sc_vd LP D) {w : Int32} (h : ¬ (0 ≤ w ∧ w < c_m16 (I 2 0 13))) : tx_Met l 1 dC dI ad cA LP o A k 40 [.inr (2, 0), .inl w] I D tx_I := by
  refine tx_pub (by decide) (Nat.le_of_ble_eq_true rfl) ?_
  intro Qc p e s m args below meth c ls hx hb0 hml hown hts hlk htb hK hP hZ hls
  have hb : c.code = cX2_retired := hb0
  refine lv_iload_n hx hb dX2_retired_0 rfl (lv_at hls 1 rfl) ?_
  refine lv_aload_n hx hb dX2_retired_1 rfl (lv_at hls 0 rfl) ?_
  obtain ⟨q0, he⟩ := sc_objx (ad := ad) (cA := cA) (LP := LP) (o := o) (I := I) (D := D) (k := 2) (i := 0) (by decide) rfl
  refine va_get (D := (dC, dI)) (C := (sc_cl 2).1) (T := (sc_cl 2).2.1) (N := (sc_cl 2).2.2) hx hb hts (sc_in (by decide)) hown hK.1 hP q0 he (sc_cl_at (by decide)) 13 (by decide) (hts _ (List.mem_cons_of_mem _ kF_2_74)) (fun _ h9 => h9) (sc_tab_get (by decide)) dX2_retired_2 ?_
  refine lv_bipush hx hb dX2_retired_5 rfl ?_
  refine tx_passC (rest := [.int w]) (tx_pm hD hv (x := I 2 0 13)) mo_71 rfl kM_2_86 kS_71 hx hb0 hml hown hts hls.1 hK (by decide) (by decide) (by decide) (by decide) (Nat.le_of_ble_eq_true rfl) hP va_S.rf dX2_retired_7 ?_
  rintro r I1 D1 H1 locs1 ⟨rfl, rfl, rfl⟩ _ hP hS
  exact tx_callC (d := 0) (As := [.int w, .int (c_m16 (I1 2 0 13))]) (tx_cI hl h) mo_8 rfl kM_2_44 kS_8 hx hb0 hml hown hts hlk htb hls.1 hZ hP hS dX2_retired_10
