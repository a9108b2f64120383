/-! StageChip.put that returns -/
def ix_g (a1 a2 a3 a4 a5 : Int32) : Nat → Int32 := fun j => match j with
  | 0 => a1 | 1 => a2 | 2 => a3 | 3 => a4 | _ => a5
def ix_Pc (dC : Nat → ClassId) (dI : Nat → Nat → Nat) (ad : Nat → Nat) (cA : Nat → ClassId) (LP : List Nat) (o : Nat → Int64) (A : Nat → Prop) (k : Nat → Nat) (as : List sc_V) (I : sc_I) (D : sc_R) : Array Value → State → Prop := fun v U => tx_Pc dC dI ad cA LP o A k as I D v U ∧ ∀ q, U.heap.size ≤ q → A q
def ix_W (dC : Nat → ClassId) (dI : Nat → Nat → Nat) (ad : Nat → Nat) (cA : Nat → ClassId) (LP : List Nat) (o : Nat → Int64) (A : Nat → Prop) (I : sc_I) (D : sc_R) (x : Nat) (g : Nat → Int32) (q : Nat) (H : Heap) : Prop := q ∉ LP ∧ va_P (dC, dI) vwCl (sc_w ad cA (LP ++ [q]) o (ix_I q g I) (sc_u D 7 0 x q)) H ∧ va_D A (sc_w ad cA (LP ++ [q]) o (ix_I q g I) (sc_u D 7 0 x q))
def ix_Qc (dC : Nat → ClassId) (dI : Nat → Nat → Nat) (ad : Nat → Nat) (cA : Nat → ClassId) (LP : List Nat) (o : Nat → Int64) (A : Nat → Prop) (I : sc_I) (D : sc_R) (x : Nat) (g : Nat → Int32) (r : Option Value) : Array Value → State → Outcome → State → Prop := fun _ st oc t => ∃ q : Nat, oc = .returned r ∧ ix_W dC dI ad cA LP o A I D x g q t.heap ∧ va_F A st t
theorem ix_blind {dC : Nat → ClassId} {dI : Nat → Nat → Nat} {ad : Nat → Nat} {cA : Nat → ClassId} {LP : List Nat} {o : Nat → Int64} {A : Nat → Prop} {k : Nat → Nat} {as : List sc_V} {I : sc_I} {D : sc_R} : FrameBlind (ix_Pc dC dI ad cA LP o A k as I D) := fun a U g mk q => ⟨lx_blind a U g mk q.1, q.2⟩
set_option maxRecDepth 100000 in
theorem ix_k1 : Cond.classLink RX2 7 RX1 ∈ sc_G := sc_inG 19 (by decide +kernel) (by decide +kernel)
set_option maxRecDepth 100000 in
theorem ix_k2 : Cond.instantiable RX1 5 ∈ sc_G := sc_inG 20 (by decide +kernel) (by decide +kernel)
set_option maxRecDepth 100000 in
theorem ix_k3 : Cond.initialized RX1 ∈ sc_G := sc_inG 2 (by decide +kernel) (by decide +kernel)
set_option maxRecDepth 100000 in
theorem ix_k4 : Cond.instanceMethod yX1_init ∈ sc_G := sc_inG 22 (by decide +kernel) (by decide +kernel)
set_option maxRecDepth 100000 in
theorem ix_k5 : Cond.code yX1_init cX1_init 6 none ∈ sc_G := sc_inG 23 rfl rfl
set_option maxRecDepth 100000 in
theorem ix_k6 : Cond.fieldLink RX2 18 RX2 "program" "[LStageChip$Instruction;" ∈ sc_G := sc_inG 86 (by decide +kernel) (by decide +kernel)
theorem ix_n1 : (RX2, 11, yX1_init, RX2) ∈ sc_NM := List.mem_of_getElem? (i := 0) rfl
theorem ix_dv : ∀ j, j < 5 → defaultValue (tyX1 j) = vp_V [.int 0, .int 0, .int 0, .int 0, .int 0] j := fun j hj => by
  rcases (show j = 0 ∨ j = 1 ∨ j = 2 ∨ j = 3 ∨ j = 4 by omega) with rfl | rfl | rfl | rfl | rfl <;> rfl
set_option maxRecDepth 100000 in
set_option maxHeartbeats 4000000 in
theorem ix_put {l : Launch} {dC : Nat → ClassId} {dI : Nat → Nat → Nat} {ad : Nat → Nat} {cA : Nat → ClassId} {LP : List Nat} {o : Nat → Int64} {A : Nat → Prop} {k : Nat → Nat} {I : sc_I} {D : sc_R} (hD0 : ∀ I D, va_D A (sc_w ad cA LP o I D)) (hv : sc_vd LP D) {w a1 a2 a3 a4 a5 : Int32} (h0 : 0 ≤ w ∧ w < 64) (h : m_pok a1 a2 a3 a4 a5) : Met l yX2_put (sc_ws yX2_put cX2_put 7 none) ({ frames := 3, cells := 1, slots := 6, locals := 90 }) (ix_Pc dC dI ad cA LP o A k [.inr (2, 0), .inl w, .inl a1, .inl a2, .inl a3, .inl a4, .inl a5] I D) (ix_Qc dC dI ad cA LP o A I D w.toNatClampNeg (ix_g a1 a2 a3 a4 a5) none) 1 6 A := by
  obtain ⟨c1, c2, c3, c4, c5⟩ := h
  refine Met.ofW (cc := cX2_put) (maxL := 7) (ret := none) (by decide) rfl ?_
  intro p e s m args below meth c s₁ B hml hvv
  obtain ⟨⟨rfl, hK, hP, hZ⟩, hA⟩ := hvv
  have hx := B.exec
  have hb := B.bytes
  have hr := B.returns
  have hts := atoms_spec (ws := sc_ws yX2_put cX2_put 7 none) B.pre
  have hG : ∀ w ∈ sc_G, w.before _ s = true := fun w hw => hts w (List.mem_cons_of_mem _ hw)
  have hown : s.vm.findClass RX2 = some m.cls := findClass_of_methodNamed B.named
  have hlocks := B.notSynchronized
  rw [lg_entry_eq]
  have hls := lv_entry (([.inr (2, 0), .inl w, .inl a1, .inl a2, .inl a3, .inl a4, .inl a5] : List sc_V).map (sc_tv ad)) (n := 7) (Nat.le_of_ble_eq_true rfl)
  rw [sc_al_map] at hls
  generalize ((lg_sl (([.inr (2, 0), .inl w, .inl a1, .inl a2, .inl a3, .inl a4, .inl a5] : List sc_V).map (sc_tv ad)) ++ List.replicate (7 - (lg_sl (([.inr (2, 0), .inl w, .inl a1, .inl a2, .inl a3, .inl a4, .inl a5] : List sc_V).map (sc_tv ad))).length) Slot.unset).toArray) = ls at hls ⊢
  refine lv_iload_n hx hb dX2_put_0 rfl (lv_at hls 1 rfl) (lv_bipush hx hb dX2_put_1 rfl ?_)
  refine tx_passC (rest := []) (tx_pI hD0 hv h0) mo_8 rfl kM_2_44 kS_8 hx hb hml hown hts hls.1 hK (by decide) (by decide) (by decide) (by decide) (by decide) hP va_S.rf dX2_put_3 ?_
  rintro r I1 D1 H1 locs1 ⟨rfl, rfl, rfl⟩ _ hP hS
  refine lv_iload_n hx hb dX2_put_6 rfl (lv_at hls 2 rfl) ?_
  refine lv_iconst hx hb dX2_put_7 rfl ?_
  refine lv_bipush hx hb dX2_put_8 rfl ?_
  refine tx_passC (rest := []) (tx_pA hD0 hv c1) mo_9 rfl kM_2_48 kS_9 hx hb hml hown hts hls.1 hK (by decide) (by decide) (by decide) (by decide) (by decide) hP hS dX2_put_10 ?_
  rintro r I2 D2 H2 locs2 ⟨rfl, rfl, rfl⟩ _ hP hS
  refine lv_iload_n hx hb dX2_put_13 rfl (lv_at hls 3 rfl) ?_
  refine lv_iconst hx hb dX2_put_14 rfl ?_
  refine lv_bipush hx hb dX2_put_15 rfl ?_
  refine tx_passC (rest := []) (tx_pA hD0 hv c2) mo_9 rfl kM_2_48 kS_9 hx hb hml hown hts hls.1 hK (by decide) (by decide) (by decide) (by decide) (by decide) hP hS dX2_put_17 ?_
  rintro r I2 D2 H2 locs2 ⟨rfl, rfl, rfl⟩ _ hP hS
  refine lv_iload hx hb dX2_put_20 (lv_at hls 4 rfl) ?_
  refine lv_iconst hx hb dX2_put_22 rfl ?_
  refine lv_bipush hx hb dX2_put_23 rfl ?_
  refine tx_passC (rest := []) (tx_pA hD0 hv c3) mo_9 rfl kM_2_48 kS_9 hx hb hml hown hts hls.1 hK (by decide) (by decide) (by decide) (by decide) (by decide) hP hS dX2_put_25 ?_
  rintro r I2 D2 H2 locs2 ⟨rfl, rfl, rfl⟩ _ hP hS
  refine lv_iload hx hb dX2_put_28 (lv_at hls 5 rfl) ?_
  refine lv_iconst hx hb dX2_put_30 rfl ?_
  refine lv_bipush hx hb dX2_put_31 rfl ?_
  refine tx_passC (rest := []) (tx_pA hD0 hv c4) mo_9 rfl kM_2_48 kS_9 hx hb hml hown hts hls.1 hK (by decide) (by decide) (by decide) (by decide) (by decide) hP hS dX2_put_33 ?_
  rintro r I2 D2 H2 locs2 ⟨rfl, rfl, rfl⟩ _ hP hS
  refine lv_iload hx hb dX2_put_36 (lv_at hls 6 rfl) ?_
  refine lv_bipush hx hb dX2_put_38 rfl ?_
  refine lv_bipush hx hb dX2_put_40 rfl ?_
  refine tx_passC (rest := []) (tx_pA hD0 hv c5) mo_9 rfl kM_2_48 kS_9 hx hb hml hown hts hls.1 hK (by decide) (by decide) (by decide) (by decide) (by decide) hP hS dX2_put_42 ?_
  rintro r I2 D2 H2 locs2 ⟨rfl, rfl, rfl⟩ _ hP hS
  refine lv_aload_n hx hb dX2_put_45 rfl (lv_at hls 0 rfl) ?_
  obtain ⟨q0, he⟩ := sc_objx (ad := ad) (cA := cA) (LP := LP) (o := o) (I := I2) (D := D2) (k := 2) (i := 0) (by decide) rfl
  refine va_get (D := (dC, dI)) (C := (sc_cl 2).1) (T := (sc_cl 2).2.1) (N := (sc_cl 2).2.2) hx hb hts (sc_in (by decide)) hown hK.1 hP q0 he (sc_cl_at (by decide)) 1 (by decide) (hG _ ix_k6) (fun _ h9 => h9) (sc_tab_get (by decide)) dX2_put_46 ?_
  refine lv_iload_n hx hb dX2_put_49 rfl (lv_at hls 1 rfl) ?_
  refine va_new (ci := 1) (fs := [.int 0, .int 0, .int 0, .int 0, .int 0]) (C := RX1) (T := TX1) (N := 5) hx hb hts (sc_in (k1 := 1) (by decide)) tyX1 tyX1_ok hown (hG _ ix_k1) (hG _ ix_k2) (hG _ ix_k3) hK.1 hP (hD0 _ _) hS hA rfl ix_dv (Nat.le_of_ble_eq_true rfl) (Nat.le_of_ble_eq_true rfl) dX2_put_50 (fun q H hPn hDn hS => ?_)
  have hlen : ∀ (j : Nat) (z : Nat × va_E), (sc_w ad cA LP o I2 D2)[j]? = some z → j < (sc_w ad cA LP o I2 D2).length := fun j z hz => (List.getElem?_eq_some_iff.mp hz).1
  have hlast : (sc_w ad cA LP o I2 D2 ++ [(q, (.inr (1, [.int 0, .int 0, .int 0, .int 0, .int 0]) : va_E))])[(sc_w ad cA LP o I2 D2).length]? = some (q, .inr (1, [.int 0, .int 0, .int 0, .int 0, .int 0])) := by
    rw [List.getElem?_append_right (Nat.le_refl _), Nat.sub_self]
    rfl
  have hleft : ∀ (j : Nat) (z : Nat × va_E), (sc_w ad cA LP o I2 D2)[j]? = some z → (sc_w ad cA LP o I2 D2 ++ [(q, (.inr (1, [.int 0, .int 0, .int 0, .int 0, .int 0]) : va_E))])[j]? = some z := fun j z hz => by
    rw [List.getElem?_append_left (hlen j z hz)]
    exact hz
  have hne : ∀ (j : Nat) (z : Nat × va_E), (sc_w ad cA LP o I2 D2)[j]? = some z → z.1 ≠ q := fun j z hz e => by
    have := hDn.1 _ _ _ _ (hleft j z hz) hlast e
    have := hlen j z hz
    omega
  have hqLP : q ∉ LP := fun hm => by
    obtain ⟨q1, he1⟩ := sc_objx (ad := ad) (cA := cA) (LP := LP) (o := o) (I := I2) (D := D2) (k := 1) (i := q) (by decide) hm
    exact hne q1 _ he1 rfl
  have hPq : va_P (dC, dI) vwCl [(q, .inr (1, [.int 0, .int 0, .int 0, .int 0, .int 0]))] H := fun j z hz => by
    have h1 : j < 1 := by simpa using (List.getElem?_eq_some_iff.mp hz).1
    have h2 : j = 0 := by omega
    subst h2
    cases hz
    exact hPn _ _ hlast
  have hPw : va_P (dC, dI) vwCl (sc_w ad cA LP o I2 D2) H := fun j z hz => hPn j z (hleft j z hz)
  have hAq : A q := hDn.2 _ _ hlast
  refine lv_dup hx hb dX2_put_53 rfl ?_
  refine lv_iload_n hx hb dX2_put_54 rfl (lv_at hls 2 rfl) ?_
  refine lv_iload_n hx hb dX2_put_55 rfl (lv_at hls 3 rfl) ?_
  refine lv_iload hx hb dX2_put_56 (lv_at hls 4 rfl) ?_
  refine lv_iload hx hb dX2_put_58 (lv_at hls 5 rfl) ?_
  refine lv_iload hx hb dX2_put_60 (lv_at hls 6 rfl) ?_
  refine va_callv (va_runIN (As := [.int a1, .int a2, .int a3, .int a4, .int a5]) (rest := [.ref q, .int w, .ref (ad 9)]) ⟨hx, hb, hml, hown, hts⟩ (ix_init l dC dI (sc_tys cA) q 0 0 0 0 0 a1 a2 a3 a4 a5) ⟨va_cnB 5 hts (sc_gws ix_k5) rfl rfl rfl (hK.2.2 _ ix_n1) (hG _ ix_k3) ⟨by decide, by decide, by decide +kernel⟩ ⟨Nat.le_of_ble_eq_true rfl, Nat.le_of_ble_eq_true rfl⟩, rfl, hG _ ix_k4⟩ ⟨fun a U g mk z => ⟨z.1, va_K.moved (u := U) (U := U.calling g mk a) (Vm.Alike.refl U.vm) z.2.1, z.2.2⟩, fun U hU hW => ⟨rfl, va_K.moved hW.alike hK.1, by rw [hU]; exact hPq⟩⟩ rfl rfl hls.1 rfl (lv_room (Nat.le_of_ble_eq_true rfl)) dX2_put_62 ⟨Nat.le_of_ble_eq_true rfl, Nat.le_of_ble_eq_true rfl⟩) hS (fun z _ e => by rw [e]; exact hAq) (fun z e => by rw [e]; exact hAq) ?_
  intro u t H1 locs3 ht hal _ hB hz hk hS1
  have hP1 : va_P (dC, dI) vwCl (sc_w ad cA LP o I2 D2 ++ [(q, .inr (1, [.int a1, .int a2, .int a3, .int a4, .int a5]))]) H1 := va_P.app (hPw.kept (fun j z hj => hk z.1 (hPw j z hj).lt (hne j z hj))) (by rw [← ht]; exact hB)
  have hP2 : va_P (dC, dI) vwCl (sc_w ad cA (LP ++ [q]) o (ix_I q (ix_g a1 a2 a3 a4 a5) I2) D2) H1 := by
    rw [← sc_w_push hqLP]
    exact hP1
  have hD2 : va_D A (sc_w ad cA (LP ++ [q]) o (ix_I q (ix_g a1 a2 a3 a4 a5) I2) D2) := va_D_fst (by rw [← sc_w_push hqLP, List.map_append, List.map_append]; rfl) hDn
  obtain ⟨q1, he1⟩ := sc_objx (ad := ad) (cA := cA) (LP := LP ++ [q]) (o := o) (I := ix_I q (ix_g a1 a2 a3 a4 a5) I2) (D := D2) (k := 1) (i := q) (by decide) (List.mem_append_right _ List.mem_cons_self)
  refine va_astq (r := sc_cl 1) hx hb hK.1 hP2 hD2 hS1 9 25 q1 1 sc_w_program sc_tys25 he1 (sc_cl_at (by decide)) (r_63 ⟨h0.1, ?_⟩) dX2_put_65 ?_
  · have := r_fd.mp ⟨Int32.not_lt.mpr h0.1, Int32.not_le.mpr h0.2⟩
    exact this.2
  intro H2 locs4 hP3 hD3 hS3
  rw [show (some (sc_ad ad 1 q)) = some q from rfl, sc_w_progset] at hP3 hD3
  refine W.widen (k := 1) (n := 6) (by decide) (by decide) ?_
  exact W.vret hx hb hr (fun t ht hW => ⟨q, rfl, ⟨hqLP, by rw [ht]; exact hP3, hD3⟩, hS3.F ht⟩) hS3.2.2 dX2_put_66
