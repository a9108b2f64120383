/-! StageChip.<init>: the flights, the contract -/
theorem cx_last {A : Nat → Prop} {D : va_G} {cl : List vw_C} {ws : va_W} {q : Nat} {e : va_E} {H : Heap} (hP : va_P D cl (ws ++ [(q, e)]) H) (hD : va_D A (ws ++ [(q, e)])) : va_P D cl [(q, e)] H ∧ va_P D cl ws H ∧ A q ∧ ∀ (j : Nat) (z : Nat × va_E), ws[j]? = some z → z.1 ≠ q := by
  have hlen : ∀ (j : Nat) (z : Nat × va_E), ws[j]? = some z → j < ws.length := fun j z hz => (List.getElem?_eq_some_iff.mp hz).1
  have hlast : (ws ++ [(q, e)])[ws.length]? = some (q, e) := by
    rw [List.getElem?_append_right (Nat.le_refl _), Nat.sub_self]
    rfl
  have hleft : ∀ (j : Nat) (z : Nat × va_E), ws[j]? = some z → (ws ++ [(q, e)])[j]? = some z := fun j z hz => by
    rw [List.getElem?_append_left (hlen j z hz)]
    exact hz
  refine ⟨fun j z hz => ?_, fun j z hz => hP j z (hleft j z hz), hD.2 _ _ hlast, fun j z hz e => ?_⟩
  · have h1 : j < 1 := by simpa using (List.getElem?_eq_some_iff.mp hz).1
    have h2 : j = 0 := by omega
    subst h2
    cases hz
    exact hP _ _ hlast
  · have := hD.1 _ _ _ _ (hleft j z hz) hlast e
    have := hlen j z hz
    omega
abbrev cx_R : Room := { frames := 2, cells := 12, slots := 200, locals := 60 }
section
variable {p : Program} {l : Launch} {e : Env} {s : State} {m : MethodId} {args : Array Value} {below : List Frame} {meth : Method} {c : Code} {Q : State → Prop} {dC : Nat → ClassId} {dI : Nat → Nat → Nat} {A : Nat → Prop} {b n : Nat} {cells slots : Nat} {tys : List (ClassId × FieldType)} {ls : Array Slot} {H : Heap} {locs : List Loc} {ws : va_W} {fs : List Value}
set_option maxRecDepth 100000 in
set_option maxHeartbeats 4000000 in
/-- one flight more -/
theorem cx_it {st i t0 : Nat} {cS : ClassId} {f : Nat → Option Nat} (hx : p.tables.exec = Jvm.exec) (hb : c.code = cX2_init) (hml : c.maxLocals = 2) (hts : ∀ w ∈ sc_ws yX2_init cX2_init 2 none, w.before args s = true) (hown : s.vm.findClass RX2 = some m.cls) (hK : va_K (dC, dI) vwCl tys s) (hN : sc_N s) (hA : ∀ q, s.heap.size ≤ q → A q)
    (he0 : ws[0]? = some (b, .inr (2, fs))) (hf5 : fs[5]? = some (.ref st)) (hf0 : fs[0]? = some (.ref n)) (he6 : ws[6]? = some (st, .inl (cS, 5, .inr (.inr (.inr (.inr (f))))))) (hty : tys[t0]? = some (cS, .object RX0)) (hi : i < 5) (hl : lv_has ls 2 [(1, .int (nI i)), (0, .ref b)]) (hP : va_P (dC, dI) vwCl ws H) (hD : va_D A ws) (hS : va_S A s.heap H locs) (hc1 : cells + 1 ≤ 12) (hc2 : slots + 8 ≤ 200)
    (kk : ∀ (q : Nat) (ls : Array Slot) (H : Heap) (locs : List Loc), lv_has ls 2 [(1, .int (nI (i + 1))), (0, .ref b)] → va_P (dC, dI) vwCl ((ws ++ [(q, (.inr (0, cx_fl n) : va_E))]).set 6 (st, .inl (cS, 5, .inr (.inr (.inr (.inr (va_up f i (some q)))))))) H → va_D A ((ws ++ [(q, (.inr (0, cx_fl n) : va_E))]).set 6 (st, .inl (cS, 5, .inr (.inr (.inr (.inr (va_up f i (some q)))))))) → va_S A s.heap H locs → W p l e cx_R s m args below meth c H locs (cells + 1) (slots + 8) Q (F0 m 109 ls [])) :
    W p l e cx_R s m args below meth c H locs cells slots Q (F0 m 109 ls []) := by
  have hG : ∀ w ∈ sc_G, w.before args s = true := fun w hw => hts w (List.mem_cons_of_mem _ hw)
  refine lv_iload_n hx hb dX2_init_109 rfl (lv_at hl 0 rfl) ?_
  refine lv_iconst (v := 5) hx hb dX2_init_110 (by decide) ?_
  refine lv_icmp_ge (tgt := 137) hx hb dX2_init_111 (by decide) (fun z => absurd z (nI_ge hi (by decide))) (fun _ => ?_)
  refine lv_aload_n hx hb dX2_init_114 rfl (lv_at hl 1 rfl) ?_
  refine va_get (D := (dC, dI)) (C := RX2) (T := TX2) (N := 17) hx hb hts (sc_in (k1 := 2) (by decide)) hown hK hP 0 he0 rfl 5 (by decide) (hG _ ck_34) (fun _ h9 => h9) hf5 dX2_init_115 ?_
  refine lv_iload_n hx hb dX2_init_118 rfl (lv_at hl 0 rfl) ?_
  refine va_new (ci := 0) (fs := [.int 0, .null, .int 0, .int 0, .int 0, .int 0, .int 0, .int 0]) (C := RX0) (T := TX0) (N := 8) hx hb hts (sc_in (k1 := 0) (by decide)) tyX0 tyX0_ok hown (hG _ ck_32) (hG _ ck_i0) (hG _ ck_z0) hK hP hD hS hA rfl (cx_dv0 n) hc1 hc2 dX2_init_119 (fun q H1 hPn hDn hS1 => ?_)
  obtain ⟨hPq, hPw, hAq, hne⟩ := cx_last hPn hDn
  refine lv_dup hx hb dX2_init_122 rfl ?_
  refine lv_aload_n hx hb dX2_init_123 rfl (lv_at hl 1 rfl) ?_
  refine va_get (D := (dC, dI)) (C := RX2) (T := TX2) (N := 17) hx hb hts (sc_in (k1 := 2) (by decide)) hown hK hPw 0 he0 rfl 0 (by decide) (hG _ ck_14) (fun _ h9 => h9) hf0 dX2_init_124 ?_
  refine va_callv (va_runIN (As := [.ref n]) (rest := [.ref q, .int (nI i), .ref st]) ⟨hx, hb, hml, hown, hts⟩ (fx_init l dC dI tys q n (.int 0) .null (.int 0) (.int 0) (.int 0) (.int 0) (.int 0) (.int 0)) ⟨va_cnB 1 hts (sc_gws ck_c0) rfl rfl rfl (hN.2 _ ck_n0) (hG _ ck_z0) ⟨by decide, by decide, by decide +kernel⟩ ⟨Nat.le_of_ble_eq_true rfl, Nat.le_of_ble_eq_true rfl⟩, rfl, hG _ ck_m0⟩ ⟨fun a U g mk z => ⟨z.1, va_K.moved (u := U) (U := U.calling g mk a) (Vm.Alike.refl U.vm) z.2.1, z.2.2⟩, fun U hU hW => ⟨rfl, va_K.moved hW.alike hK, by rw [hU]; exact hPq⟩⟩ rfl rfl hl.1 rfl (lv_room (Nat.le_of_ble_eq_true rfl)) dX2_init_127 ⟨hc1, hc2⟩) hS1 (fun z _ e => by rw [e]; exact hAq) (fun z e => by rw [e]; exact hAq) ?_
  intro u t H2 locs3 ht hal _ hB hz hk hS2
  have hP1 : va_P (dC, dI) vwCl (ws ++ [(q, (.inr (0, cx_fl n) : va_E))]) H2 := va_P.app (hPw.kept (fun j z hj => hk z.1 (hPw j z hj).lt (hne j z hj))) (by rw [← ht]; exact hB)
  have hD1 : va_D A (ws ++ [(q, (.inr (0, cx_fl n) : va_E))]) := va_D_fst (by rw [List.map_append, List.map_append]; rfl) hDn
  have hlen : ∀ (j : Nat) (z : Nat × va_E), ws[j]? = some z → (ws ++ [(q, (.inr (0, cx_fl n) : va_E))])[j]? = some z := fun j z hz => by
    rw [List.getElem?_append_left (List.getElem?_eq_some_iff.mp hz).1]
    exact hz
  refine va_astq (r := sc_cl 0) (vs := cx_fl n) hx hb hK hP1 hD1 hS2 6 t0 ws.length 0 (hlen _ _ he6) hty ?_ (sc_cl_at (by decide)) (vp_in_nI hi (by decide)) dX2_init_130 (fun H3 locs4 hP3 hD3 hS3 => ?_)
  · rw [List.getElem?_append_right (Nat.le_refl _), Nat.sub_self]
    rfl
  rw [nI_clamp (show i < 2 ^ 31 by omega)] at hP3 hD3
  refine lv_iinc (v := nI (i + 1)) (lv' := [(1, .int (nI (i + 1))), (0, .ref b)]) hx hb dX2_init_131 hl (k := 0) rfl (nI_1 i) (by decide) rfl (fun ls hl => ?_)
  refine lv_goto (tgt := 109) hx hb dX2_init_134 (by decide) ?_
  exact kk q ls H3 locs4 hl hP3 hD3 hS3
/-- a new int row and its final field -/
theorem cx_step {pc3 k N idx : Nat} {v : Int32} (hx : p.tables.exec = Jvm.exec) (hb : c.code = cX2_init) (hts : ∀ w ∈ sc_ws yX2_init cX2_init 2 none, w.before args s = true) (hown : s.vm.findClass RX2 = some m.cls) (hin : meth.name = "<init>") (hA : ∀ q, s.heap.size ≤ q → A q) (hK : va_K (dC, dI) vwCl tys s) (hP : va_P (dC, dI) vwCl ((b, .inr (2, fs)) :: ws) H) (hD : va_D A ((b, .inr (2, fs)) :: ws)) (hS : va_S A s.heap H locs)
    (hv : ¬ v < 0) (hN : v.toNatClampNeg = N) (hbytes : N * componentBytes .int ≤ 536870912) (hcells : cells + 1 ≤ 12) (hslots : slots + N ≤ 200) (hk : k < 17) (hfk : (TX2 k).2.2.2 = true) (hlen : k < fs.length) (hlink : Cond.fieldLink RX2 idx RX2 (TX2 k).2.1 (TX2 k).2.2.1 ∈ sc_G) (hdecl : (TX2 k).1 = RX2) (hd : parseFieldDescriptor (TX2 k).2.2.1 = some (.array .int))
    (d1 : decode cX2_init pc3 = .ok (.newarray .int, 2)) (d2 : decode cX2_init (pc3 + 2) = .ok (.putfield idx, 3))
    (kk : ∀ (q : Nat) (cA : ClassId) (H1 : Heap) (locs1 : List Loc), va_K (dC, dI) vwCl (tys ++ [(cA, .int)]) s → va_P (dC, dI) vwCl ((b, .inr (2, fs.set k (.ref q))) :: (ws ++ [(q, .inl (cA, N, .inl (fun _ => 0)))])) H1 → va_D A ((b, .inr (2, fs.set k (.ref q))) :: (ws ++ [(q, .inl (cA, N, .inl (fun _ => 0)))])) → va_S A s.heap H1 locs1 → W p l e cx_R s m args below meth c H1 locs1 (cells + 1) (slots + N) Q (F0 m (pc3 + 2 + 3) ls [])) :
    W p l e cx_R s m args below meth c H locs cells slots Q (F0 m pc3 ls [.int v, .ref b]) := by
  refine va_newa (atype := .int) (a0 := (N, .inl (fun _ => 0))) (ty := .int) hx hb (hts _ (List.mem_cons_of_mem _ nk_ai)) rfl hK hP hD hS hA (fun _ => rfl) hv hN hbytes hcells hslots d1 (fun q cA H1 hK1 hP1 hD1 hS1 => ?_)
  refine va_putF (D := (dC, dI)) (ci := 2) (v := .ref q) (ty := .array .int) (C := RX2) (T := TX2) (N := 17) hx hb hts (sc_in (k1 := 2) (by decide)) tyX2 tyX2_ok nmX2 hown hK1 hP1 hD1 hS1 0 rfl rfl k hk (hts _ (List.mem_cons_of_mem _ hlink)) (fun _ h9 => by rw [hdecl] at h9; exact h9) hfk hin hdecl hd rfl rfl hlen d2 (fun H2 locs2 hP2 hD2 hS2 => ?_)
  exact kk q cA H2 locs2 hK1 hP2 hD2 hS2
end
def cx_w (ad : Nat → Nat) (cA : Nat → ClassId) : va_W := [(ad 0, .inr (2, cx_FS (.ref (ad 1)) (.ref (ad 2)) (.ref (ad 3)) (.ref (ad 4)) (.ref (ad 5)) (.ref (ad 6)) (.ref (ad 12)))), (ad 1, .inr (1, cx_nop)), (ad 2, .inl (cA 0, 64, .inr (.inr (.inr (.inr (fun _ => some (ad 1))))))), (ad 3, .inl (cA 1, 32, .inl (fun _ => 0))), (ad 4, .inl (cA 2, 16, .inl (fun _ => 0))), (ad 5, .inl (cA 3, 8, .inl (cx_h 8))), (ad 6, .inl (cA 4, 5, .inr (.inr (.inr (.inr (fun i => some (ad (i + 7)))))))), (ad 7, .inr (0, cx_fl (ad 1))), (ad 8, .inr (0, cx_fl (ad 1))), (ad 9, .inr (0, cx_fl (ad 1))), (ad 10, .inr (0, cx_fl (ad 1))), (ad 11, .inr (0, cx_fl (ad 1))), (ad 12, .inl (cA 5, 16, .inl (fun _ => 0)))]
def cx_t (cA : Nat → ClassId) : List (ClassId × FieldType) := [(cA 0, .object RX1), (cA 1, .int), (cA 2, .int), (cA 3, .int), (cA 4, .object RX0), (cA 5, .int)]
set_option maxRecDepth 100000 in
set_option maxHeartbeats 4000000 in
theorem cx_init (l : Launch) (dC : Nat → ClassId) (dI : Nat → Nat → Nat) (A : Nat → Prop) (b : Nat) (hAb : A b) : Met l yX2_init (sc_ws yX2_init cX2_init 2 none) cx_R (va_Pc [.ref b] (fun U => (va_K (dC, dI) vwCl [] U ∧ sc_N U ∧ va_AO RX1 U ∧ va_AO RX0 U ∧ va_P (dC, dI) vwCl [(b, .inr (2, cx_FS .null .null .null .null .null .null .null))] U.heap) ∧ ∀ q, U.heap.size ≤ q → A q)) (va_Qv (fun _ : Unit => True) (fun _ t => ∃ (ad : Nat → Nat) (cA : Nat → ClassId), ad 0 = b ∧ va_K (dC, dI) vwCl (cx_t cA) t ∧ va_P (dC, dI) vwCl (cx_w ad cA) t.heap ∧ va_D A (cx_w ad cA)) A) 12 200 A := by
  refine Met.ofW (cc := cX2_init) (maxL := 2) (ret := none) (by decide) rfl ?_
  intro p e s m args below meth c s₁ B hml hv
  obtain ⟨rfl, ⟨hK, hN, ho1, ho0, hP⟩, hA⟩ := hv
  have hx := B.exec
  have hb := B.bytes
  have hr := B.returns
  have hts := atoms_spec (ws := sc_ws yX2_init cX2_init 2 none) B.pre
  have hG : ∀ w ∈ sc_G, w.before _ s = true := fun w hw => hts w (List.mem_cons_of_mem _ hw)
  have hown : s.vm.findClass RX2 = some m.cls := findClass_of_methodNamed B.named
  have hlocks := B.notSynchronized
  have hin : meth.name = "<init>" := (name_of_methodNamed B.named B.method).1
  have hD : va_D A [(b, (.inr (2, cx_FS .null .null .null .null .null .null .null) : va_E))] := (va_D_one (b := b)).weaken (fun _ _ _ z => by rw [z]; exact hAb)
  have hS : va_S A s.heap s.heap [] := va_S.rf
  have hl := lv_entry ([.ref b]) (n := 2) (Nat.le_of_ble_eq_true rfl)
  rw [lg_entry_eq]
  generalize (lg_sl ([.ref b]) ++ List.replicate (2 - (lg_sl ([.ref b])).length) Slot.unset).toArray = ls at hl ⊢
  have hl : lv_has ls 2 [(0, .ref b)] := hl
  refine lv_aload_n hx hb dX2_init_0 rfl (lv_at hl 0 rfl) ?_
  refine W.objInit hx hb hown (hG _ ck_o1) (hG _ ix_o2) (hG _ (sc_inG 18 rfl rfl)) rfl (by rw [hml]; exact hl.1) rfl dX2_init_1 (Nat.le_of_ble_eq_true rfl) (Nat.le_of_ble_eq_true rfl) ?_
  refine W.eq (g2 := F0 m 4 ls []) rfl ?_
  refine lv_aload_n hx hb dX2_init_4 rfl (lv_at hl 0 rfl) ?_
  refine va_new (ci := 1) (fs := [.int 0, .int 0, .int 0, .int 0, .int 0]) (C := RX1) (T := TX1) (N := 5) hx hb hts (sc_in (k1 := 1) (by decide)) tyX1 tyX1_ok hown (hG _ ix_k1) (hG _ ix_k2) (hG _ ix_k3) hK hP hD hS hA rfl ix_dv (Nat.le_of_ble_eq_true rfl) (Nat.le_of_ble_eq_true rfl) dX2_init_5 (fun n H hPn hDn hS => ?_)
  obtain ⟨hPq, hPw, hAq, hne⟩ := cx_last hPn hDn
  refine lv_dup hx hb dX2_init_8 rfl ?_
  refine lv_bipush (v := 19) hx hb dX2_init_9 (by decide) ?_
  refine lv_iconst (v := 0) hx hb dX2_init_11 (by decide) ?_
  refine lv_iconst (v := 0) hx hb dX2_init_12 (by decide) ?_
  refine lv_iconst (v := 0) hx hb dX2_init_13 (by decide) ?_
  refine lv_iconst (v := 0) hx hb dX2_init_14 (by decide) ?_
  refine va_callv (va_runIN (As := [.int 19, .int 0, .int 0, .int 0, .int 0]) (rest := [.ref n, .ref b]) ⟨hx, hb, hml, hown, hts⟩ (ix_init l dC dI [] n 0 0 0 0 0 19 0 0 0 0) ⟨va_cnB 5 hts (sc_gws ix_k5) rfl rfl rfl (hN.2 _ ix_n1) (hG _ ix_k3) ⟨by decide, by decide, by decide +kernel⟩ ⟨Nat.le_of_ble_eq_true rfl, Nat.le_of_ble_eq_true rfl⟩, rfl, hG _ ix_k4⟩ ⟨fun a U g mk z => ⟨z.1, va_K.moved (u := U) (U := U.calling g mk a) (Vm.Alike.refl U.vm) z.2.1, z.2.2⟩, fun U hU hW => ⟨rfl, va_K.moved hW.alike hK, by rw [hU]; exact hPq⟩⟩ rfl rfl hl.1 rfl (lv_room (Nat.le_of_ble_eq_true rfl)) dX2_init_15 ⟨Nat.le_of_ble_eq_true rfl, Nat.le_of_ble_eq_true rfl⟩) hS (fun z _ e => by rw [e]; exact hAq) (fun z e => by rw [e]; exact hAq) ?_
  intro u t H locs ht hal _ hB hz hk hS
  have hP : va_P (dC, dI) vwCl [(b, .inr (2, cx_FS .null .null .null .null .null .null .null)), (n, .inr (1, cx_nop))] H := va_P.app (hPw.kept (fun j z hj => hk z.1 (hPw j z hj).lt (hne j z hj))) (by rw [← ht]; exact hB)
  have hD : va_D A [(b, (.inr (2, cx_FS .null .null .null .null .null .null .null) : va_E)), (n, .inr (1, cx_nop))] := va_D_fst (by rfl) hDn
  clear hPn hDn hPq hPw hB
  refine va_putF (D := (dC, dI)) (ci := 2) (v := .ref n) (ty := .object RX1) (C := RX2) (T := TX2) (N := 17) hx hb hts (sc_in (k1 := 2) (by decide)) tyX2 tyX2_ok nmX2 hown hK hP hD hS 0 rfl rfl 0 (by decide) (hG _ ck_14) (fun _ h9 => h9) rfl hin rfl (by decide +kernel) rfl rfl (Nat.le_of_ble_eq_true rfl) dX2_init_18 (fun H locs hP hD hS => ?_)
  refine lv_aload_n hx hb dX2_init_21 rfl (lv_at hl 0 rfl) ?_
  refine lv_bipush (v := 64) hx hb dX2_init_22 (by decide) ?_
  refine va_newq (C := RX1) (N' := 64) hx hb hown (hG _ ix_k1) ho1 hK hP hD hS hA (by decide) rfl (by decide) (Nat.le_of_ble_eq_true rfl) (Nat.le_of_ble_eq_true rfl) dX2_init_24 (fun pr cP H hK hP hD hS => ?_)
  refine va_putF (D := (dC, dI)) (ci := 2) (v := .ref pr) (ty := .array (.object RX1)) (C := RX2) (T := TX2) (N := 17) hx hb hts (sc_in (k1 := 2) (by decide)) tyX2 tyX2_ok nmX2 hown hK hP hD hS 0 rfl rfl 1 (by decide) (hG _ ix_k6) (fun _ h9 => h9) rfl hin rfl (by decide +kernel) rfl rfl (Nat.le_of_ble_eq_true rfl) dX2_init_27 (fun H locs hP hD hS => ?_)
  rw [← cx_g0 n] at hP hD
  have hP : va_P (dC, dI) vwCl [(b, .inr (2, cx_FS (.ref n) (.ref pr) .null .null .null .null .null)), (n, .inr (1, cx_nop)), (pr, .inl (cP, 64, .inr (.inr (.inr (.inr (cx_g n 0))))))] H := hP
  have hD : va_D A [(b, .inr (2, cx_FS (.ref n) (.ref pr) .null .null .null .null .null)), (n, .inr (1, cx_nop)), (pr, .inl (cP, 64, .inr (.inr (.inr (.inr (cx_g n 0))))))] := hD
  refine lv_iconst (v := nI 0) hx hb dX2_init_30 (by decide) ?_
  refine lv_istore_n (lv' := [(1, .int (nI 0)), (0, .ref b)]) hx hb dX2_init_31 rfl hl (by decide) rfl (fun ls hl => ?_)
  refine cx_loop1 hx hb hts hown hK ?_ 64 0 rfl ls H locs hl hP hD hS
  clear hP hD hS hl
  intro ls H locs hl hP hD hS
  have hP := cx_Pset (g := fun _ => some n) hP (k := 2) rfl (fun j hj => by unfold cx_g; rw [if_pos hj])
  have hD : va_D A [(b, .inr (2, cx_FS (.ref n) (.ref pr) .null .null .null .null .null)), (n, .inr (1, cx_nop)), (pr, .inl (cP, 64, .inr (.inr (.inr (.inr (fun _ => some n))))))] := va_D_fst (by rfl) hD
  refine lv_aload_n hx hb dX2_init_54 rfl (lv_at hl 0 rfl) ?_
  refine lv_bipush (v := 32) hx hb dX2_init_55 (by decide) ?_
  refine cx_step (pc3 := 57) (k := 2) (N := 32) (idx := 22) hx hb hts hown hin hA hK hP hD hS (by decide) rfl (by decide) (Nat.le_of_ble_eq_true rfl) (Nat.le_of_ble_eq_true rfl) (by decide) rfl (Nat.le_of_ble_eq_true rfl) ck_22 rfl (by decide +kernel) dX2_init_57 dX2_init_59 (fun da cD H locs hK hP hD hS => ?_)
  have hP : va_P (dC, dI) vwCl [(b, .inr (2, cx_FS (.ref n) (.ref pr) (.ref da) .null .null .null .null)), (n, .inr (1, cx_nop)), (pr, .inl (cP, 64, .inr (.inr (.inr (.inr (fun _ => some n)))))), (da, .inl (cD, 32, .inl (fun _ => 0)))] H := hP
  have hD : va_D A [(b, .inr (2, cx_FS (.ref n) (.ref pr) (.ref da) .null .null .null .null)), (n, .inr (1, cx_nop)), (pr, .inl (cP, 64, .inr (.inr (.inr (.inr (fun _ => some n)))))), (da, .inl (cD, 32, .inl (fun _ => 0)))] := hD
  have hK : va_K (dC, dI) vwCl [(cP, .object RX1), (cD, .int)] s := hK
  refine lv_aload_n hx hb dX2_init_62 rfl (lv_at hl 0 rfl) ?_
  refine lv_bipush (v := 16) hx hb dX2_init_63 (by decide) ?_
  refine cx_step (pc3 := 65) (k := 3) (N := 16) (idx := 26) hx hb hts hown hin hA hK hP hD hS (by decide) rfl (by decide) (Nat.le_of_ble_eq_true rfl) (Nat.le_of_ble_eq_true rfl) (by decide) rfl (Nat.le_of_ble_eq_true rfl) ck_26 rfl (by decide +kernel) dX2_init_65 dX2_init_67 (fun re cG H locs hK hP hD hS => ?_)
  have hP : va_P (dC, dI) vwCl [(b, .inr (2, cx_FS (.ref n) (.ref pr) (.ref da) (.ref re) .null .null .null)), (n, .inr (1, cx_nop)), (pr, .inl (cP, 64, .inr (.inr (.inr (.inr (fun _ => some n)))))), (da, .inl (cD, 32, .inl (fun _ => 0))), (re, .inl (cG, 16, .inl (fun _ => 0)))] H := hP
  have hD : va_D A [(b, .inr (2, cx_FS (.ref n) (.ref pr) (.ref da) (.ref re) .null .null .null)), (n, .inr (1, cx_nop)), (pr, .inl (cP, 64, .inr (.inr (.inr (.inr (fun _ => some n)))))), (da, .inl (cD, 32, .inl (fun _ => 0))), (re, .inl (cG, 16, .inl (fun _ => 0)))] := hD
  have hK : va_K (dC, dI) vwCl [(cP, .object RX1), (cD, .int), (cG, .int)] s := hK
  refine lv_aload_n hx hb dX2_init_70 rfl (lv_at hl 0 rfl) ?_
  refine lv_bipush (v := 8) hx hb dX2_init_71 (by decide) ?_
  refine cx_step (pc3 := 73) (k := 4) (N := 8) (idx := 29) hx hb hts hown hin hA hK hP hD hS (by decide) rfl (by decide) (Nat.le_of_ble_eq_true rfl) (Nat.le_of_ble_eq_true rfl) (by decide) rfl (Nat.le_of_ble_eq_true rfl) ck_29 rfl (by decide +kernel) dX2_init_73 dX2_init_75 (fun ct cC H locs hK hP hD hS => ?_)
  have hP : va_P (dC, dI) vwCl [(b, .inr (2, cx_FS (.ref n) (.ref pr) (.ref da) (.ref re) (.ref ct) .null .null)), (n, .inr (1, cx_nop)), (pr, .inl (cP, 64, .inr (.inr (.inr (.inr (fun _ => some n)))))), (da, .inl (cD, 32, .inl (fun _ => 0))), (re, .inl (cG, 16, .inl (fun _ => 0))), (ct, .inl (cC, 8, .inl (fun _ => 0)))] H := hP
  have hD : va_D A [(b, .inr (2, cx_FS (.ref n) (.ref pr) (.ref da) (.ref re) (.ref ct) .null .null)), (n, .inr (1, cx_nop)), (pr, .inl (cP, 64, .inr (.inr (.inr (.inr (fun _ => some n)))))), (da, .inl (cD, 32, .inl (fun _ => 0))), (re, .inl (cG, 16, .inl (fun _ => 0))), (ct, .inl (cC, 8, .inl (fun _ => 0)))] := hD
  have hK : va_K (dC, dI) vwCl [(cP, .object RX1), (cD, .int), (cG, .int), (cC, .int)] s := hK
  have hP : va_P (dC, dI) vwCl [(b, .inr (2, cx_FS (.ref n) (.ref pr) (.ref da) (.ref re) (.ref ct) .null .null)), (n, .inr (1, cx_nop)), (pr, .inl (cP, 64, .inr (.inr (.inr (.inr (fun _ => some n)))))), (da, .inl (cD, 32, .inl (fun _ => 0))), (re, .inl (cG, 16, .inl (fun _ => 0))), (ct, .inl (cC, 8, .inl (cx_h 0)))] H := by rw [cx_h0]; exact hP
  have hD : va_D A [(b, .inr (2, cx_FS (.ref n) (.ref pr) (.ref da) (.ref re) (.ref ct) .null .null)), (n, .inr (1, cx_nop)), (pr, .inl (cP, 64, .inr (.inr (.inr (.inr (fun _ => some n)))))), (da, .inl (cD, 32, .inl (fun _ => 0))), (re, .inl (cG, 16, .inl (fun _ => 0))), (ct, .inl (cC, 8, .inl (cx_h 0)))] := by rw [cx_h0]; exact hD
  refine lv_iconst (v := nI 0) hx hb dX2_init_78 (by decide) ?_
  refine lv_istore_n (lv' := [(1, .int (nI 0)), (0, .ref b)]) hx hb dX2_init_79 rfl hl (by decide) rfl (fun ls hl => ?_)
  refine cx_loop2 (cP := cP) hx hb hts hown hK rfl ?_ 8 0 rfl ls H locs hl hP hD hS
  clear hP hD hS hl
  intro ls H locs hl hP hD hS
  refine lv_aload_n hx hb dX2_init_99 rfl (lv_at hl 0 rfl) ?_
  refine lv_iconst (v := 5) hx hb dX2_init_100 (by decide) ?_
  refine va_newq (C := RX0) (N' := 5) hx hb hown (hG _ ck_32) ho0 hK hP hD hS hA (by decide) rfl (by decide) (Nat.le_of_ble_eq_true rfl) (Nat.le_of_ble_eq_true rfl) dX2_init_101 (fun st cS H hK hP hD hS => ?_)
  refine va_putF (D := (dC, dI)) (ci := 2) (v := .ref st) (ty := .array (.object RX0)) (C := RX2) (T := TX2) (N := 17) hx hb hts (sc_in (k1 := 2) (by decide)) tyX2 tyX2_ok nmX2 hown hK hP hD hS 0 rfl rfl 5 (by decide) (hG _ ck_34) (fun _ h9 => h9) rfl hin rfl (by decide +kernel) rfl rfl (Nat.le_of_ble_eq_true rfl) dX2_init_104 (fun H locs hP hD hS => ?_)
  have hP : va_P (dC, dI) vwCl [(b, .inr (2, cx_FS (.ref n) (.ref pr) (.ref da) (.ref re) (.ref ct) (.ref st) .null)), (n, .inr (1, cx_nop)), (pr, .inl (cP, 64, .inr (.inr (.inr (.inr (fun _ => some n)))))), (da, .inl (cD, 32, .inl (fun _ => 0))), (re, .inl (cG, 16, .inl (fun _ => 0))), (ct, .inl (cC, 8, .inl (cx_h 8))), (st, .inl (cS, 5, .inr (.inr (.inr (.inr (fun _ => none))))))] H := hP
  have hD : va_D A [(b, .inr (2, cx_FS (.ref n) (.ref pr) (.ref da) (.ref re) (.ref ct) (.ref st) .null)), (n, .inr (1, cx_nop)), (pr, .inl (cP, 64, .inr (.inr (.inr (.inr (fun _ => some n)))))), (da, .inl (cD, 32, .inl (fun _ => 0))), (re, .inl (cG, 16, .inl (fun _ => 0))), (ct, .inl (cC, 8, .inl (cx_h 8))), (st, .inl (cS, 5, .inr (.inr (.inr (.inr (fun _ => none))))))] := hD
  have hK : va_K (dC, dI) vwCl [(cP, .object RX1), (cD, .int), (cG, .int), (cC, .int), (cS, .object RX0)] s := hK
  refine lv_iconst (v := nI 0) hx hb dX2_init_107 (by decide) ?_
  refine lv_istore_n (lv' := [(1, .int (nI 0)), (0, .ref b)]) hx hb dX2_init_108 rfl hl (by decide) rfl (fun ls hl => ?_)
  refine cx_it (i := 0) (t0 := 4) hx hb hml hts hown hK hN hA rfl rfl rfl rfl rfl (by decide) hl hP hD hS (Nat.le_of_ble_eq_true rfl) (Nat.le_of_ble_eq_true rfl) ?_
  clear hP hD hS hl
  intro f0 ls H locs hl hP hD hS
  have hP : va_P (dC, dI) vwCl [(b, .inr (2, cx_FS (.ref n) (.ref pr) (.ref da) (.ref re) (.ref ct) (.ref st) .null)), (n, .inr (1, cx_nop)), (pr, .inl (cP, 64, .inr (.inr (.inr (.inr (fun _ => some n)))))), (da, .inl (cD, 32, .inl (fun _ => 0))), (re, .inl (cG, 16, .inl (fun _ => 0))), (ct, .inl (cC, 8, .inl (cx_h 8))), (st, .inl (cS, 5, .inr (.inr (.inr (.inr (va_up (fun _ => none) 0 (some f0))))))), (f0, .inr (0, cx_fl n))] H := hP
  have hD : va_D A [(b, .inr (2, cx_FS (.ref n) (.ref pr) (.ref da) (.ref re) (.ref ct) (.ref st) .null)), (n, .inr (1, cx_nop)), (pr, .inl (cP, 64, .inr (.inr (.inr (.inr (fun _ => some n)))))), (da, .inl (cD, 32, .inl (fun _ => 0))), (re, .inl (cG, 16, .inl (fun _ => 0))), (ct, .inl (cC, 8, .inl (cx_h 8))), (st, .inl (cS, 5, .inr (.inr (.inr (.inr (va_up (fun _ => none) 0 (some f0))))))), (f0, .inr (0, cx_fl n))] := hD
  refine cx_it (i := 1) (t0 := 4) hx hb hml hts hown hK hN hA rfl rfl rfl rfl rfl (by decide) hl hP hD hS (Nat.le_of_ble_eq_true rfl) (Nat.le_of_ble_eq_true rfl) ?_
  clear hP hD hS hl
  intro f1 ls H locs hl hP hD hS
  have hP : va_P (dC, dI) vwCl [(b, .inr (2, cx_FS (.ref n) (.ref pr) (.ref da) (.ref re) (.ref ct) (.ref st) .null)), (n, .inr (1, cx_nop)), (pr, .inl (cP, 64, .inr (.inr (.inr (.inr (fun _ => some n)))))), (da, .inl (cD, 32, .inl (fun _ => 0))), (re, .inl (cG, 16, .inl (fun _ => 0))), (ct, .inl (cC, 8, .inl (cx_h 8))), (st, .inl (cS, 5, .inr (.inr (.inr (.inr (va_up (va_up (fun _ => none) 0 (some f0)) 1 (some f1))))))), (f0, .inr (0, cx_fl n)), (f1, .inr (0, cx_fl n))] H := hP
  have hD : va_D A [(b, .inr (2, cx_FS (.ref n) (.ref pr) (.ref da) (.ref re) (.ref ct) (.ref st) .null)), (n, .inr (1, cx_nop)), (pr, .inl (cP, 64, .inr (.inr (.inr (.inr (fun _ => some n)))))), (da, .inl (cD, 32, .inl (fun _ => 0))), (re, .inl (cG, 16, .inl (fun _ => 0))), (ct, .inl (cC, 8, .inl (cx_h 8))), (st, .inl (cS, 5, .inr (.inr (.inr (.inr (va_up (va_up (fun _ => none) 0 (some f0)) 1 (some f1))))))), (f0, .inr (0, cx_fl n)), (f1, .inr (0, cx_fl n))] := hD
  refine cx_it (i := 2) (t0 := 4) hx hb hml hts hown hK hN hA rfl rfl rfl rfl rfl (by decide) hl hP hD hS (Nat.le_of_ble_eq_true rfl) (Nat.le_of_ble_eq_true rfl) ?_
  clear hP hD hS hl
  intro f2 ls H locs hl hP hD hS
  have hP : va_P (dC, dI) vwCl [(b, .inr (2, cx_FS (.ref n) (.ref pr) (.ref da) (.ref re) (.ref ct) (.ref st) .null)), (n, .inr (1, cx_nop)), (pr, .inl (cP, 64, .inr (.inr (.inr (.inr (fun _ => some n)))))), (da, .inl (cD, 32, .inl (fun _ => 0))), (re, .inl (cG, 16, .inl (fun _ => 0))), (ct, .inl (cC, 8, .inl (cx_h 8))), (st, .inl (cS, 5, .inr (.inr (.inr (.inr (va_up (va_up (va_up (fun _ => none) 0 (some f0)) 1 (some f1)) 2 (some f2))))))), (f0, .inr (0, cx_fl n)), (f1, .inr (0, cx_fl n)), (f2, .inr (0, cx_fl n))] H := hP
  have hD : va_D A [(b, .inr (2, cx_FS (.ref n) (.ref pr) (.ref da) (.ref re) (.ref ct) (.ref st) .null)), (n, .inr (1, cx_nop)), (pr, .inl (cP, 64, .inr (.inr (.inr (.inr (fun _ => some n)))))), (da, .inl (cD, 32, .inl (fun _ => 0))), (re, .inl (cG, 16, .inl (fun _ => 0))), (ct, .inl (cC, 8, .inl (cx_h 8))), (st, .inl (cS, 5, .inr (.inr (.inr (.inr (va_up (va_up (va_up (fun _ => none) 0 (some f0)) 1 (some f1)) 2 (some f2))))))), (f0, .inr (0, cx_fl n)), (f1, .inr (0, cx_fl n)), (f2, .inr (0, cx_fl n))] := hD
  refine cx_it (i := 3) (t0 := 4) hx hb hml hts hown hK hN hA rfl rfl rfl rfl rfl (by decide) hl hP hD hS (Nat.le_of_ble_eq_true rfl) (Nat.le_of_ble_eq_true rfl) ?_
  clear hP hD hS hl
  intro f3 ls H locs hl hP hD hS
  have hP : va_P (dC, dI) vwCl [(b, .inr (2, cx_FS (.ref n) (.ref pr) (.ref da) (.ref re) (.ref ct) (.ref st) .null)), (n, .inr (1, cx_nop)), (pr, .inl (cP, 64, .inr (.inr (.inr (.inr (fun _ => some n)))))), (da, .inl (cD, 32, .inl (fun _ => 0))), (re, .inl (cG, 16, .inl (fun _ => 0))), (ct, .inl (cC, 8, .inl (cx_h 8))), (st, .inl (cS, 5, .inr (.inr (.inr (.inr (va_up (va_up (va_up (va_up (fun _ => none) 0 (some f0)) 1 (some f1)) 2 (some f2)) 3 (some f3))))))), (f0, .inr (0, cx_fl n)), (f1, .inr (0, cx_fl n)), (f2, .inr (0, cx_fl n)), (f3, .inr (0, cx_fl n))] H := hP
  have hD : va_D A [(b, .inr (2, cx_FS (.ref n) (.ref pr) (.ref da) (.ref re) (.ref ct) (.ref st) .null)), (n, .inr (1, cx_nop)), (pr, .inl (cP, 64, .inr (.inr (.inr (.inr (fun _ => some n)))))), (da, .inl (cD, 32, .inl (fun _ => 0))), (re, .inl (cG, 16, .inl (fun _ => 0))), (ct, .inl (cC, 8, .inl (cx_h 8))), (st, .inl (cS, 5, .inr (.inr (.inr (.inr (va_up (va_up (va_up (va_up (fun _ => none) 0 (some f0)) 1 (some f1)) 2 (some f2)) 3 (some f3))))))), (f0, .inr (0, cx_fl n)), (f1, .inr (0, cx_fl n)), (f2, .inr (0, cx_fl n)), (f3, .inr (0, cx_fl n))] := hD
  refine cx_it (i := 4) (t0 := 4) hx hb hml hts hown hK hN hA rfl rfl rfl rfl rfl (by decide) hl hP hD hS (Nat.le_of_ble_eq_true rfl) (Nat.le_of_ble_eq_true rfl) ?_
  clear hP hD hS hl
  intro f4 ls H locs hl hP hD hS
  have hP : va_P (dC, dI) vwCl [(b, .inr (2, cx_FS (.ref n) (.ref pr) (.ref da) (.ref re) (.ref ct) (.ref st) .null)), (n, .inr (1, cx_nop)), (pr, .inl (cP, 64, .inr (.inr (.inr (.inr (fun _ => some n)))))), (da, .inl (cD, 32, .inl (fun _ => 0))), (re, .inl (cG, 16, .inl (fun _ => 0))), (ct, .inl (cC, 8, .inl (cx_h 8))), (st, .inl (cS, 5, .inr (.inr (.inr (.inr (va_up (va_up (va_up (va_up (va_up (fun _ => none) 0 (some f0)) 1 (some f1)) 2 (some f2)) 3 (some f3)) 4 (some f4))))))), (f0, .inr (0, cx_fl n)), (f1, .inr (0, cx_fl n)), (f2, .inr (0, cx_fl n)), (f3, .inr (0, cx_fl n)), (f4, .inr (0, cx_fl n))] H := hP
  have hD : va_D A [(b, .inr (2, cx_FS (.ref n) (.ref pr) (.ref da) (.ref re) (.ref ct) (.ref st) .null)), (n, .inr (1, cx_nop)), (pr, .inl (cP, 64, .inr (.inr (.inr (.inr (fun _ => some n)))))), (da, .inl (cD, 32, .inl (fun _ => 0))), (re, .inl (cG, 16, .inl (fun _ => 0))), (ct, .inl (cC, 8, .inl (cx_h 8))), (st, .inl (cS, 5, .inr (.inr (.inr (.inr (va_up (va_up (va_up (va_up (va_up (fun _ => none) 0 (some f0)) 1 (some f1)) 2 (some f2)) 3 (some f3)) 4 (some f4))))))), (f0, .inr (0, cx_fl n)), (f1, .inr (0, cx_fl n)), (f2, .inr (0, cx_fl n)), (f3, .inr (0, cx_fl n)), (f4, .inr (0, cx_fl n))] := hD
  refine lv_iload_n hx hb dX2_init_109 rfl (lv_at hl 0 rfl) ?_
  refine lv_iconst (v := 5) hx hb dX2_init_110 (by decide) ?_
  refine lv_icmp_ge (tgt := 137) hx hb dX2_init_111 (by decide) (fun _ => ?_) (fun z => absurd (by decide) z)
  have hl : lv_has ls 2 [(0, .ref b)] := lv_sub hl [1] rfl
  refine lv_aload_n hx hb dX2_init_137 rfl (lv_at hl 0 rfl) ?_
  refine lv_bipush (v := 16) hx hb dX2_init_138 (by decide) ?_
  refine cx_step (pc3 := 140) (k := 6) (N := 16) (idx := 41) hx hb hts hown hin hA hK hP hD hS (by decide) rfl (by decide) (Nat.le_of_ble_eq_true rfl) (Nat.le_of_ble_eq_true rfl) (by decide) rfl (Nat.le_of_ble_eq_true rfl) ck_41 rfl (by decide +kernel) dX2_init_140 dX2_init_142 (fun la cL H locs hK hP hD hS => ?_)
  have hP : va_P (dC, dI) vwCl [(b, .inr (2, cx_FS (.ref n) (.ref pr) (.ref da) (.ref re) (.ref ct) (.ref st) (.ref la))), (n, .inr (1, cx_nop)), (pr, .inl (cP, 64, .inr (.inr (.inr (.inr (fun _ => some n)))))), (da, .inl (cD, 32, .inl (fun _ => 0))), (re, .inl (cG, 16, .inl (fun _ => 0))), (ct, .inl (cC, 8, .inl (cx_h 8))), (st, .inl (cS, 5, .inr (.inr (.inr (.inr (va_up (va_up (va_up (va_up (va_up (fun _ => none) 0 (some f0)) 1 (some f1)) 2 (some f2)) 3 (some f3)) 4 (some f4))))))), (f0, .inr (0, cx_fl n)), (f1, .inr (0, cx_fl n)), (f2, .inr (0, cx_fl n)), (f3, .inr (0, cx_fl n)), (f4, .inr (0, cx_fl n)), (la, .inl (cL, 16, .inl (fun _ => 0)))] H := hP
  have hD : va_D A [(b, .inr (2, cx_FS (.ref n) (.ref pr) (.ref da) (.ref re) (.ref ct) (.ref st) (.ref la))), (n, .inr (1, cx_nop)), (pr, .inl (cP, 64, .inr (.inr (.inr (.inr (fun _ => some n)))))), (da, .inl (cD, 32, .inl (fun _ => 0))), (re, .inl (cG, 16, .inl (fun _ => 0))), (ct, .inl (cC, 8, .inl (cx_h 8))), (st, .inl (cS, 5, .inr (.inr (.inr (.inr (va_up (va_up (va_up (va_up (va_up (fun _ => none) 0 (some f0)) 1 (some f1)) 2 (some f2)) 3 (some f3)) 4 (some f4))))))), (f0, .inr (0, cx_fl n)), (f1, .inr (0, cx_fl n)), (f2, .inr (0, cx_fl n)), (f3, .inr (0, cx_fl n)), (f4, .inr (0, cx_fl n)), (la, .inl (cL, 16, .inl (fun _ => 0)))] := hD
  have hK : va_K (dC, dI) vwCl [(cP, .object RX1), (cD, .int), (cG, .int), (cC, .int), (cS, .object RX0), (cL, .int)] s := hK
  have hP := cx_Pset (g := fun i => some (([b, n, pr, da, re, ct, st, f0, f1, f2, f3, f4, la] : List Nat).getD (i + 7) 0)) hP (k := 6) rfl (fun j hj => by
    rcases (show j = 0 ∨ j = 1 ∨ j = 2 ∨ j = 3 ∨ j = 4 by omega) with rfl | rfl | rfl | rfl | rfl <;> rfl)
  have hP : va_P (dC, dI) vwCl (cx_w (fun j => ([b, n, pr, da, re, ct, st, f0, f1, f2, f3, f4, la] : List Nat).getD j 0) (fun j => ([cP, cD, cG, cC, cS, cL] : List ClassId).getD j cP)) H := hP
  have hD : va_D A (cx_w (fun j => ([b, n, pr, da, re, ct, st, f0, f1, f2, f3, f4, la] : List Nat).getD j 0) (fun j => ([cP, cD, cG, cC, cS, cL] : List ClassId).getD j cP)) := va_D_fst (by rfl) hD
  have hK : va_K (dC, dI) vwCl (cx_t (fun j => ([cP, cD, cG, cC, cS, cL] : List ClassId).getD j cP)) s := hK
  refine W.widen (k := 12) (n := 200) (by decide) (by decide) ?_
  exact W.vret hx hb hr (fun t ht hW => ⟨⟨(), rfl, trivial, _, _, rfl, va_K.moved hW.alike hK, by rw [ht]; exact hP, hD⟩, hS.F ht⟩) hS.2.2 dX2_init_145
