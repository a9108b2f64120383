set_option maxRecDepth 100000 in
theorem nk_7 : Cond.fieldLink RX3 7 RX3 "operations" "[I" ∈ sc_G := sc_inG 443 (by decide +kernel) (by decide +kernel)
set_option maxRecDepth 100000 in
theorem nk_13 : Cond.fieldLink RX3 13 RX3 "ds" "[I" ∈ sc_G := sc_inG 444 (by decide +kernel) (by decide +kernel)
set_option maxRecDepth 100000 in
theorem nk_16 : Cond.fieldLink RX3 16 RX3 "ss" "[I" ∈ sc_G := sc_inG 445 (by decide +kernel) (by decide +kernel)
set_option maxRecDepth 100000 in
theorem nk_19 : Cond.fieldLink RX3 19 RX3 "ts" "[I" ∈ sc_G := sc_inG 446 (by decide +kernel) (by decide +kernel)
set_option maxRecDepth 100000 in
theorem nk_22 : Cond.fieldLink RX3 22 RX3 "ns" "[I" ∈ sc_G := sc_inG 447 (by decide +kernel) (by decide +kernel)
set_option maxRecDepth 100000 in
theorem nk_25 : Cond.fieldLink RX3 25 RX3 "data" "[I" ∈ sc_G := sc_inG 448 (by decide +kernel) (by decide +kernel)
set_option maxRecDepth 100000 in
theorem nk_28 : Cond.fieldLink RX3 28 RX3 "registers" "[I" ∈ sc_G := sc_inG 449 (by decide +kernel) (by decide +kernel)
set_option maxRecDepth 100000 in
theorem nk_31 : Cond.fieldLink RX3 31 RX3 "counters" "[I" ∈ sc_G := sc_inG 450 (by decide +kernel) (by decide +kernel)
set_option maxRecDepth 100000 in
theorem nk_34 : Cond.fieldLink RX3 34 RX3 "there" "[Z" ∈ sc_G := sc_inG 451 (by decide +kernel) (by decide +kernel)
set_option maxRecDepth 100000 in
theorem nk_38 : Cond.fieldLink RX3 38 RX3 "place" "[I" ∈ sc_G := sc_inG 452 (by decide +kernel) (by decide +kernel)
set_option maxRecDepth 100000 in
theorem nk_41 : Cond.fieldLink RX3 41 RX3 "op" "[I" ∈ sc_G := sc_inG 453 (by decide +kernel) (by decide +kernel)
set_option maxRecDepth 100000 in
theorem nk_44 : Cond.fieldLink RX3 44 RX3 "d" "[I" ∈ sc_G := sc_inG 454 (by decide +kernel) (by decide +kernel)
set_option maxRecDepth 100000 in
theorem nk_47 : Cond.fieldLink RX3 47 RX3 "s" "[I" ∈ sc_G := sc_inG 455 (by decide +kernel) (by decide +kernel)
set_option maxRecDepth 100000 in
theorem nk_50 : Cond.fieldLink RX3 50 RX3 "t" "[I" ∈ sc_G := sc_inG 456 (by decide +kernel) (by decide +kernel)
set_option maxRecDepth 100000 in
theorem nk_53 : Cond.fieldLink RX3 53 RX3 "n" "[I" ∈ sc_G := sc_inG 457 (by decide +kernel) (by decide +kernel)
set_option maxRecDepth 100000 in
theorem nk_56 : Cond.fieldLink RX3 56 RX3 "guess" "[I" ∈ sc_G := sc_inG 458 (by decide +kernel) (by decide +kernel)
set_option maxRecDepth 100000 in
theorem nk_59 : Cond.fieldLink RX3 59 RX3 "value" "[I" ∈ sc_G := sc_inG 459 (by decide +kernel) (by decide +kernel)
set_option maxRecDepth 100000 in
theorem nk_62 : Cond.fieldLink RX3 62 RX3 "address" "[I" ∈ sc_G := sc_inG 460 (by decide +kernel) (by decide +kernel)
set_option maxRecDepth 100000 in
theorem nk_65 : Cond.fieldLink RX3 65 RX3 "fault" "[I" ∈ sc_G := sc_inG 461 (by decide +kernel) (by decide +kernel)
set_option maxRecDepth 100000 in
theorem nk_68 : Cond.fieldLink RX3 68 RX3 "last" "[I" ∈ sc_G := sc_inG 474 (by decide +kernel) (by decide +kernel)
set_option maxRecDepth 100000 in
theorem nk_ai : Cond.arrayClass .int ∈ sc_G := sc_inG 84 (by decide +kernel) (by decide +kernel)
set_option maxRecDepth 100000 in
theorem nk_az : Cond.arrayClass .boolean ∈ sc_G := sc_inG 542 (by decide +kernel) (by decide +kernel)
theorem sc_tab_push {α : Type} {n : Nat} {f : Nat → α} (x : α) : sc_tab n f ++ [x] = sc_tab (n + 1) (va_up f n x) := by
  unfold sc_tab
  rw [List.range_succ, List.map_append]
  congr 1
  · exact List.map_congr_left (fun k hk => (va_up_ne _ _ (Nat.ne_of_lt (List.mem_range.mp hk))).symm)
  · show [x] = [va_up f n x n]
    rw [va_up_self]
def mx_N (i : Nat) : Nat := [64, 64, 64, 64, 64, 32, 16, 8, 5, 5, 5, 5, 5, 5, 5, 5, 5, 5, 5, 16].getD i 0
def mx_T (i : Nat) : FieldType := match i with
  | 8 => .boolean
  | _ => .int
def mx_K (i : Nat) : Nat := match i with
  | 19 => 32
  | n => n + 1
def mx_S (s : Nat) : Option Nat := match s with
  | 0 => none
  | 32 => some 19
  | n + 1 => bif Nat.blt n 19 then some n else none
def mx_F (n : Nat) (ad : Nat → Nat) (s : Nat) : Value := match mx_S s with
  | none => .int 0
  | some i => bif Nat.blt i n then .ref (ad (i + 1)) else .null
theorem mx_S_K : ∀ n, n < 20 → mx_S (mx_K n) = some n := by decide
theorem mx_S_i : ∀ s, s < 33 → ∀ i, i < 20 → mx_S s = some i → mx_K i = s := by decide
theorem mx_F_next {n : Nat} {ad : Nat → Nat} {q s : Nat} (hn : n < 20) (hs : s < 33) : va_up (mx_F n ad) (mx_K n) (.ref q) s = mx_F (n + 1) (va_up ad (n + 1) q) s := by
  by_cases e : s = mx_K n
  · subst e
    rw [va_up_self]
    unfold mx_F
    rw [mx_S_K n hn]
    show _ = (bif Nat.blt n (n + 1) then Value.ref (va_up ad (n + 1) q (n + 1)) else .null)
    rw [show Nat.blt n (n + 1) = true from Nat.ble_eq_true_of_le (Nat.le_refl _), va_up_self]
    rfl
  · rw [va_up_ne _ _ e]
    unfold mx_F
    cases h : mx_S s with
    | none => rfl
    | some i =>
      have hi : i ≠ n := fun z => by
        subst z
        exact e (mx_S_i s hs i hn h).symm
      show (bif Nat.blt i n then Value.ref (ad (i + 1)) else .null) = (bif Nat.blt i (n + 1) then Value.ref (va_up ad (n + 1) q (i + 1)) else .null)
      rw [va_up_ne _ _ (by omega)]
      by_cases hl : i < n
      · rw [show Nat.blt i n = true from Nat.ble_eq_true_of_le hl, show Nat.blt i (n + 1) = true from Nat.ble_eq_true_of_le (by omega)]
      · have h1 : Nat.blt i n = false := by
          cases hb : Nat.blt i n
          · rfl
          · exact absurd (Nat.le_of_ble_eq_true hb) hl
        have h2 : Nat.blt i (n + 1) = false := by
          cases hb : Nat.blt i (n + 1)
          · rfl
          · have := Nat.le_of_ble_eq_true hb
            omega
        rw [h1, h2]
def mx_E (ad : Nat → Nat) (cA : Nat → ClassId) (n : Nat) (r : Nat → Nat → Int32) (j : Nat) : va_E := match j with
  | 0 => .inr (3, sc_tab 33 (mx_F n ad))
  | i + 1 => .inl (cA i, mx_N i, .inl (r i))
def mx_w (n : Nat) (ad : Nat → Nat) (cA : Nat → ClassId) (r : Nat → Nat → Int32) : va_W := sc_tab (n + 1) (fun j => (ad j, mx_E ad cA n r j))
def mx_t (n : Nat) (cA : Nat → ClassId) : List (ClassId × FieldType) := sc_tab n (fun i => (cA i, mx_T i))
theorem mx_t_next {n : Nat} {cA : Nat → ClassId} {c : ClassId} {ty : FieldType} (hty : mx_T n = ty) : mx_t n cA ++ [(c, ty)] = mx_t (n + 1) (va_up cA n c) := by
  unfold mx_t
  rw [sc_tab_push]
  refine sc_tab_congr (fun k _ => ?_)
  by_cases e : k = n
  · subst e
    rw [va_up_self, va_up_self, hty]
  · rw [va_up_ne _ _ e, va_up_ne _ _ e]
theorem mx_w_next {n : Nat} {ad : Nat → Nat} {cA : Nat → ClassId} {r : Nat → Nat → Int32} {q : Nat} {c : ClassId} (hn : n < 20) : (mx_w n ad cA r ++ [(q, (Sum.inl (c, mx_N n, .inl (r n)) : va_E))]).set 0 (ad 0, .inr (3, (sc_tab 33 (mx_F n ad)).set (mx_K n) (.ref q))) = mx_w (n + 1) (va_up ad (n + 1) q) (va_up cA n c) r := by
  unfold mx_w
  rw [sc_tab_push, sc_tab_set]
  refine sc_tab_congr (fun j hj => ?_)
  by_cases h0 : j = 0
  · subst h0
    rw [va_up_self]
    show _ = (va_up ad (n + 1) q 0, (Sum.inr (3, sc_tab 33 (mx_F (n + 1) (va_up ad (n + 1) q))) : va_E))
    rw [va_up_ne _ _ (by omega), sc_tab_set, sc_tab_congr (fun s hs => mx_F_next hn hs)]
  · rw [va_up_ne _ _ h0]
    by_cases h1 : j = n + 1
    · subst h1
      rw [va_up_self]
      show _ = (va_up ad (n + 1) q (n + 1), (Sum.inl (va_up cA n c n, mx_N n, .inl (r n)) : va_E))
      rw [va_up_self, va_up_self]
    · rw [va_up_ne _ _ h1]
      obtain ⟨i, rfl⟩ : ∃ i, j = i + 1 := ⟨j - 1, by omega⟩
      show (ad (i + 1), (Sum.inl (cA i, mx_N i, .inl (r i)) : va_E)) = (va_up ad (n + 1) q (i + 1), (Sum.inl (va_up cA n c i, mx_N i, .inl (r i)) : va_E))
      rw [va_up_ne _ _ h1, va_up_ne _ _ (show i ≠ n by omega)]
def mx_I (dC : Nat → ClassId) (dI : Nat → Nat → Nat) (s : State) (A : Nat → Prop) (b n : Nat) (ad : Nat → Nat) (cA : Nat → ClassId) (r : Nat → Nat → Int32) (H : Heap) (locs : List Loc) : Prop := ad 0 = b ∧ va_K (dC, dI) vwCl (mx_t n cA) s ∧ va_P (dC, dI) vwCl (mx_w n ad cA r) H ∧ va_D A (mx_w n ad cA r) ∧ va_S A s.heap H locs
def mx_0 : Nat → Nat → Int32 := fun _ _ => 0
theorem mx_ai {n N : Nat} (h : mx_N n = N) (cA : ClassId) : vp_cell cA (mx_N n, .inl (mx_0 n)) = arrV cA N (fun _ => defaultValue .int) := by rw [h]; rfl
theorem mx_az {n N : Nat} (h : mx_N n = N) (cA : ClassId) : vp_cell cA (mx_N n, .inl (mx_0 n)) = arrV cA N (fun _ => defaultValue .boolean) := by rw [h]; rfl
theorem mx_step {p : Program} {l : Launch} {e : Env} {R : Room} {s : State} {m : MethodId} {args : Array Value} {below : List Frame} {meth : Method} {c : Code} {H : Heap} {locs : List Loc} {Q : State → Prop} {ls : Array Slot} {dC : Nat → ClassId} {dI : Nat → Nat → Nat} {A : Nat → Prop} {b pc3 idx n N : Nat} {v : Int32} {atype : ArrayType} {ty ty2 : FieldType} {ad : Nat → Nat} {cA : Nat → ClassId}
    (hx : p.tables.exec = Jvm.exec) (hb : c.code = cX3_init) (hts : ∀ w ∈ sc_ws yX3_init cX3_init 2 none, w.before args s = true) (hown : s.vm.findClass RX3 = some m.cls) (hin : meth.name = "<init>") (hA : ∀ q, s.heap.size ≤ q → A q) (hR1 : 20 ≤ R.cells) (hR2 : 1280 ≤ R.slots) (h : mx_I dC dI s A b n ad cA mx_0 H locs)
    (hn : n < 20) (hty : newarray.typeOf atype = ty) (hw : Cond.arrayClass ty ∈ sc_G) (hT : mx_T n = ty) (ha : ∀ cA : ClassId, vp_cell cA (mx_N n, .inl (mx_0 n)) = arrV cA N (fun _ => defaultValue ty)) (hv : ¬ v < 0) (hN : v.toNatClampNeg = N) (hbytes : N * componentBytes ty ≤ 536870912) (hN64 : N ≤ 64)
    (hlink : Cond.fieldLink RX3 idx RX3 (TX3 (mx_K n)).2.1 (TX3 (mx_K n)).2.2.1 ∈ sc_G) (hk : mx_K n < 33) (hfk : (TX3 (mx_K n)).2.2.2 = true) (hdecl : (TX3 (mx_K n)).1 = RX3) (hd : parseFieldDescriptor (TX3 (mx_K n)).2.2.1 = some ty2) (hnar : ∀ q : Nat, narrow ty2 (.ref q) = .ref q) (hfit : ∀ q : Nat, fits ty2 (.ref q) = true)
    (d1 : decode cX3_init pc3 = .ok (.newarray atype, 2)) (d2 : decode cX3_init (pc3 + 2) = .ok (.putfield idx, 3))
    (kk : ∀ (ad : Nat → Nat) (cA : Nat → ClassId) (H1 : Heap) (locs1 : List Loc), mx_I dC dI s A b (n + 1) ad cA mx_0 H1 locs1 → W p l e R s m args below meth c H1 locs1 (n + 1) (64 * (n + 1)) Q (F0 m (pc3 + 2 + 3) ls [])) :
    W p l e R s m args below meth c H locs n (64 * n) Q (F0 m pc3 ls [.int v, .ref b]) := by
  obtain ⟨h0, hK, hP, hD, hS⟩ := h
  subst h0
  refine va_newa hx hb (by rw [hty]; exact hts _ (List.mem_cons_of_mem _ hw)) hty hK hP hD hS hA ha hv hN hbytes (by omega) (by omega) d1 (fun q cA1 H1 hK1 hP1 hD1 hS1 => ?_)
  refine va_putF (D := (dC, dI)) (ci := 3) (v := .ref q) (ty := ty2) (C := RX3) (T := TX3) (N := 33) hx hb hts (sc_in (k1 := 3) (by decide)) tyX3 tyX3_ok nmX3 hown hK1 hP1 hD1 hS1 0 (fs := sc_tab 33 (mx_F n ad)) ?_ rfl (mx_K n) hk (hts _ (List.mem_cons_of_mem _ hlink)) (fun _ h9 => by rw [hdecl] at h9; exact h9) hfk hin hdecl hd (hnar q) (hfit q) (by rw [sc_tab_len]; exact hk) d2 (fun H2 locs2 hP2 hD2 hS2 => ?_)
  · rw [List.getElem?_append_left (by unfold mx_w; rw [sc_tab_len]; omega)]
    exact sc_tab_get (Nat.succ_pos n)
  rw [mx_w_next hn] at hP2 hD2
  rw [mx_t_next hT] at hK1
  refine W.widen (k := n + 1) (n := 64 * (n + 1)) (by omega) (by omega) ?_
  exact kk _ _ H2 locs2 ⟨va_up_ne _ _ (by omega), hK1, hP2, hD2, hS2⟩
set_option maxRecDepth 100000 in
set_option maxHeartbeats 4000000 in
theorem mx_rows {p : Program} {l : Launch} {e : Env} {R : Room} {s : State} {m : MethodId} {args : Array Value} {below : List Frame} {meth : Method} {c : Code} {H : Heap} {locs : List Loc} {Q : State → Prop} {ls : Array Slot} {dC : Nat → ClassId} {dI : Nat → Nat → Nat} {A : Nat → Prop} {b : Nat} {ad : Nat → Nat} {cA : Nat → ClassId}
    (hx : p.tables.exec = Jvm.exec) (hb : c.code = cX3_init) (hts : ∀ w ∈ sc_ws yX3_init cX3_init 2 none, w.before args s = true) (hown : s.vm.findClass RX3 = some m.cls) (hin : meth.name = "<init>") (hl : lv_has ls 2 [(0, .ref b)]) (hA : ∀ q, s.heap.size ≤ q → A q) (hR1 : 20 ≤ R.cells) (hR2 : 1280 ≤ R.slots) (h : mx_I dC dI s A b 0 ad cA mx_0 H locs)
    (kk : ∀ (ad : Nat → Nat) (cA : Nat → ClassId) (H1 : Heap) (locs1 : List Loc), mx_I dC dI s A b 20 ad cA mx_0 H1 locs1 → W p l e R s m args below meth c H1 locs1 20 1280 Q (F0 m 153 ls [])) :
    W p l e R s m args below meth c H locs 0 0 Q (F0 m 4 ls []) := by
  refine lv_aload_n hx hb dX3_init_4 rfl (lv_at hl 0 rfl) ?_
  refine lv_bipush (v := 64) hx hb dX3_init_5 (by decide) ?_
  refine mx_step (n := 0) (N := 64) (pc3 := 7) (v := 64) (idx := 7) (atype := .int) (ty := .int) (ty2 := .array .int) hx hb hts hown hin hA hR1 hR2 h (by decide) rfl nk_ai rfl (mx_ai rfl) (by decide) rfl (by decide) (by decide) nk_7 (by decide) rfl rfl (tyX3_ok 1 (by decide)) (fun _ => rfl) (fun _ => rfl) dX3_init_7 dX3_init_9 ?_
  clear h
  intro ad cA H locs h
  refine lv_aload_n hx hb dX3_init_12 rfl (lv_at hl 0 rfl) ?_
  refine lv_bipush (v := 64) hx hb dX3_init_13 (by decide) ?_
  refine mx_step (n := 1) (N := 64) (pc3 := 15) (v := 64) (idx := 13) (atype := .int) (ty := .int) (ty2 := .array .int) hx hb hts hown hin hA hR1 hR2 h (by decide) rfl nk_ai rfl (mx_ai rfl) (by decide) rfl (by decide) (by decide) nk_13 (by decide) rfl rfl (tyX3_ok 2 (by decide)) (fun _ => rfl) (fun _ => rfl) dX3_init_15 dX3_init_17 ?_
  clear h
  intro ad cA H locs h
  refine lv_aload_n hx hb dX3_init_20 rfl (lv_at hl 0 rfl) ?_
  refine lv_bipush (v := 64) hx hb dX3_init_21 (by decide) ?_
  refine mx_step (n := 2) (N := 64) (pc3 := 23) (v := 64) (idx := 16) (atype := .int) (ty := .int) (ty2 := .array .int) hx hb hts hown hin hA hR1 hR2 h (by decide) rfl nk_ai rfl (mx_ai rfl) (by decide) rfl (by decide) (by decide) nk_16 (by decide) rfl rfl (tyX3_ok 3 (by decide)) (fun _ => rfl) (fun _ => rfl) dX3_init_23 dX3_init_25 ?_
  clear h
  intro ad cA H locs h
  refine lv_aload_n hx hb dX3_init_28 rfl (lv_at hl 0 rfl) ?_
  refine lv_bipush (v := 64) hx hb dX3_init_29 (by decide) ?_
  refine mx_step (n := 3) (N := 64) (pc3 := 31) (v := 64) (idx := 19) (atype := .int) (ty := .int) (ty2 := .array .int) hx hb hts hown hin hA hR1 hR2 h (by decide) rfl nk_ai rfl (mx_ai rfl) (by decide) rfl (by decide) (by decide) nk_19 (by decide) rfl rfl (tyX3_ok 4 (by decide)) (fun _ => rfl) (fun _ => rfl) dX3_init_31 dX3_init_33 ?_
  clear h
  intro ad cA H locs h
  refine lv_aload_n hx hb dX3_init_36 rfl (lv_at hl 0 rfl) ?_
  refine lv_bipush (v := 64) hx hb dX3_init_37 (by decide) ?_
  refine mx_step (n := 4) (N := 64) (pc3 := 39) (v := 64) (idx := 22) (atype := .int) (ty := .int) (ty2 := .array .int) hx hb hts hown hin hA hR1 hR2 h (by decide) rfl nk_ai rfl (mx_ai rfl) (by decide) rfl (by decide) (by decide) nk_22 (by decide) rfl rfl (tyX3_ok 5 (by decide)) (fun _ => rfl) (fun _ => rfl) dX3_init_39 dX3_init_41 ?_
  clear h
  intro ad cA H locs h
  refine lv_aload_n hx hb dX3_init_44 rfl (lv_at hl 0 rfl) ?_
  refine lv_bipush (v := 32) hx hb dX3_init_45 (by decide) ?_
  refine mx_step (n := 5) (N := 32) (pc3 := 47) (v := 32) (idx := 25) (atype := .int) (ty := .int) (ty2 := .array .int) hx hb hts hown hin hA hR1 hR2 h (by decide) rfl nk_ai rfl (mx_ai rfl) (by decide) rfl (by decide) (by decide) nk_25 (by decide) rfl rfl (tyX3_ok 6 (by decide)) (fun _ => rfl) (fun _ => rfl) dX3_init_47 dX3_init_49 ?_
  clear h
  intro ad cA H locs h
  refine lv_aload_n hx hb dX3_init_52 rfl (lv_at hl 0 rfl) ?_
  refine lv_bipush (v := 16) hx hb dX3_init_53 (by decide) ?_
  refine mx_step (n := 6) (N := 16) (pc3 := 55) (v := 16) (idx := 28) (atype := .int) (ty := .int) (ty2 := .array .int) hx hb hts hown hin hA hR1 hR2 h (by decide) rfl nk_ai rfl (mx_ai rfl) (by decide) rfl (by decide) (by decide) nk_28 (by decide) rfl rfl (tyX3_ok 7 (by decide)) (fun _ => rfl) (fun _ => rfl) dX3_init_55 dX3_init_57 ?_
  clear h
  intro ad cA H locs h
  refine lv_aload_n hx hb dX3_init_60 rfl (lv_at hl 0 rfl) ?_
  refine lv_bipush (v := 8) hx hb dX3_init_61 (by decide) ?_
  refine mx_step (n := 7) (N := 8) (pc3 := 63) (v := 8) (idx := 31) (atype := .int) (ty := .int) (ty2 := .array .int) hx hb hts hown hin hA hR1 hR2 h (by decide) rfl nk_ai rfl (mx_ai rfl) (by decide) rfl (by decide) (by decide) nk_31 (by decide) rfl rfl (tyX3_ok 8 (by decide)) (fun _ => rfl) (fun _ => rfl) dX3_init_63 dX3_init_65 ?_
  clear h
  intro ad cA H locs h
  refine lv_aload_n hx hb dX3_init_68 rfl (lv_at hl 0 rfl) ?_
  refine lv_iconst (v := 5) hx hb dX3_init_69 (by decide) ?_
  refine mx_step (n := 8) (N := 5) (pc3 := 70) (v := 5) (idx := 34) (atype := .boolean) (ty := .boolean) (ty2 := .array .boolean) hx hb hts hown hin hA hR1 hR2 h (by decide) rfl nk_az rfl (mx_az rfl) (by decide) rfl (by decide) (by decide) nk_34 (by decide) rfl rfl (tyX3_ok 9 (by decide)) (fun _ => rfl) (fun _ => rfl) dX3_init_70 dX3_init_72 ?_
  clear h
  intro ad cA H locs h
  refine lv_aload_n hx hb dX3_init_75 rfl (lv_at hl 0 rfl) ?_
  refine lv_iconst (v := 5) hx hb dX3_init_76 (by decide) ?_
  refine mx_step (n := 9) (N := 5) (pc3 := 77) (v := 5) (idx := 38) (atype := .int) (ty := .int) (ty2 := .array .int) hx hb hts hown hin hA hR1 hR2 h (by decide) rfl nk_ai rfl (mx_ai rfl) (by decide) rfl (by decide) (by decide) nk_38 (by decide) rfl rfl (tyX3_ok 10 (by decide)) (fun _ => rfl) (fun _ => rfl) dX3_init_77 dX3_init_79 ?_
  clear h
  intro ad cA H locs h
  refine lv_aload_n hx hb dX3_init_82 rfl (lv_at hl 0 rfl) ?_
  refine lv_iconst (v := 5) hx hb dX3_init_83 (by decide) ?_
  refine mx_step (n := 10) (N := 5) (pc3 := 84) (v := 5) (idx := 41) (atype := .int) (ty := .int) (ty2 := .array .int) hx hb hts hown hin hA hR1 hR2 h (by decide) rfl nk_ai rfl (mx_ai rfl) (by decide) rfl (by decide) (by decide) nk_41 (by decide) rfl rfl (tyX3_ok 11 (by decide)) (fun _ => rfl) (fun _ => rfl) dX3_init_84 dX3_init_86 ?_
  clear h
  intro ad cA H locs h
  refine lv_aload_n hx hb dX3_init_89 rfl (lv_at hl 0 rfl) ?_
  refine lv_iconst (v := 5) hx hb dX3_init_90 (by decide) ?_
  refine mx_step (n := 11) (N := 5) (pc3 := 91) (v := 5) (idx := 44) (atype := .int) (ty := .int) (ty2 := .array .int) hx hb hts hown hin hA hR1 hR2 h (by decide) rfl nk_ai rfl (mx_ai rfl) (by decide) rfl (by decide) (by decide) nk_44 (by decide) rfl rfl (tyX3_ok 12 (by decide)) (fun _ => rfl) (fun _ => rfl) dX3_init_91 dX3_init_93 ?_
  clear h
  intro ad cA H locs h
  refine lv_aload_n hx hb dX3_init_96 rfl (lv_at hl 0 rfl) ?_
  refine lv_iconst (v := 5) hx hb dX3_init_97 (by decide) ?_
  refine mx_step (n := 12) (N := 5) (pc3 := 98) (v := 5) (idx := 47) (atype := .int) (ty := .int) (ty2 := .array .int) hx hb hts hown hin hA hR1 hR2 h (by decide) rfl nk_ai rfl (mx_ai rfl) (by decide) rfl (by decide) (by decide) nk_47 (by decide) rfl rfl (tyX3_ok 13 (by decide)) (fun _ => rfl) (fun _ => rfl) dX3_init_98 dX3_init_100 ?_
  clear h
  intro ad cA H locs h
  refine lv_aload_n hx hb dX3_init_103 rfl (lv_at hl 0 rfl) ?_
  refine lv_iconst (v := 5) hx hb dX3_init_104 (by decide) ?_
  refine mx_step (n := 13) (N := 5) (pc3 := 105) (v := 5) (idx := 50) (atype := .int) (ty := .int) (ty2 := .array .int) hx hb hts hown hin hA hR1 hR2 h (by decide) rfl nk_ai rfl (mx_ai rfl) (by decide) rfl (by decide) (by decide) nk_50 (by decide) rfl rfl (tyX3_ok 14 (by decide)) (fun _ => rfl) (fun _ => rfl) dX3_init_105 dX3_init_107 ?_
  clear h
  intro ad cA H locs h
  refine lv_aload_n hx hb dX3_init_110 rfl (lv_at hl 0 rfl) ?_
  refine lv_iconst (v := 5) hx hb dX3_init_111 (by decide) ?_
  refine mx_step (n := 14) (N := 5) (pc3 := 112) (v := 5) (idx := 53) (atype := .int) (ty := .int) (ty2 := .array .int) hx hb hts hown hin hA hR1 hR2 h (by decide) rfl nk_ai rfl (mx_ai rfl) (by decide) rfl (by decide) (by decide) nk_53 (by decide) rfl rfl (tyX3_ok 15 (by decide)) (fun _ => rfl) (fun _ => rfl) dX3_init_112 dX3_init_114 ?_
  clear h
  intro ad cA H locs h
  refine lv_aload_n hx hb dX3_init_117 rfl (lv_at hl 0 rfl) ?_
  refine lv_iconst (v := 5) hx hb dX3_init_118 (by decide) ?_
  refine mx_step (n := 15) (N := 5) (pc3 := 119) (v := 5) (idx := 56) (atype := .int) (ty := .int) (ty2 := .array .int) hx hb hts hown hin hA hR1 hR2 h (by decide) rfl nk_ai rfl (mx_ai rfl) (by decide) rfl (by decide) (by decide) nk_56 (by decide) rfl rfl (tyX3_ok 16 (by decide)) (fun _ => rfl) (fun _ => rfl) dX3_init_119 dX3_init_121 ?_
  clear h
  intro ad cA H locs h
  refine lv_aload_n hx hb dX3_init_124 rfl (lv_at hl 0 rfl) ?_
  refine lv_iconst (v := 5) hx hb dX3_init_125 (by decide) ?_
  refine mx_step (n := 16) (N := 5) (pc3 := 126) (v := 5) (idx := 59) (atype := .int) (ty := .int) (ty2 := .array .int) hx hb hts hown hin hA hR1 hR2 h (by decide) rfl nk_ai rfl (mx_ai rfl) (by decide) rfl (by decide) (by decide) nk_59 (by decide) rfl rfl (tyX3_ok 17 (by decide)) (fun _ => rfl) (fun _ => rfl) dX3_init_126 dX3_init_128 ?_
  clear h
  intro ad cA H locs h
  refine lv_aload_n hx hb dX3_init_131 rfl (lv_at hl 0 rfl) ?_
  refine lv_iconst (v := 5) hx hb dX3_init_132 (by decide) ?_
  refine mx_step (n := 17) (N := 5) (pc3 := 133) (v := 5) (idx := 62) (atype := .int) (ty := .int) (ty2 := .array .int) hx hb hts hown hin hA hR1 hR2 h (by decide) rfl nk_ai rfl (mx_ai rfl) (by decide) rfl (by decide) (by decide) nk_62 (by decide) rfl rfl (tyX3_ok 18 (by decide)) (fun _ => rfl) (fun _ => rfl) dX3_init_133 dX3_init_135 ?_
  clear h
  intro ad cA H locs h
  refine lv_aload_n hx hb dX3_init_138 rfl (lv_at hl 0 rfl) ?_
  refine lv_iconst (v := 5) hx hb dX3_init_139 (by decide) ?_
  refine mx_step (n := 18) (N := 5) (pc3 := 140) (v := 5) (idx := 65) (atype := .int) (ty := .int) (ty2 := .array .int) hx hb hts hown hin hA hR1 hR2 h (by decide) rfl nk_ai rfl (mx_ai rfl) (by decide) rfl (by decide) (by decide) nk_65 (by decide) rfl rfl (tyX3_ok 19 (by decide)) (fun _ => rfl) (fun _ => rfl) dX3_init_140 dX3_init_142 ?_
  clear h
  intro ad cA H locs h
  refine lv_aload_n hx hb dX3_init_145 rfl (lv_at hl 0 rfl) ?_
  refine lv_bipush (v := 16) hx hb dX3_init_146 (by decide) ?_
  refine mx_step (n := 19) (N := 16) (pc3 := 148) (v := 16) (idx := 68) (atype := .int) (ty := .int) (ty2 := .array .int) hx hb hts hown hin hA hR1 hR2 h (by decide) rfl nk_ai rfl (mx_ai rfl) (by decide) rfl (by decide) (by decide) nk_68 (by decide) rfl rfl (tyX3_ok 32 (by decide)) (fun _ => rfl) (fun _ => rfl) dX3_init_148 dX3_init_150 ?_
  clear h
  intro ad cA H locs h
  exact kk ad cA H locs h
