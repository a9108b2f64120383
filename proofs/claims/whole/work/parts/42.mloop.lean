/-! StageChipModel.<init>: its two loops, and the contract -/
def mx_r (a b : Nat) : Nat → Nat → Int32 := fun i j => match i with
  | 0 => if j < a then 19 else 0
  | 7 => if j < b then 1 else 0
  | _ => 0
theorem mx_r0 : mx_r 0 0 = mx_0 := by
  funext i j
  unfold mx_r mx_0
  split <;> simp
theorem mx_ra {a b : Nat} : upd (mx_r a b 0) a 19 = mx_r (a + 1) b 0 := by
  funext j
  show upd (fun j => if j < a then (19 : Int32) else 0) a 19 j = if j < a + 1 then 19 else 0
  unfold upd
  by_cases e : j = a
  · subst e; simp
  · by_cases h : j < a
    · simp [e, h, show j < a + 1 by omega]
    · simp [e, h, show ¬ j < a + 1 by omega]
theorem mx_rb {a b : Nat} : upd (mx_r a b 7) b 1 = mx_r a (b + 1) 7 := by
  funext j
  show upd (fun j => if j < b then (1 : Int32) else 0) b 1 j = if j < b + 1 then 1 else 0
  unfold upd
  by_cases e : j = b
  · subst e; simp
  · by_cases h : j < b
    · simp [e, h, show j < b + 1 by omega]
    · simp [e, h, show ¬ j < b + 1 by omega]
theorem mx_w_set {n i : Nat} {ad : Nat → Nat} {cA : Nat → ClassId} {r r' : Nat → Nat → Int32} (hr : ∀ k, k ≠ i → r' k = r k) : (mx_w n ad cA r).set (i + 1) (ad (i + 1), .inl (cA i, mx_N i, .inl (r' i))) = mx_w n ad cA r' := by
  unfold mx_w
  rw [sc_tab_set]
  refine sc_tab_congr (fun j _ => ?_)
  by_cases e : j = i + 1
  · subst e
    rw [va_up_self]
    rfl
  · rw [va_up_ne _ _ e]
    match j, e with
    | 0, _ => rfl
    | k + 1, e =>
      show (ad (k + 1), (Sum.inl (cA k, mx_N k, .inl (r k)) : va_E)) = (ad (k + 1), (Sum.inl (cA k, mx_N k, .inl (r' k)) : va_E))
      rw [hr k (fun z => e (by rw [z]))]
theorem mx_w_row {n i : Nat} {ad : Nat → Nat} {cA : Nat → ClassId} {r : Nat → Nat → Int32} (h : i < n) : (mx_w n ad cA r)[i + 1]? = some (ad (i + 1), .inl (cA i, mx_N i, .inl (r i))) := by
  unfold mx_w
  rw [sc_tab_get (show i + 1 < n + 1 by omega)]
  rfl
theorem mx_w_obj {n : Nat} {ad : Nat → Nat} {cA : Nat → ClassId} {r : Nat → Nat → Int32} : (mx_w n ad cA r)[0]? = some (ad 0, .inr (3, sc_tab 33 (mx_F n ad))) := by
  unfold mx_w
  rw [sc_tab_get (Nat.succ_pos n)]
  rfl
section
variable {p : Program} {l : Launch} {e : Env} {R : Room} {s : State} {m : MethodId} {args : Array Value} {below : List Frame} {meth : Method} {c : Code} {Q : State → Prop} {dC : Nat → ClassId} {dI : Nat → Nat → Nat} {A : Nat → Prop} {b : Nat} {ad : Nat → Nat} {cA : Nat → ClassId} {cells slots : Nat}
set_option maxRecDepth 100000 in
set_option maxHeartbeats 4000000 in
theorem mx_loop1 (hx : p.tables.exec = Jvm.exec) (hb : c.code = cX3_init) (hts : ∀ w ∈ sc_ws yX3_init cX3_init 2 none, w.before args s = true) (hown : s.vm.findClass RX3 = some m.cls)
    (kk : ∀ (ls : Array Slot) (H : Heap) (locs : List Loc), lv_has ls 2 [(0, .ref b)] → mx_I dC dI s A b 20 ad cA (mx_r 64 0) H locs → W p l e R s m args below meth c H locs cells slots Q (F0 m 175 ls [])) :
    ∀ (k i : Nat), i + k = 64 → ∀ (ls : Array Slot) (H : Heap) (locs : List Loc), lv_has ls 2 [(1, .int (nI i)), (0, .ref b)] → mx_I dC dI s A b 20 ad cA (mx_r i 0) H locs → W p l e R s m args below meth c H locs cells slots Q (F0 m 155 ls []) := by
  intro k
  induction k with
  | zero =>
    intro i hi ls H locs hl h
    have e64 : i = 64 := by omega
    subst e64
    refine lv_iload_n hx hb dX3_init_155 rfl (lv_at hl 0 rfl) ?_
    refine lv_bipush hx hb dX3_init_156 rfl ?_
    refine lv_icmp_ge (tgt := 175) hx hb dX3_init_158 (by decide) (fun _ => ?_) (fun z => absurd (by decide) z)
    exact kk ls H locs (lv_sub hl [1] rfl) h
  | succ k ih =>
    intro i hi ls H locs hl h
    have hi64 : i < 64 := by omega
    refine lv_iload_n hx hb dX3_init_155 rfl (lv_at hl 0 rfl) ?_
    refine lv_bipush hx hb dX3_init_156 rfl ?_
    refine lv_icmp_ge (tgt := 175) hx hb dX3_init_158 (by decide) (fun z => absurd z (nI_ge hi64 (by decide))) (fun _ => ?_)
    obtain ⟨h0, hK, hP, hD, hS⟩ := h
    subst h0
    refine lv_aload_n hx hb dX3_init_161 rfl (lv_at hl 1 rfl) ?_
    refine va_get (D := (dC, dI)) (C := RX3) (T := TX3) (N := 33) hx hb hts (sc_in (k1 := 3) (by decide)) hown hK hP 0 mx_w_obj rfl 1 (by decide) (hts _ (List.mem_cons_of_mem _ nk_7)) (fun _ h9 => h9) (sc_tab_get (by decide)) dX3_init_162 ?_
    refine W.eq (g2 := F0 m 165 ls [.ref (ad 1)]) rfl ?_
    refine lv_iload_n hx hb dX3_init_165 rfl (lv_at hl 0 rfl) ?_
    refine lv_bipush hx hb dX3_init_166 rfl ?_
    refine va_iast hx hb hK hP hD hS 1 0 (mx_w_row (by decide)) (sc_tab_get (by decide)) (vp_in_nI hi64 (by decide)) dX3_init_168 (fun H1 locs1 hP1 hD1 hS1 => ?_)
    rw [nI_clamp (show i < 2 ^ 31 by omega)] at hP1 hD1
    have e1 : upd (mx_r i 0 0) i ((Int8.ofInt 19).toInt32) = mx_r (i + 1) 0 0 := mx_ra
    rw [e1, mx_w_set (i := 0) (r' := mx_r (i + 1) 0) (fun k hk => by
      funext j
      unfold mx_r
      split
      · exact absurd rfl hk
      · rfl
      · rfl)] at hP1 hD1
    refine lv_iinc (v := nI (i + 1)) (lv' := [(1, .int (nI (i + 1))), (0, .ref (ad 0))]) hx hb dX3_init_169 hl (k := 0) rfl (nI_1 i) (by decide) rfl (fun ls hl => ?_)
    refine lv_goto (tgt := 155) hx hb dX3_init_172 (by decide) ?_
    exact ih (i + 1) (by omega) ls H1 locs1 hl ⟨rfl, hK, hP1, hD1, hS1⟩
set_option maxRecDepth 100000 in
set_option maxHeartbeats 4000000 in
theorem mx_loop2 (hx : p.tables.exec = Jvm.exec) (hb : c.code = cX3_init) (hts : ∀ w ∈ sc_ws yX3_init cX3_init 2 none, w.before args s = true) (hown : s.vm.findClass RX3 = some m.cls)
    (kk : ∀ (ls : Array Slot) (H : Heap) (locs : List Loc), mx_I dC dI s A b 20 ad cA (mx_r 64 8) H locs → W p l e R s m args below meth c H locs cells slots Q (F0 m 196 ls [])) :
    ∀ (k i : Nat), i + k = 8 → ∀ (ls : Array Slot) (H : Heap) (locs : List Loc), lv_has ls 2 [(1, .int (nI i)), (0, .ref b)] → mx_I dC dI s A b 20 ad cA (mx_r 64 i) H locs → W p l e R s m args below meth c H locs cells slots Q (F0 m 177 ls []) := by
  intro k
  induction k with
  | zero =>
    intro i hi ls H locs hl h
    have e64 : i = 8 := by omega
    subst e64
    refine lv_iload_n hx hb dX3_init_177 rfl (lv_at hl 0 rfl) ?_
    refine lv_bipush hx hb dX3_init_178 rfl ?_
    refine lv_icmp_ge (tgt := 196) hx hb dX3_init_180 (by decide) (fun _ => ?_) (fun z => absurd (by decide) z)
    exact kk ls H locs h
  | succ k ih =>
    intro i hi ls H locs hl h
    have hi64 : i < 8 := by omega
    refine lv_iload_n hx hb dX3_init_177 rfl (lv_at hl 0 rfl) ?_
    refine lv_bipush hx hb dX3_init_178 rfl ?_
    refine lv_icmp_ge (tgt := 196) hx hb dX3_init_180 (by decide) (fun z => absurd z (nI_ge hi64 (by decide))) (fun _ => ?_)
    obtain ⟨h0, hK, hP, hD, hS⟩ := h
    subst h0
    refine lv_aload_n hx hb dX3_init_183 rfl (lv_at hl 1 rfl) ?_
    refine va_get (D := (dC, dI)) (C := RX3) (T := TX3) (N := 33) hx hb hts (sc_in (k1 := 3) (by decide)) hown hK hP 0 mx_w_obj rfl 8 (by decide) (hts _ (List.mem_cons_of_mem _ nk_31)) (fun _ h9 => h9) (sc_tab_get (by decide)) dX3_init_184 ?_
    refine W.eq (g2 := F0 m 187 ls [.ref (ad 8)]) rfl ?_
    refine lv_iload_n hx hb dX3_init_187 rfl (lv_at hl 0 rfl) ?_
    refine lv_iconst hx hb dX3_init_188 rfl ?_
    refine va_iast hx hb hK hP hD hS 8 7 (mx_w_row (by decide)) (sc_tab_get (by decide)) (vp_in_nI hi64 (by decide)) dX3_init_189 (fun H1 locs1 hP1 hD1 hS1 => ?_)
    rw [nI_clamp (show i < 2 ^ 31 by omega)] at hP1 hD1
    have e1 : upd (mx_r 64 i 7) i (Int32.ofInt 1) = mx_r 64 (i + 1) 7 := mx_rb
    rw [e1, mx_w_set (i := 7) (r' := mx_r 64 (i + 1)) (fun k hk => by
      funext j
      unfold mx_r
      split
      · rfl
      · exact absurd rfl hk
      · rfl)] at hP1 hD1
    refine lv_iinc (v := nI (i + 1)) (lv' := [(1, .int (nI (i + 1))), (0, .ref (ad 0))]) hx hb dX3_init_190 hl (k := 0) rfl (nI_1 i) (by decide) rfl (fun ls hl => ?_)
    refine lv_goto (tgt := 177) hx hb dX3_init_193 (by decide) ?_
    exact ih (i + 1) (by omega) ls H1 locs1 hl ⟨rfl, hK, hP1, hD1, hS1⟩
end
set_option maxRecDepth 100000 in
theorem nk_o1 : Cond.methodLink RX3 1 objectInit ∈ sc_G := sc_inG 441 (by decide +kernel) (by decide +kernel)
set_option maxRecDepth 100000 in
set_option maxHeartbeats 4000000 in
theorem mx_init (l : Launch) (dC : Nat → ClassId) (dI : Nat → Nat → Nat) (A : Nat → Prop) (b : Nat) (hAb : A b) : Met l yX3_init (sc_ws yX3_init cX3_init 2 none) ({ frames := 1, cells := 20, slots := 1280, locals := 30 }) (va_Pc [.ref b] (fun U => (va_K (dC, dI) vwCl [] U ∧ va_P (dC, dI) vwCl [(b, .inr (3, sc_tab 33 (mx_F 0 (fun _ => b))))] U.heap) ∧ ∀ q, U.heap.size ≤ q → A q)) (va_Qv (fun _ : Unit => True) (fun _ t => ∃ (ad : Nat → Nat) (cA : Nat → ClassId), ad 0 = b ∧ va_K (dC, dI) vwCl (mx_t 20 cA) t ∧ va_P (dC, dI) vwCl (mx_w 20 ad cA (mx_r 64 8)) t.heap ∧ va_D A (mx_w 20 ad cA (mx_r 64 8))) A) 20 1280 A := by
  refine Met.ofW (cc := cX3_init) (maxL := 2) (ret := none) (by decide) rfl ?_
  intro p e s m args below meth c s₁ B hml hv
  obtain ⟨rfl, ⟨hK, hP⟩, hA⟩ := hv
  have hx := B.exec
  have hb := B.bytes
  have hr := B.returns
  have hts := atoms_spec (ws := sc_ws yX3_init cX3_init 2 none) B.pre
  have hG : ∀ w ∈ sc_G, w.before _ s = true := fun w hw => hts w (List.mem_cons_of_mem _ hw)
  have hown : s.vm.findClass RX3 = some m.cls := findClass_of_methodNamed B.named
  have hlocks := B.notSynchronized
  have hin : meth.name = "<init>" := (name_of_methodNamed B.named B.method).1
  have hl := lv_entry ([.ref b]) (n := 2) (Nat.le_of_ble_eq_true rfl)
  rw [lg_entry_eq]
  generalize (lg_sl ([.ref b]) ++ List.replicate (2 - (lg_sl ([.ref b])).length) Slot.unset).toArray = ls at hl ⊢
  have hl : lv_has ls 2 [(0, .ref b)] := hl
  refine lv_aload_n hx hb dX3_init_0 rfl (lv_at hl 0 rfl) ?_
  refine W.objInit hx hb hown (hG _ nk_o1) (hG _ ix_o2) (hG _ (sc_inG 18 rfl rfl)) rfl (by rw [hml]; exact hl.1) rfl dX3_init_1 (Nat.le_of_ble_eq_true rfl) (Nat.le_of_ble_eq_true rfl) ?_
  refine W.eq (g2 := F0 m 4 ls []) rfl ?_
  refine mx_rows (ad := fun _ => b) (cA := fun _ => m.cls) hx hb hts hown hin hl hA (Nat.le_refl _) (Nat.le_refl _) ⟨rfl, hK, hP, (va_D_one (b := b)).weaken (fun _ _ _ z => by rw [z]; exact hAb), va_S.rf⟩ ?_
  intro ad cA H locs h
  rw [← mx_r0] at h
  refine lv_iconst hx hb dX3_init_153 rfl ?_
  refine lv_istore_n (lv' := [(1, .int (nI 0)), (0, .ref b)]) hx hb dX3_init_154 rfl hl (by decide) rfl (fun ls hl => ?_)
  refine mx_loop1 hx hb hts hown ?_ 64 0 rfl ls H locs hl h
  intro ls H locs hl h
  refine lv_iconst hx hb dX3_init_175 rfl ?_
  refine lv_istore_n (lv' := [(1, .int (nI 0)), (0, .ref b)]) hx hb dX3_init_176 rfl hl (by decide) rfl (fun ls hl => ?_)
  refine mx_loop2 hx hb hts hown ?_ 8 0 rfl ls H locs hl h
  intro ls H locs h
  obtain ⟨h0, hK, hP, hD, hS⟩ := h
  exact W.vret hx hb hr (fun t ht hW => ⟨⟨(), rfl, trivial, ad, cA, h0, va_K.moved hW.alike hK, by rw [ht]; exact hP, hD⟩, hS.F ht⟩) hS.2.2 dX3_init_196
