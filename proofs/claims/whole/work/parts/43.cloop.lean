/-! StageChip.<init> -/
theorem cx_arr {cA : ClassId} {n : Nat} {f g : Nat → Option Nat} (h : ∀ j, j < n → f j = g j) : vp_cell cA (n, .inr (.inr (.inr (.inr f)))) = vp_cell cA (n, .inr (.inr (.inr (.inr g)))) := by
  rw [vp_cell_q, vp_cell_q]
  unfold arrV
  congr 1
  exact congrArg Array.ofFn (funext fun j => by show va_rf (f j.val) = va_rf (g j.val); rw [h j.val j.isLt])
theorem cx_Pset {D : va_G} {cl : List vw_C} {ws : va_W} {H : Heap} {k a : Nat} {cA : ClassId} {n : Nat} {f g : Nat → Option Nat} (hP : va_P D cl ws H) (he : ws[k]? = some (a, .inl (cA, n, .inr (.inr (.inr (.inr f)))))) (h : ∀ j, j < n → f j = g j) : va_P D cl (ws.set k (a, .inl (cA, n, .inr (.inr (.inr (.inr g)))))) H := by
  intro j q hj
  by_cases e : k = j
  · subst e
    rw [List.getElem?_set_self (List.getElem?_eq_some_iff.mp he).1] at hj
    cases hj
    have h1 : H[a]? = some (vp_cell cA (n, .inr (.inr (.inr (.inr f))))) := hP k _ he
    show H[a]? = some (vp_cell cA _)
    rw [← cx_arr h]
    exact h1
  · rw [List.getElem?_set_ne e] at hj
    exact hP j q hj
def cx_g (n i : Nat) : Nat → Option Nat := fun j => if j < i then some n else none
theorem cx_g0 (n : Nat) : cx_g n 0 = fun _ => none := by
  funext j
  unfold cx_g
  simp
theorem cx_gs (n i : Nat) : va_up (cx_g n i) i (some n) = cx_g n (i + 1) := by
  funext j
  unfold va_up cx_g
  by_cases e : j = i
  · subst e; simp
  · by_cases h : j < i
    · simp [e, h, show j < i + 1 by omega]
    · simp [e, h, show ¬ j < i + 1 by omega]
def cx_h (i : Nat) : Nat → Int32 := fun j => if j < i then 1 else 0
theorem cx_h0 : cx_h 0 = fun _ => 0 := by
  funext j
  unfold cx_h
  simp
theorem cx_hs (i : Nat) : upd (cx_h i) i 1 = cx_h (i + 1) := by
  funext j
  unfold upd cx_h
  by_cases e : j = i
  · subst e; simp
  · by_cases h : j < i
    · simp [e, h, show j < i + 1 by omega]
    · simp [e, h, show ¬ j < i + 1 by omega]
def cx_FS (v0 v1 v2 v3 v4 v5 v6 : Value) : List Value := [v0, v1, v2, v3, v4, v5, v6, .int 0, .int 0, .int 0, .int 0, .int 0, .int 0, .int 0, .int 0, .int 0, .int 0]
def cx_nop : List Value := [.int 19, .int 0, .int 0, .int 0, .int 0]
def cx_fl (n : Nat) : List Value := [.int 0, .ref n, .int 0, .int 0, .int 0, .int 0, .int 0, .int 0]
set_option maxRecDepth 100000 in
theorem ck_o1 : Cond.methodLink RX2 1 objectInit ∈ sc_G := sc_inG 16 (by decide +kernel) (by decide +kernel)
set_option maxRecDepth 100000 in
theorem ck_14 : Cond.fieldLink RX2 14 RX2 "nop" "LStageChip$Instruction;" ∈ sc_G := sc_inG 85 (by decide +kernel) (by decide +kernel)
set_option maxRecDepth 100000 in
theorem ck_22 : Cond.fieldLink RX2 22 RX2 "data" "[I" ∈ sc_G := sc_inG 87 (by decide +kernel) (by decide +kernel)
set_option maxRecDepth 100000 in
theorem ck_26 : Cond.fieldLink RX2 26 RX2 "registers" "[I" ∈ sc_G := sc_inG 88 (by decide +kernel) (by decide +kernel)
set_option maxRecDepth 100000 in
theorem ck_29 : Cond.fieldLink RX2 29 RX2 "counters" "[I" ∈ sc_G := sc_inG 89 (by decide +kernel) (by decide +kernel)
set_option maxRecDepth 100000 in
theorem ck_34 : Cond.fieldLink RX2 34 RX2 "stages" "[LStageChip$Flight;" ∈ sc_G := sc_inG 90 (by decide +kernel) (by decide +kernel)
set_option maxRecDepth 100000 in
theorem ck_41 : Cond.fieldLink RX2 41 RX2 "lastRetired" "[I" ∈ sc_G := sc_inG 91 (by decide +kernel) (by decide +kernel)
set_option maxRecDepth 100000 in
theorem ck_32 : Cond.classLink RX2 32 RX0 ∈ sc_G := sc_inG 49 (by decide +kernel) (by decide +kernel)
set_option maxRecDepth 100000 in
theorem ck_i0 : Cond.instantiable RX0 8 ∈ sc_G := sc_inG 51 (by decide +kernel) (by decide +kernel)
set_option maxRecDepth 100000 in
theorem ck_z0 : Cond.initialized RX0 ∈ sc_G := sc_inG 3 (by decide +kernel) (by decide +kernel)
set_option maxRecDepth 100000 in
theorem ck_m0 : Cond.instanceMethod yX0_init ∈ sc_G := sc_inG 53 (by decide +kernel) (by decide +kernel)
set_option maxRecDepth 100000 in
theorem ck_c0 : Cond.code yX0_init cX0_init 2 none ∈ sc_G := sc_inG 54 rfl rfl
theorem ck_n0 : (RX2, 38, yX0_init, RX2) ∈ sc_NM := List.mem_of_getElem? (i := 1) rfl
theorem cx_dv0 (n : Nat) : ∀ j, j < 8 → defaultValue (tyX0 j) = vp_V [.int 0, .null, .int 0, .int 0, .int 0, .int 0, .int 0, .int 0] j := fun j hj => by
  rcases (show j = 0 ∨ j = 1 ∨ j = 2 ∨ j = 3 ∨ j = 4 ∨ j = 5 ∨ j = 6 ∨ j = 7 by omega) with rfl | rfl | rfl | rfl | rfl | rfl | rfl | rfl <;> rfl
section
variable {p : Program} {l : Launch} {e : Env} {R : Room} {s : State} {m : MethodId} {args : Array Value} {below : List Frame} {meth : Method} {c : Code} {Q : State → Prop} {dC : Nat → ClassId} {dI : Nat → Nat → Nat} {A : Nat → Prop} {b n pr : Nat} {cells slots : Nat}
set_option maxRecDepth 100000 in
set_option maxHeartbeats 4000000 in
/-- the program's loop -/
theorem cx_loop1 {cP : ClassId} {v2 v3 v4 v5 v6 : Value} (hx : p.tables.exec = Jvm.exec) (hb : c.code = cX2_init) (hts : ∀ w ∈ sc_ws yX2_init cX2_init 2 none, w.before args s = true) (hown : s.vm.findClass RX2 = some m.cls) (hK : va_K (dC, dI) vwCl [(cP, .object RX1)] s)
    (kk : ∀ (ls : Array Slot) (H : Heap) (locs : List Loc), lv_has ls 2 [(0, .ref b)] → va_P (dC, dI) vwCl [(b, .inr (2, cx_FS (.ref n) (.ref pr) v2 v3 v4 v5 v6)), (n, .inr (1, cx_nop)), (pr, .inl (cP, 64, .inr (.inr (.inr (.inr (cx_g n 64))))))] H → va_D A [(b, .inr (2, cx_FS (.ref n) (.ref pr) v2 v3 v4 v5 v6)), (n, .inr (1, cx_nop)), (pr, .inl (cP, 64, .inr (.inr (.inr (.inr (cx_g n 64))))))] → va_S A s.heap H locs → W p l e R s m args below meth c H locs cells slots Q (F0 m 54 ls [])) :
    ∀ (k i : Nat), i + k = 64 → ∀ (ls : Array Slot) (H : Heap) (locs : List Loc), lv_has ls 2 [(1, .int (nI i)), (0, .ref b)] → va_P (dC, dI) vwCl [(b, .inr (2, cx_FS (.ref n) (.ref pr) v2 v3 v4 v5 v6)), (n, .inr (1, cx_nop)), (pr, .inl (cP, 64, .inr (.inr (.inr (.inr (cx_g n i))))))] H → va_D A [(b, .inr (2, cx_FS (.ref n) (.ref pr) v2 v3 v4 v5 v6)), (n, .inr (1, cx_nop)), (pr, .inl (cP, 64, .inr (.inr (.inr (.inr (cx_g n i))))))] → va_S A s.heap H locs → W p l e R s m args below meth c H locs cells slots Q (F0 m 32 ls []) := by
  intro k
  induction k with
  | zero =>
    intro i hi ls H locs hl hP hD hS
    have e64 : i = 64 := by omega
    subst e64
    refine lv_iload_n hx hb dX2_init_32 rfl (lv_at hl 0 rfl) ?_
    refine lv_bipush hx hb dX2_init_33 rfl ?_
    refine lv_icmp_ge (tgt := 54) hx hb dX2_init_35 (by decide) (fun _ => ?_) (fun z => absurd (by decide) z)
    exact kk ls H locs (lv_sub hl [1] rfl) hP hD hS
  | succ k ih =>
    intro i hi ls H locs hl hP hD hS
    have hi64 : i < 64 := by omega
    refine lv_iload_n hx hb dX2_init_32 rfl (lv_at hl 0 rfl) ?_
    refine lv_bipush hx hb dX2_init_33 rfl ?_
    refine lv_icmp_ge (tgt := 54) hx hb dX2_init_35 (by decide) (fun z => absurd z (nI_ge hi64 (by decide))) (fun _ => ?_)
    refine lv_aload_n hx hb dX2_init_38 rfl (lv_at hl 1 rfl) ?_
    refine va_get (D := (dC, dI)) (C := RX2) (T := TX2) (N := 17) hx hb hts (sc_in (k1 := 2) (by decide)) hown hK hP 0 rfl rfl 1 (by decide) (hts _ (List.mem_cons_of_mem _ ix_k6)) (fun _ h9 => h9) (v := .ref pr) rfl dX2_init_39 ?_
    refine lv_iload_n hx hb dX2_init_42 rfl (lv_at hl 0 rfl) ?_
    refine lv_aload_n hx hb dX2_init_43 rfl (lv_at hl 1 rfl) ?_
    refine va_get (D := (dC, dI)) (C := RX2) (T := TX2) (N := 17) hx hb hts (sc_in (k1 := 2) (by decide)) hown hK hP 0 rfl rfl 0 (by decide) (hts _ (List.mem_cons_of_mem _ ck_14)) (fun _ h9 => h9) (v := .ref n) rfl dX2_init_44 ?_
    refine va_astq (r := sc_cl 1) hx hb hK hP hD hS 2 0 1 1 rfl rfl rfl (sc_cl_at (by decide)) (vp_in_nI hi64 (by decide)) dX2_init_47 (fun H1 locs1 hP1 hD1 hS1 => ?_)
    rw [nI_clamp (show i < 2 ^ 31 by omega), cx_gs] at hP1 hD1
    refine lv_iinc (v := nI (i + 1)) (lv' := [(1, .int (nI (i + 1))), (0, .ref b)]) hx hb dX2_init_48 hl (k := 0) rfl (nI_1 i) (by decide) rfl (fun ls hl => ?_)
    refine lv_goto (tgt := 32) hx hb dX2_init_51 (by decide) ?_
    exact ih (i + 1) (by omega) ls H1 locs1 hl hP1 hD1 hS1
set_option maxRecDepth 100000 in
set_option maxHeartbeats 4000000 in
/-- the counters' loop -/
theorem cx_loop2 {tys : List (ClassId × FieldType)} {cP cC : ClassId} {x2 x3 x4 : Nat × va_E} {ct : Nat} {v1 v2 v3 v5 v6 : Value} (hx : p.tables.exec = Jvm.exec) (hb : c.code = cX2_init) (hts : ∀ w ∈ sc_ws yX2_init cX2_init 2 none, w.before args s = true) (hown : s.vm.findClass RX2 = some m.cls) (hK : va_K (dC, dI) vwCl tys s) (hty : tys[3]? = some (cC, .int))
    (kk : ∀ (ls : Array Slot) (H : Heap) (locs : List Loc), lv_has ls 2 [(0, .ref b)] → va_P (dC, dI) vwCl [(b, .inr (2, cx_FS (.ref n) v1 v2 v3 (.ref ct) v5 v6)), (n, .inr (1, cx_nop)), x2, x3, x4, (ct, .inl (cC, 8, .inl (cx_h 8)))] H → va_D A [(b, .inr (2, cx_FS (.ref n) v1 v2 v3 (.ref ct) v5 v6)), (n, .inr (1, cx_nop)), x2, x3, x4, (ct, .inl (cC, 8, .inl (cx_h 8)))] → va_S A s.heap H locs → W p l e R s m args below meth c H locs cells slots Q (F0 m 99 ls [])) :
    ∀ (k i : Nat), i + k = 8 → ∀ (ls : Array Slot) (H : Heap) (locs : List Loc), lv_has ls 2 [(1, .int (nI i)), (0, .ref b)] → va_P (dC, dI) vwCl [(b, .inr (2, cx_FS (.ref n) v1 v2 v3 (.ref ct) v5 v6)), (n, .inr (1, cx_nop)), x2, x3, x4, (ct, .inl (cC, 8, .inl (cx_h i)))] H → va_D A [(b, .inr (2, cx_FS (.ref n) v1 v2 v3 (.ref ct) v5 v6)), (n, .inr (1, cx_nop)), x2, x3, x4, (ct, .inl (cC, 8, .inl (cx_h i)))] → va_S A s.heap H locs → W p l e R s m args below meth c H locs cells slots Q (F0 m 80 ls []) := by
  intro k
  induction k with
  | zero =>
    intro i hi ls H locs hl hP hD hS
    have e64 : i = 8 := by omega
    subst e64
    refine lv_iload_n hx hb dX2_init_80 rfl (lv_at hl 0 rfl) ?_
    refine lv_bipush hx hb dX2_init_81 rfl ?_
    refine lv_icmp_ge (tgt := 99) hx hb dX2_init_83 (by decide) (fun _ => ?_) (fun z => absurd (by decide) z)
    exact kk ls H locs (lv_sub hl [1] rfl) hP hD hS
  | succ k ih =>
    intro i hi ls H locs hl hP hD hS
    have hi64 : i < 8 := by omega
    refine lv_iload_n hx hb dX2_init_80 rfl (lv_at hl 0 rfl) ?_
    refine lv_bipush hx hb dX2_init_81 rfl ?_
    refine lv_icmp_ge (tgt := 99) hx hb dX2_init_83 (by decide) (fun z => absurd z (nI_ge hi64 (by decide))) (fun _ => ?_)
    refine lv_aload_n hx hb dX2_init_86 rfl (lv_at hl 1 rfl) ?_
    refine va_get (D := (dC, dI)) (C := RX2) (T := TX2) (N := 17) hx hb hts (sc_in (k1 := 2) (by decide)) hown hK hP 0 rfl rfl 4 (by decide) (hts _ (List.mem_cons_of_mem _ ck_29)) (fun _ h9 => h9) (v := .ref ct) rfl dX2_init_87 ?_
    refine lv_iload_n hx hb dX2_init_90 rfl (lv_at hl 0 rfl) ?_
    refine lv_iconst (v := 1) hx hb dX2_init_91 (by decide) ?_
    refine va_iast hx hb hK hP hD hS 5 3 rfl hty (vp_in_nI hi64 (by decide)) dX2_init_92 (fun H1 locs1 hP1 hD1 hS1 => ?_)
    rw [nI_clamp (show i < 2 ^ 31 by omega), cx_hs] at hP1 hD1
    refine lv_iinc (v := nI (i + 1)) (lv' := [(1, .int (nI (i + 1))), (0, .ref b)]) hx hb dX2_init_93 hl (k := 0) rfl (nI_1 i) (by decide) rfl (fun ls hl => ?_)
    refine lv_goto (tgt := 80) hx hb dX2_init_96 (by decide) ?_
    exact ih (i + 1) (by omega) ls H1 locs1 hl hP1 hD1 hS1
end
