abbrev sc_L : Type := List (Nat × sc_V)
abbrev sc_KT : Type := sc_L → List sc_V → sc_I → sc_R → Prop
abbrev sc_RT : Type := Option sc_V → sc_I → sc_R → Prop
abbrev sc_CT : Type := Nat → List sc_V → sc_I → sc_R → sc_RT → Prop
/-- a step: the calls, the method's end, jumps, what is next; locals, stack, ints, references -/
abbrev sc_EN : Type := sc_CT → sc_RT → (Nat → sc_KT) → sc_KT → sc_KT
def sc_tv (ad : Nat → Nat) (v : sc_V) : Value := match v with
  | .inl x => .int x
  | .inr (k, i) => .ref (sc_ad ad k i)
theorem sc_tv_cat (ad : Nat → Nat) (v : sc_V) : (sc_tv ad v).category = 1 := by
  rcases v with x | ⟨k, i⟩ <;> rfl
-- shapes of the stack
def sc_p1 (st : List sc_V) (K : Int32 → List sc_V → Prop) : Prop := match st with
  | .inl x :: r => K x r
  | _ => False
def sc_p2 (st : List sc_V) (K : Int32 → Int32 → List sc_V → Prop) : Prop := match st with
  | .inl y :: .inl x :: r => K x y r
  | _ => False
def sc_pr (k : Nat) (st : List sc_V) (K : Nat → List sc_V → Prop) : Prop := match st with
  | .inr (k0, i) :: r => (match Nat.beq k0 k with
    | true => K i r
    | false => False)
  | _ => False
def sc_pri (k : Nat) (st : List sc_V) (K : Int32 → Nat → List sc_V → Prop) : Prop := match st with
  | .inl x :: .inr (k0, i) :: r => (match Nat.beq k0 k with
    | true => K x i r
    | false => False)
  | _ => False
def sc_prii (k : Nat) (st : List sc_V) (K : Int32 → Int32 → Nat → List sc_V → Prop) : Prop := match st with
  | .inl x :: .inl j :: .inr (k0, i) :: r => (match Nat.beq k0 k with
    | true => K x j i r
    | false => False)
  | _ => False
def sc_prr (k1 k : Nat) (st : List sc_V) (K : Nat → Nat → List sc_V → Prop) : Prop := match st with
  | .inr (k2, a) :: .inr (k0, i) :: r => (match Nat.beq k0 k && Nat.beq k2 k1 with
    | true => K a i r
    | false => False)
  | _ => False
def sc_prir (k1 k : Nat) (st : List sc_V) (K : Nat → Int32 → Nat → List sc_V → Prop) : Prop := match st with
  | .inr (k2, a) :: .inl j :: .inr (k0, i) :: r => (match Nat.beq k0 k && Nat.beq k2 k1 with
    | true => K a j i r
    | false => False)
  | _ => False
theorem sc_p1_e {st : List sc_V} {K : Int32 → List sc_V → Prop} (h : sc_p1 st K) : ∃ x r, st = .inl x :: r ∧ K x r := by
  unfold sc_p1 at h
  split at h
  · exact ⟨_, _, rfl, h⟩
  · exact h.elim
theorem sc_p2_e {st : List sc_V} {K : Int32 → Int32 → List sc_V → Prop} (h : sc_p2 st K) : ∃ x y r, st = .inl y :: .inl x :: r ∧ K x y r := by
  unfold sc_p2 at h
  split at h
  · exact ⟨_, _, _, rfl, h⟩
  · exact h.elim
theorem sc_pr_e {k : Nat} {st : List sc_V} {K : Nat → List sc_V → Prop} (h : sc_pr k st K) : ∃ i r, st = .inr (k, i) :: r ∧ K i r := by
  unfold sc_pr at h
  split at h
  · split at h
    · rename_i hb
      have e := Nat.eq_of_beq_eq_true hb
      subst e
      exact ⟨_, _, rfl, h⟩
    · exact h.elim
  · exact h.elim
theorem sc_pri_e {k : Nat} {st : List sc_V} {K : Int32 → Nat → List sc_V → Prop} (h : sc_pri k st K) : ∃ x i r, st = .inl x :: .inr (k, i) :: r ∧ K x i r := by
  unfold sc_pri at h
  split at h
  · split at h
    · rename_i hb
      have e := Nat.eq_of_beq_eq_true hb
      subst e
      exact ⟨_, _, _, rfl, h⟩
    · exact h.elim
  · exact h.elim
theorem sc_prii_e {k : Nat} {st : List sc_V} {K : Int32 → Int32 → Nat → List sc_V → Prop} (h : sc_prii k st K) : ∃ x j i r, st = .inl x :: .inl j :: .inr (k, i) :: r ∧ K x j i r := by
  unfold sc_prii at h
  split at h
  · split at h
    · rename_i hb
      have e := Nat.eq_of_beq_eq_true hb
      subst e
      exact ⟨_, _, _, _, rfl, h⟩
    · exact h.elim
  · exact h.elim
theorem sc_prr_e {k1 k : Nat} {st : List sc_V} {K : Nat → Nat → List sc_V → Prop} (h : sc_prr k1 k st K) : ∃ a i r, st = .inr (k1, a) :: .inr (k, i) :: r ∧ K a i r := by
  unfold sc_prr at h
  split at h
  · split at h
    · rename_i hb
      have hb := Bool.and_eq_true_iff.mp hb
      have e := Nat.eq_of_beq_eq_true hb.1
      have e2 := Nat.eq_of_beq_eq_true hb.2
      subst e; subst e2
      exact ⟨_, _, _, rfl, h⟩
    · exact h.elim
  · exact h.elim
theorem sc_prir_e {k1 k : Nat} {st : List sc_V} {K : Nat → Int32 → Nat → List sc_V → Prop} (h : sc_prir k1 k st K) : ∃ a j i r, st = .inr (k1, a) :: .inl j :: .inr (k, i) :: r ∧ K a j i r := by
  unfold sc_prir at h
  split at h
  · split at h
    · rename_i hb
      have hb := Bool.and_eq_true_iff.mp hb
      have e := Nat.eq_of_beq_eq_true hb.1
      have e2 := Nat.eq_of_beq_eq_true hb.2
      subst e; subst e2
      exact ⟨_, _, _, _, rfl, h⟩
    · exact h.elim
  · exact h.elim
-- locals
def sc_lk : sc_L → Nat → (sc_V → Prop) → Prop
  | [], _, _ => False
  | q :: r, i, K => match Nat.beq q.1 i with
    | true => K q.2
    | false => sc_lk r i K
def sc_rm : sc_L → Nat → (sc_L → Prop) → Prop
  | [], _, K => K []
  | q :: r, i, K => match Nat.beq q.1 i with
    | true => sc_rm r i K
    | false => sc_rm r i (fun r' => K (q :: r'))
theorem sc_lk_e : ∀ {lv : sc_L} {i : Nat} {K : sc_V → Prop}, sc_lk lv i K → ∃ v, (i, v) ∈ lv ∧ K v
  | [], _, _, h => h.elim
  | q :: r, i, K, h => by
    unfold sc_lk at h
    split at h
    · rename_i hb
      have e := Nat.eq_of_beq_eq_true hb
      exact ⟨q.2, by rw [← e]; exact List.mem_cons_self, h⟩
    · obtain ⟨v, h1, h2⟩ := sc_lk_e h
      exact ⟨v, List.mem_cons_of_mem _ h1, h2⟩
theorem sc_rm_e : ∀ {lv : sc_L} {i : Nat} {K : sc_L → Prop}, sc_rm lv i K → ∃ lv', K lv' ∧ ∀ q ∈ lv', q ∈ lv ∧ q.1 ≠ i
  | [], _, K, h => ⟨[], h, fun q hq => by cases hq⟩
  | q :: r, i, K, h => by
    unfold sc_rm at h
    split at h
    · obtain ⟨lv', h1, h2⟩ := sc_rm_e h
      exact ⟨lv', h1, fun z hz => ⟨List.mem_cons_of_mem _ (h2 z hz).1, (h2 z hz).2⟩⟩
    · rename_i hb
      obtain ⟨lv', h1, h2⟩ := sc_rm_e h
      refine ⟨q :: lv', h1, fun z hz => ?_⟩
      rcases List.mem_cons.mp hz with rfl | hz
      · exact ⟨List.mem_cons_self, fun e => by rw [e, Nat.beq_refl] at hb; cases hb⟩
      · exact ⟨List.mem_cons_of_mem _ (h2 z hz).1, (h2 z hz).2⟩
def sc_lm (ad : Nat → Nat) (lv : sc_L) : List (Nat × Value) := lv.map (fun q => (q.1, sc_tv ad q.2))
theorem sc_has_at {ad : Nat → Nat} {ls : Array Slot} {nL : Nat} {lv : sc_L} (h : lv_has ls nL (sc_lm ad lv)) {i : Nat} {v : sc_V} (hm : (i, v) ∈ lv) : ls[i]? = some (.val (sc_tv ad v)) := h.2.2 (i, sc_tv ad v) (List.mem_map.mpr ⟨(i, v), hm, rfl⟩)
theorem sc_has_set {ad : Nat → Nat} {ls : Array Slot} {nL i : Nat} {lv lv' : sc_L} {v : sc_V} (h : lv_has ls nL ((i, sc_tv ad v) :: (sc_lm ad lv).filter (fun q => !(q.1 == i) && !(q.1 + 1 == i && q.2.category == 2)))) (hs : ∀ q ∈ lv', q ∈ lv ∧ q.1 ≠ i) : lv_has ls nL (sc_lm ad ((i, v) :: lv')) := by
  refine ⟨h.1, h.2.1, fun q hq => h.2.2 q ?_⟩
  rcases List.mem_cons.mp hq with rfl | hq
  · exact List.mem_cons_self
  · obtain ⟨z, hz, rfl⟩ := List.mem_map.mp hq
    refine List.mem_cons_of_mem _ (List.mem_filter.mpr ⟨List.mem_map.mpr ⟨z, (hs z hz).1, rfl⟩, ?_⟩)
    have e1 : (z.1 == i) = false := by simpa using (hs z hz).2
    have e2 : ((sc_tv ad z.2).category == 2) = false := by rw [sc_tv_cat]; rfl
    simp only [e1, e2, Bool.and_false, Bool.not_false, Bool.and_self]
-- calls
def sc_pn : Nat → List sc_V → List sc_V → (List sc_V → List sc_V → Prop) → Prop
  | 0, st, acc, K => K acc st
  | n + 1, st, acc, K => match st with
    | v :: r => sc_pn n r (v :: acc) K
    | [] => False
theorem sc_pn_e : ∀ {n : Nat} {st acc : List sc_V} {K : List sc_V → List sc_V → Prop}, sc_pn n st acc K → ∃ as r, st = as.reverse ++ r ∧ as.length = n ∧ K (as ++ acc) r
  | 0, st, acc, K, h => ⟨[], st, rfl, rfl, h⟩
  | n + 1, [], acc, K, h => h.elim
  | n + 1, v :: r, acc, K, h => by
    obtain ⟨as, r', h1, h2, h3⟩ := sc_pn_e (n := n) (st := r) (acc := v :: acc) h
    refine ⟨as ++ [v], r', by rw [h1]; simp, by simp [h2], by simpa using h3⟩
def sc_psh (r : Option sc_V) (st : List sc_V) : List sc_V := match r with
  | some v => v :: st
  | none => st
theorem sc_psh_map (ad : Nat → Nat) (r : Option sc_V) (st : List sc_V) : (sc_psh r st).map (sc_tv ad) = (r.map (sc_tv ad)).toList ++ st.map (sc_tv ad) := by
  cases r <;> rfl
def sc_pv (k1 : Nat) (as : List sc_V) (K : Prop) : Prop := match as with
  | .inr (k0, _) :: _ => (match Nat.beq k0 k1 with
    | true => K
    | false => False)
  | _ => False
theorem sc_pv_e {k1 : Nat} {as : List sc_V} {K : Prop} (h : sc_pv k1 as K) : K ∧ ∃ i as', as = .inr (k1, i) :: as' := by
  unfold sc_pv at h
  split at h
  · split at h
    · rename_i hb
      have e := Nat.eq_of_beq_eq_true hb
      subst e
      exact ⟨h, _, _, rfl⟩
    · exact h.elim
  · exact h.elim
-- the steps
def sc_bad : sc_EN := fun _ _ _ _ _ _ _ _ => False
def sc_cst (v : Int32) : sc_EN := fun _ _ _ k lv st I D => k lv (.inl v :: st) I D
def sc_ldI (i : Nat) : sc_EN := fun _ _ _ k lv st I D => sc_lk lv i (fun v => match v with
  | .inl x => k lv (.inl x :: st) I D
  | .inr _ => False)
def sc_ldA (i : Nat) : sc_EN := fun _ _ _ k lv st I D => sc_lk lv i (fun v => match v with
  | .inr x => k lv (.inr x :: st) I D
  | .inl _ => False)
def sc_stI (i : Nat) : sc_EN := fun _ _ _ k lv st I D => sc_p1 st (fun x r => sc_rm lv i (fun lv' => k ((i, .inl x) :: lv') r I D))
def sc_stA (k1 i : Nat) : sc_EN := fun _ _ _ k lv st I D => sc_pr k1 st (fun x r => sc_rm lv i (fun lv' => k ((i, .inr (k1, x)) :: lv') r I D))
def sc_inc (i : Nat) (n : Int32) : sc_EN := fun _ _ _ k lv st I D => sc_lk lv i (fun v => match v with
  | .inl x => sc_rm lv i (fun lv' => k ((i, .inl (x + n)) :: lv') st I D)
  | .inr _ => False)
def sc_iadd : sc_EN := fun _ _ _ k lv st I D => sc_p2 st (fun x y r => k lv (.inl (x + y) :: r) I D)
def sc_isub : sc_EN := fun _ _ _ k lv st I D => sc_p2 st (fun x y r => k lv (.inl (x - y) :: r) I D)
def sc_imul : sc_EN := fun _ _ _ k lv st I D => sc_p2 st (fun x y r => k lv (.inl (x * y) :: r) I D)
def sc_iand : sc_EN := fun _ _ _ k lv st I D => sc_p2 st (fun x y r => k lv (.inl (x &&& y) :: r) I D)
def sc_ior : sc_EN := fun _ _ _ k lv st I D => sc_p2 st (fun x y r => k lv (.inl (x ||| y) :: r) I D)
def sc_ixor : sc_EN := fun _ _ _ k lv st I D => sc_p2 st (fun x y r => k lv (.inl (x ^^^ y) :: r) I D)
def sc_ishl : sc_EN := fun _ _ _ k lv st I D => sc_p2 st (fun x y r => k lv (.inl (x <<< (y &&& 31)) :: r) I D)
def sc_idiv : sc_EN := fun _ _ _ k lv st I D => sc_p2 st (fun x y r => (¬ y = 0) ∧ k lv (.inl (x / y) :: r) I D)
def sc_irem : sc_EN := fun _ _ _ k lv st I D => sc_p2 st (fun x y r => (¬ y = 0) ∧ k lv (.inl (x - x / y * y) :: r) I D)
def sc_if_eq (t : Nat) : sc_EN := fun _ _ j k lv st I D => sc_p1 st (fun x r => (x = 0 → j t lv r I D) ∧ (¬ x = 0 → k lv r I D))
def sc_if_ne (t : Nat) : sc_EN := fun _ _ j k lv st I D => sc_p1 st (fun x r => (x = 0 → k lv r I D) ∧ (¬ x = 0 → j t lv r I D))
def sc_if_lt (t : Nat) : sc_EN := fun _ _ j k lv st I D => sc_p1 st (fun x r => (x < 0 → j t lv r I D) ∧ (¬ x < 0 → k lv r I D))
def sc_if_ge (t : Nat) : sc_EN := fun _ _ j k lv st I D => sc_p1 st (fun x r => (0 ≤ x → j t lv r I D) ∧ (¬ 0 ≤ x → k lv r I D))
def sc_if_gt (t : Nat) : sc_EN := fun _ _ j k lv st I D => sc_p1 st (fun x r => (0 < x → j t lv r I D) ∧ (¬ 0 < x → k lv r I D))
def sc_if_le (t : Nat) : sc_EN := fun _ _ j k lv st I D => sc_p1 st (fun x r => (x ≤ 0 → j t lv r I D) ∧ (¬ x ≤ 0 → k lv r I D))
def sc_ic_eq (t : Nat) : sc_EN := fun _ _ j k lv st I D => sc_p2 st (fun x y r => (x = y → j t lv r I D) ∧ (¬ x = y → k lv r I D))
def sc_ic_ne (t : Nat) : sc_EN := fun _ _ j k lv st I D => sc_p2 st (fun x y r => (x = y → k lv r I D) ∧ (¬ x = y → j t lv r I D))
def sc_ic_lt (t : Nat) : sc_EN := fun _ _ j k lv st I D => sc_p2 st (fun x y r => (x < y → j t lv r I D) ∧ (¬ x < y → k lv r I D))
def sc_ic_ge (t : Nat) : sc_EN := fun _ _ j k lv st I D => sc_p2 st (fun x y r => (y ≤ x → j t lv r I D) ∧ (¬ y ≤ x → k lv r I D))
def sc_ic_gt (t : Nat) : sc_EN := fun _ _ j k lv st I D => sc_p2 st (fun x y r => (y < x → j t lv r I D) ∧ (¬ y < x → k lv r I D))
def sc_ic_le (t : Nat) : sc_EN := fun _ _ j k lv st I D => sc_p2 st (fun x y r => (x ≤ y → j t lv r I D) ∧ (¬ x ≤ y → k lv r I D))
def sc_goto (t : Nat) : sc_EN := fun _ _ j _ lv st I D => j t lv st I D
def sc_dup : sc_EN := fun _ _ _ k lv st I D => match st with
  | v :: r => k lv (v :: v :: r) I D
  | [] => False
def sc_get (k1 s : Nat) : sc_EN := fun _ _ _ k lv st I D => sc_pr k1 st (fun i r => match sc_fx k1 s with
  | none => k lv (.inl (I k1 i s) :: r) I D
  | some (k2, some i2) => k lv (.inr (k2, i2) :: r) I D
  | some (k2, none) => k lv (.inr (k2, D k1 i s) :: r) I D)
def sc_putI (k1 s : Nat) : sc_EN := fun _ _ _ k lv st I D => sc_pri k1 st (fun x i r => k lv r (sc_u I k1 i s x) D)
def sc_putZ (k1 s : Nat) : sc_EN := fun _ _ _ k lv st I D => sc_pri k1 st (fun x i r => (x = 0 ∨ x = 1) ∧ k lv r (sc_u I k1 i s x) D)
def sc_putN : sc_EN := fun _ _ _ k lv st I D => sc_prr 1 0 st (fun a i r => k lv r I (sc_u D 0 i 1 a))
def sc_ald : sc_EN := fun _ _ _ k lv st I D => sc_pri 4 st (fun x i r => vp_in x (sc_ln i) ∧ k lv (.inl (I 4 i x.toNatClampNeg) :: r) I D)
def sc_ast : sc_EN := fun _ _ _ k lv st I D => sc_prii 4 st (fun v x i r => vp_in x (sc_ln i) ∧ k lv r (sc_u I 4 i x.toNatClampNeg v) D)
def sc_zld : sc_EN := fun _ _ _ k lv st I D => sc_pri 5 st (fun x i r => vp_in x 5 ∧ k lv (.inl (I 5 0 x.toNatClampNeg) :: r) I D)
def sc_zst : sc_EN := fun _ _ _ k lv st I D => sc_prii 5 st (fun v x i r => (v = 0 ∨ v = 1) ∧ vp_in x 5 ∧ k lv r (sc_u I 5 0 x.toNatClampNeg v) D)
def sc_fld : sc_EN := fun _ _ _ k lv st I D => sc_pri 6 st (fun x i r => vp_in x 5 ∧ k lv (.inr (0, D 6 0 x.toNatClampNeg) :: r) I D)
def sc_fst : sc_EN := fun _ _ _ k lv st I D => sc_prir 0 6 st (fun f x i r => vp_in x 5 ∧ k lv r I (sc_u D 6 0 x.toNatClampNeg f))
def sc_nld : sc_EN := fun _ _ _ k lv st I D => sc_pri 7 st (fun x i r => vp_in x 64 ∧ k lv (.inr (1, D 7 0 x.toNatClampNeg) :: r) I D)
def sc_retI : sc_EN := fun _ Q _ _ _ st I D => sc_p1 st (fun x r => match r with
  | [] => Q (some (.inl x)) I D
  | _ => False)
def sc_retZ : sc_EN := fun _ Q _ _ _ st I D => sc_p1 st (fun x r => match r with
  | [] => (x = 0 ∨ x = 1) ∧ Q (some (.inl x)) I D
  | _ => False)
def sc_retV : sc_EN := fun _ Q _ _ _ st I D => match st with
  | [] => Q none I D
  | _ => False
def sc_inv (mid k1 n : Nat) : sc_EN := fun C _ _ k lv st I D => sc_pn n st [] (fun as r => match Nat.ble r.length 8 with
  | true => sc_pv k1 as (C mid as I D (fun v I' D' => k lv (sc_psh v r) I' D'))
  | false => False)
def sc_ins (mid n : Nat) : sc_EN := fun C _ _ k lv st I D => sc_pn n st [] (fun as r => match Nat.ble r.length 8 with
  | true => C mid as I D (fun v I' D' => k lv (sc_psh v r) I' D')
  | false => False)
noncomputable def sc_swt (x : Int32) (J : Nat → Prop) (dft : Nat) (ts : List (Int32 × Nat)) : Prop := List.rec (motive := fun _ => Prop) (J dft) (fun q _ ih => (x = q.1 → J q.2) ∧ (¬ x = q.1 → ih)) ts
noncomputable def sc_sw (ts : List (Int32 × Nat)) (dft : Nat) : sc_EN := fun _ _ j _ lv st I D => sc_p1 st (fun x r => sc_swt x (fun t => j t lv r I D) dft ts)
-- the methods: names, code, locals, what they answer (printed by program)
def sc_nM : Nat := 72
def sc_y (mid : Nat) : MethodName := match mid with
  | 0 => yX0_does
  | 1 => yX1_writesD
  | 2 => yX0_writes
  | 3 => yX1_isBranch
  | 4 => yX1_usesT
  | 5 => yX1_usesS
  | 6 => yX1_touchesData
  | 7 => yX1_workCycles
  | 8 => yX2_checkIndex
  | 9 => yX2_checkArgument
  | 10 => yX2_poke
  | 11 => yX2_peek
  | 12 => yX2_set
  | 13 => yX2_register
  | 14 => yX2_emptyStagesBelow
  | 15 => yX2_start
  | 16 => yX2_handler
  | 17 => yX2_takeFault
  | 18 => yX2_retire
  | 19 => yX2_leaveEndsCycle
  | 20 => yX2_moveOnIfFree
  | 21 => yX2_passMemory
  | 22 => yX2_needsLoadAhead
  | 23 => yX2_handedOn
  | 24 => yX2_isWord
  | 25 => yX2_faultOf
  | 26 => yX2_valueOf
  | 27 => yX2_goesElsewhere
  | 28 => yJ9_floorMod_7cf53
  | 29 => yX2_learn
  | 30 => yX2_target
  | 31 => yX2_holdAgainstGuess
  | 32 => yX2_finishWork
  | 33 => yX2_workInReached
  | 34 => yX2_guessNext
  | 35 => yX2_fetchIfFree
  | 36 => yX2_runCycle
  | 37 => yX2_cycles
  | 38 => yX2_stage
  | 39 => yX2_counter
  | 40 => yX2_retired
  | 41 => yX2_count
  | 42 => yX3_thrown
  | 43 => yX3_out
  | 44 => yX3_in
  | 45 => yX3_put
  | 46 => yX3_poke
  | 47 => yX3_peek
  | 48 => yX3_set
  | 49 => yX3_register
  | 50 => yX3_empty
  | 51 => yX3_start
  | 52 => yX3_handler
  | 53 => yX3_writes
  | 54 => yX3_usesFirst
  | 55 => yX3_usesSecond
  | 56 => yX3_move
  | 57 => yX3_leave
  | 58 => yX3_remember
  | 59 => yX3_read
  | 60 => yX3_reckon
  | 61 => yX3_work
  | 62 => yX3_reach
  | 63 => yX3_fetch
  | 64 => yX3_cycle
  | 65 => yX3_cycles
  | 66 => yX3_stage
  | 67 => yX3_counter
  | 68 => yX3_retired
  | 69 => yX3_count
  | 70 => yJ9_max_7cf53
  | _ => yJ9_min_7cf53
def sc_c (mid : Nat) : ByteArray := match mid with
  | 0 => cX0_does
  | 1 => cX1_writesD
  | 2 => cX0_writes
  | 3 => cX1_isBranch
  | 4 => cX1_usesT
  | 5 => cX1_usesS
  | 6 => cX1_touchesData
  | 7 => cX1_workCycles
  | 8 => cX2_checkIndex
  | 9 => cX2_checkArgument
  | 10 => cX2_poke
  | 11 => cX2_peek
  | 12 => cX2_set
  | 13 => cX2_register
  | 14 => cX2_emptyStagesBelow
  | 15 => cX2_start
  | 16 => cX2_handler
  | 17 => cX2_takeFault
  | 18 => cX2_retire
  | 19 => cX2_leaveEndsCycle
  | 20 => cX2_moveOnIfFree
  | 21 => cX2_passMemory
  | 22 => cX2_needsLoadAhead
  | 23 => cX2_handedOn
  | 24 => cX2_isWord
  | 25 => cX2_faultOf
  | 26 => cX2_valueOf
  | 27 => cX2_goesElsewhere
  | 28 => cJ9_floorMod_7cf53
  | 29 => cX2_learn
  | 30 => cX2_target
  | 31 => cX2_holdAgainstGuess
  | 32 => cX2_finishWork
  | 33 => cX2_workInReached
  | 34 => cX2_guessNext
  | 35 => cX2_fetchIfFree
  | 36 => cX2_runCycle
  | 37 => cX2_cycles
  | 38 => cX2_stage
  | 39 => cX2_counter
  | 40 => cX2_retired
  | 41 => cX2_count
  | 42 => cX3_thrown
  | 43 => cX3_out
  | 44 => cX3_in
  | 45 => cX3_put
  | 46 => cX3_poke
  | 47 => cX3_peek
  | 48 => cX3_set
  | 49 => cX3_register
  | 50 => cX3_empty
  | 51 => cX3_start
  | 52 => cX3_handler
  | 53 => cX3_writes
  | 54 => cX3_usesFirst
  | 55 => cX3_usesSecond
  | 56 => cX3_move
  | 57 => cX3_leave
  | 58 => cX3_remember
  | 59 => cX3_read
  | 60 => cX3_reckon
  | 61 => cX3_work
  | 62 => cX3_reach
  | 63 => cX3_fetch
  | 64 => cX3_cycle
  | 65 => cX3_cycles
  | 66 => cX3_stage
  | 67 => cX3_counter
  | 68 => cX3_retired
  | 69 => cX3_count
  | 70 => cJ9_max_7cf53
  | _ => cJ9_min_7cf53
def sc_nL (mid : Nat) : Nat := match mid with
  | 0 => 2
  | 1 => 1
  | 2 => 2
  | 3 => 1
  | 4 => 1
  | 5 => 1
  | 6 => 1
  | 7 => 1
  | 8 => 2
  | 9 => 3
  | 10 => 4
  | 11 => 2
  | 12 => 4
  | 13 => 2
  | 14 => 3
  | 15 => 2
  | 16 => 3
  | 17 => 2
  | 18 => 3
  | 19 => 2
  | 20 => 3
  | 21 => 2
  | 22 => 3
  | 23 => 3
  | 24 => 1
  | 25 => 3
  | 26 => 3
  | 27 => 3
  | 28 => 3
  | 29 => 5
  | 30 => 3
  | 31 => 3
  | 32 => 5
  | 33 => 2
  | 34 => 4
  | 35 => 3
  | 36 => 1
  | 37 => 4
  | 38 => 3
  | 39 => 2
  | 40 => 2
  | 41 => 2
  | 42 => 1
  | 43 => 4
  | 44 => 3
  | 45 => 7
  | 46 => 4
  | 47 => 2
  | 48 => 4
  | 49 => 2
  | 50 => 2
  | 51 => 2
  | 52 => 3
  | 53 => 1
  | 54 => 1
  | 55 => 1
  | 56 => 3
  | 57 => 2
  | 58 => 1
  | 59 => 3
  | 60 => 3
  | 61 => 10
  | 62 => 5
  | 63 => 4
  | 64 => 2
  | 65 => 4
  | 66 => 2
  | 67 => 2
  | 68 => 2
  | 69 => 2
  | 70 => 2
  | _ => 2
def sc_rt (mid : Nat) : Option FieldType := match mid with
  | 0 => (some .boolean)
  | 1 => (some .boolean)
  | 2 => (some .boolean)
  | 3 => (some .boolean)
  | 4 => (some .boolean)
  | 5 => (some .boolean)
  | 6 => (some .boolean)
  | 7 => (some .int)
  | 8 => none
  | 9 => none
  | 10 => (some .int)
  | 11 => (some .int)
  | 12 => (some .int)
  | 13 => (some .int)
  | 14 => none
  | 15 => none
  | 16 => (some .int)
  | 17 => none
  | 18 => none
  | 19 => (some .boolean)
  | 20 => none
  | 21 => none
  | 22 => (some .boolean)
  | 23 => (some .int)
  | 24 => (some .boolean)
  | 25 => (some .int)
  | 26 => (some .int)
  | 27 => (some .boolean)
  | 28 => (some .int)
  | 29 => none
  | 30 => (some .int)
  | 31 => none
  | 32 => none
  | 33 => none
  | 34 => (some .int)
  | 35 => none
  | 36 => none
  | 37 => (some .int)
  | 38 => (some .int)
  | 39 => (some .int)
  | 40 => (some .int)
  | 41 => (some .int)
  | 42 => (some .int)
  | 43 => (some .boolean)
  | 44 => (some .boolean)
  | 45 => none
  | 46 => (some .int)
  | 47 => (some .int)
  | 48 => (some .int)
  | 49 => (some .int)
  | 50 => none
  | 51 => none
  | 52 => (some .int)
  | 53 => (some .boolean)
  | 54 => (some .boolean)
  | 55 => (some .boolean)
  | 56 => none
  | 57 => (some .boolean)
  | 58 => none
  | 59 => (some .int)
  | 60 => (some .int)
  | 61 => (some .int)
  | 62 => none
  | 63 => none
  | 64 => none
  | 65 => (some .int)
  | 66 => (some .int)
  | 67 => (some .int)
  | 68 => (some .int)
  | 69 => (some .int)
  | 70 => (some .int)
  | _ => (some .int)
def sc_NF : List (String × Nat × String × String × String × String) := [("StageChip$Flight", 23, "StageChip$Instruction", "operation", "I", "StageChip"), ("StageChip", 212, "StageChip$Instruction", "operation", "I", "StageChip"), ("StageChip$Flight", 32, "StageChip$Instruction", "d", "I", "StageChip"), ("StageChip", 152, "StageChip$Instruction", "d", "I", "StageChip"), ("StageChip", 185, "StageChip$Instruction", "s", "I", "StageChip"), ("StageChip", 191, "StageChip$Instruction", "t", "I", "StageChip"), ("StageChip", 209, "StageChip$Instruction", "n", "I", "StageChip"), ("StageChip", 80, "StageChip$Flight", "present", "Z", "StageChip"), ("StageChip", 149, "StageChip$Flight", "instruction", "LStageChip$Instruction;", "StageChip"), ("StageChip", 83, "StageChip$Flight", "place", "I", "StageChip"), ("StageChip", 240, "StageChip$Flight", "guess", "I", "StageChip"), ("StageChip", 171, "StageChip$Flight", "worked", "I", "StageChip"), ("StageChip", 136, "StageChip$Flight", "fault", "I", "StageChip"), ("StageChip", 164, "StageChip$Flight", "address", "I", "StageChip"), ("StageChip", 158, "StageChip$Flight", "value", "I", "StageChip")]
def sc_NM : List (String × Nat × MethodName × String) := [("StageChip", 11, ⟨"StageChip$Instruction", "<init>", "(IIIII)V"⟩, "StageChip"), ("StageChip", 38, ⟨"StageChip$Flight", "<init>", "(LStageChip$Instruction;)V"⟩, "StageChip"), ("StageChip", 142, ⟨"StageChip$Flight", "does", "(I)Z"⟩, "StageChip"), ("StageChip", 155, ⟨"StageChip$Flight", "writes", "(I)Z"⟩, "StageChip"), ("StageChip$Flight", 28, ⟨"StageChip$Instruction", "writesD", "()Z"⟩, "StageChip"), ("StageChip", 181, ⟨"StageChip$Instruction", "usesS", "()Z"⟩, "StageChip"), ("StageChip", 188, ⟨"StageChip$Instruction", "usesT", "()Z"⟩, "StageChip"), ("StageChip", 174, ⟨"StageChip$Instruction", "workCycles", "()I"⟩, "StageChip"), ("StageChip", 206, ⟨"StageChip$Instruction", "touchesData", "()Z"⟩, "StageChip"), ("StageChip", 219, ⟨"StageChip$Instruction", "isBranch", "()Z"⟩, "StageChip")]
theorem sc_lays0 : ∀ k, k < 8 → u_lay RX0 TX0 k ∈ sc_G := fun k hk => match k, hk with
  | 0, _ => sc_inG 67 (by decide +kernel) (by decide +kernel)
  | 1, _ => sc_inG 69 (by decide +kernel) (by decide +kernel)
  | 2, _ => sc_inG 71 (by decide +kernel) (by decide +kernel)
  | 3, _ => sc_inG 73 (by decide +kernel) (by decide +kernel)
  | 4, _ => sc_inG 75 (by decide +kernel) (by decide +kernel)
  | 5, _ => sc_inG 77 (by decide +kernel) (by decide +kernel)
  | 6, _ => sc_inG 79 (by decide +kernel) (by decide +kernel)
  | 7, _ => sc_inG 81 (by decide +kernel) (by decide +kernel)
  | n + 8, h => absurd h (by omega)
theorem sc_lays1 : ∀ k, k < 5 → u_lay RX1 TX1 k ∈ sc_G := fun k hk => match k, hk with
  | 0, _ => sc_inG 37 (by decide +kernel) (by decide +kernel)
  | 1, _ => sc_inG 39 (by decide +kernel) (by decide +kernel)
  | 2, _ => sc_inG 41 (by decide +kernel) (by decide +kernel)
  | 3, _ => sc_inG 43 (by decide +kernel) (by decide +kernel)
  | 4, _ => sc_inG 45 (by decide +kernel) (by decide +kernel)
  | n + 5, h => absurd h (by omega)
theorem sc_lays2 : ∀ k, k < 17 → u_lay RX2 TX2 k ∈ sc_G := fun k hk => match k, hk with
  | 0, _ => sc_inG 102 (by decide +kernel) (by decide +kernel)
  | 1, _ => sc_inG 104 (by decide +kernel) (by decide +kernel)
  | 2, _ => sc_inG 106 (by decide +kernel) (by decide +kernel)
  | 3, _ => sc_inG 108 (by decide +kernel) (by decide +kernel)
  | 4, _ => sc_inG 110 (by decide +kernel) (by decide +kernel)
  | 5, _ => sc_inG 112 (by decide +kernel) (by decide +kernel)
  | 6, _ => sc_inG 114 (by decide +kernel) (by decide +kernel)
  | 7, _ => sc_inG 116 (by decide +kernel) (by decide +kernel)
  | 8, _ => sc_inG 118 (by decide +kernel) (by decide +kernel)
  | 9, _ => sc_inG 120 (by decide +kernel) (by decide +kernel)
  | 10, _ => sc_inG 122 (by decide +kernel) (by decide +kernel)
  | 11, _ => sc_inG 124 (by decide +kernel) (by decide +kernel)
  | 12, _ => sc_inG 126 (by decide +kernel) (by decide +kernel)
  | 13, _ => sc_inG 128 (by decide +kernel) (by decide +kernel)
  | 14, _ => sc_inG 130 (by decide +kernel) (by decide +kernel)
  | 15, _ => sc_inG 132 (by decide +kernel) (by decide +kernel)
  | 16, _ => sc_inG 134 (by decide +kernel) (by decide +kernel)
  | n + 17, h => absurd h (by omega)
theorem sc_lays3 : ∀ k, k < 33 → u_lay RX3 TX3 k ∈ sc_G := fun k hk => match k, hk with
  | 0, _ => sc_inG 475 (by decide +kernel) (by decide +kernel)
  | 1, _ => sc_inG 477 (by decide +kernel) (by decide +kernel)
  | 2, _ => sc_inG 479 (by decide +kernel) (by decide +kernel)
  | 3, _ => sc_inG 481 (by decide +kernel) (by decide +kernel)
  | 4, _ => sc_inG 483 (by decide +kernel) (by decide +kernel)
  | 5, _ => sc_inG 485 (by decide +kernel) (by decide +kernel)
  | 6, _ => sc_inG 487 (by decide +kernel) (by decide +kernel)
  | 7, _ => sc_inG 489 (by decide +kernel) (by decide +kernel)
  | 8, _ => sc_inG 491 (by decide +kernel) (by decide +kernel)
  | 9, _ => sc_inG 493 (by decide +kernel) (by decide +kernel)
  | 10, _ => sc_inG 495 (by decide +kernel) (by decide +kernel)
  | 11, _ => sc_inG 497 (by decide +kernel) (by decide +kernel)
  | 12, _ => sc_inG 499 (by decide +kernel) (by decide +kernel)
  | 13, _ => sc_inG 501 (by decide +kernel) (by decide +kernel)
  | 14, _ => sc_inG 503 (by decide +kernel) (by decide +kernel)
  | 15, _ => sc_inG 505 (by decide +kernel) (by decide +kernel)
  | 16, _ => sc_inG 507 (by decide +kernel) (by decide +kernel)
  | 17, _ => sc_inG 509 (by decide +kernel) (by decide +kernel)
  | 18, _ => sc_inG 511 (by decide +kernel) (by decide +kernel)
  | 19, _ => sc_inG 513 (by decide +kernel) (by decide +kernel)
  | 20, _ => sc_inG 515 (by decide +kernel) (by decide +kernel)
  | 21, _ => sc_inG 517 (by decide +kernel) (by decide +kernel)
  | 22, _ => sc_inG 519 (by decide +kernel) (by decide +kernel)
  | 23, _ => sc_inG 521 (by decide +kernel) (by decide +kernel)
  | 24, _ => sc_inG 523 (by decide +kernel) (by decide +kernel)
  | 25, _ => sc_inG 525 (by decide +kernel) (by decide +kernel)
  | 26, _ => sc_inG 527 (by decide +kernel) (by decide +kernel)
  | 27, _ => sc_inG 529 (by decide +kernel) (by decide +kernel)
  | 28, _ => sc_inG 531 (by decide +kernel) (by decide +kernel)
  | 29, _ => sc_inG 533 (by decide +kernel) (by decide +kernel)
  | 30, _ => sc_inG 535 (by decide +kernel) (by decide +kernel)
  | 31, _ => sc_inG 537 (by decide +kernel) (by decide +kernel)
  | 32, _ => sc_inG 539 (by decide +kernel) (by decide +kernel)
  | n + 33, h => absurd h (by omega)
theorem sc_lays {k1 : Nat} (hk1 : k1 < 4) (k : Nat) (hk : k < (sc_cl k1).2.2) : u_lay (sc_cl k1).1 (sc_cl k1).2.1 k ∈ sc_G := by
  rcases (show k1 = 0 ∨ k1 = 1 ∨ k1 = 2 ∨ k1 = 3 by omega) with rfl | rfl | rfl | rfl
  · exact sc_lays0 k hk
  · exact sc_lays1 k hk
  · exact sc_lays2 k hk
  · exact sc_lays3 k hk
def sc_ty0 (k : Nat) : Nat → FieldType := match k with
  | 0 => tyX0 | 1 => tyX1 | 2 => tyX2 | _ => tyX3
theorem sc_ty_ok {k1 : Nat} (hk1 : k1 < 4) : ∀ k, k < (sc_cl k1).2.2 → parseFieldDescriptor ((sc_cl k1).2.1 k).2.2.1 = some (sc_ty0 k1 k) := by
  rcases (show k1 = 0 ∨ k1 = 1 ∨ k1 = 2 ∨ k1 = 3 by omega) with rfl | rfl | rfl | rfl
  · exact tyX0_ok
  · exact tyX1_ok
  · exact tyX2_ok
  · exact tyX3_ok
theorem sc_nm_ok {k1 : Nat} (hk1 : k1 < 4) : ∀ a, a < (sc_cl k1).2.2 → ∀ b, b < (sc_cl k1).2.2 → a ≠ b → ((sc_cl k1).2.1 a).2.1 ≠ ((sc_cl k1).2.1 b).2.1 := by
  rcases (show k1 = 0 ∨ k1 = 1 ∨ k1 = 2 ∨ k1 = 3 by omega) with rfl | rfl | rfl | rfl
  · exact nmX0
  · exact nmX1
  · exact nmX2
  · exact nmX3
def sc_ws (y : MethodName) (cc : ByteArray) (nL : Nat) (rt : Option FieldType) : List Cond := .code y cc nL rt :: sc_G
def sc_room (d : Nat) : Room := { frames := d, cells := 0, slots := 0, locals := 30 * d }
def sc_N (U : State) : Prop := (∀ q ∈ sc_NF, va_Nw (.fieldLinkNest q.1 q.2.1 q.2.2.1 q.2.2.2.1 q.2.2.2.2.1 q.2.2.2.2.2) U) ∧ ∀ q ∈ sc_NM, va_Nw (.methodLinkNest q.1 q.2.1 q.2.2.1 q.2.2.2) U
def sc_KN (dC : Nat → ClassId) (dI : Nat → Nat → Nat) (cA : Nat → ClassId) (U : State) : Prop := va_K (dC, dI) vwCl (sc_tys cA) U ∧ sc_N U
theorem sc_KN_warm {dC : Nat → ClassId} {dI : Nat → Nat → Nat} {cA : Nat → ClassId} {s U : State} (hW : s.WarmedH U.vm) (h : sc_KN dC dI cA s) : sc_KN dC dI cA U :=
  ⟨va_K.moved hW.alike h.1, fun q hq => va_Nw.warmF hW (h.2.1 q hq), fun q hq => va_Nw.warmM hW (h.2.2 q hq)⟩
theorem sc_KN_same {dC : Nat → ClassId} {dI : Nat → Nat → Nat} {cA : Nat → ClassId} {s U : State} (hv : s.vm = U.vm) (h : sc_KN dC dI cA s) : sc_KN dC dI cA U :=
  ⟨va_K.moved (by rw [← hv]; exact Vm.Alike.refl s.vm) h.1, fun q hq => va_Nw.same rfl hv (h.2.1 q hq), fun q hq => va_Nw.same rfl hv (h.2.2 q hq)⟩
def sc_Qc (dC : Nat → ClassId) (dI : Nat → Nat → Nat) (ad : Nat → Nat) (cA : Nat → ClassId) (LP : List Nat) (o : Nat → Int64) (A : Nat → Prop) (Q : sc_RT) : Array Value → State → Outcome → State → Prop := fun _ st oc t => ∃ (r : Option sc_V) (I : sc_I) (D : sc_R), oc = .returned (r.map (sc_tv ad)) ∧ Q r I D ∧ (∀ v, r = some v → sc_ok LP v) ∧ sc_vd LP D ∧ va_P (dC, dI) vwCl (sc_w ad cA LP o I D) t.heap ∧ va_F A st t
def sc_Pc (dC : Nat → ClassId) (dI : Nat → Nat → Nat) (ad : Nat → Nat) (cA : Nat → ClassId) (LP : List Nat) (o : Nat → Int64) (A : Nat → Prop) (as : List sc_V) (I : sc_I) (D : sc_R) : Array Value → State → Prop := va_Pc (as.map (sc_tv ad)) (fun U => sc_KN dC dI cA U ∧ va_P (dC, dI) vwCl (sc_w ad cA LP o I D) U.heap)
def sc_Met (l : Launch) (d : Nat) (dC : Nat → ClassId) (dI : Nat → Nat → Nat) (ad : Nat → Nat) (cA : Nat → ClassId) (LP : List Nat) (o : Nat → Int64) (A : Nat → Prop) (mid : Nat) (as : List sc_V) (I : sc_I) (D : sc_R) (K : sc_RT) : Prop :=
  Met l (sc_y mid) (sc_ws (sc_y mid) (sc_c mid) (sc_nL mid) (sc_rt mid)) (sc_room d) (sc_Pc dC dI ad cA LP o A as I D) (sc_Qc dC dI ad cA LP o A K) 0 0 A
/-- the calls do what they say -/
def sc_CO (l : Launch) (d : Nat) (dC : Nat → ClassId) (dI : Nat → Nat → Nat) (ad : Nat → Nat) (cA : Nat → ClassId) (LP : List Nat) (o : Nat → Int64) (A : Nat → Prop) (C : sc_CT) : Prop := ∀ mid as I D K, mid < sc_nM → C mid as I D K → (∀ v ∈ as, sc_ok LP v) → sc_vd LP D → sc_Met l d dC dI ad cA LP o A mid as I D K
def sc_Cx (l : Launch) (d : Nat) (p : Program) (e : Env) (s : State) (m : MethodId) (args : Array Value) (below : List Frame) (meth : Method) (c : Code) (dC : Nat → ClassId) (dI : Nat → Nat → Nat) (ad : Nat → Nat) (cA : Nat → ClassId) (LP : List Nat) (o : Nat → Int64) (A : Nat → Prop) (y : MethodName) (cc : ByteArray) (nL : Nat) (rt : Option FieldType) : Prop :=
  p.tables.exec = Jvm.exec ∧ c.code = cc ∧ meth.sig.returnType = rt ∧ c.maxLocals = nL ∧ s.vm.findClass y.cls = some m.cls ∧ (∀ w ∈ sc_ws y cc nL rt, w.before args s = true) ∧ meth.locks = false ∧ sc_KN dC dI cA s ∧ (∀ I D, va_D A (sc_w ad cA LP o I D))
def sc_At (l : Launch) (d : Nat) (p : Program) (e : Env) (s : State) (m : MethodId) (args : Array Value) (below : List Frame) (meth : Method) (c : Code) (dC : Nat → ClassId) (dI : Nat → Nat → Nat) (ad : Nat → Nat) (cA : Nat → ClassId) (LP : List Nat) (o : Nat → Int64) (A : Nat → Prop) (Q : sc_RT) (nL pc : Nat) (lv : sc_L) (st : List sc_V) (I : sc_I) (D : sc_R) : Prop :=
  sc_vd LP D → (∀ v ∈ st, sc_ok LP v) → (∀ q ∈ lv, sc_ok LP q.2) → ∀ (H : Heap) (locs : List Loc) (ls : Array Slot), va_P (dC, dI) vwCl (sc_w ad cA LP o I D) H → va_S A s.heap H locs → lv_has ls nL (sc_lm ad lv) →
    W p l e (sc_room (d + 1)) s m args below meth c H locs 0 0 (MQ below (sc_Qc dC dI ad cA LP o A Q) args s 0 0 A) (F0 m pc ls (st.map (sc_tv ad)))
def sc_Snd (y : MethodName) (cc : ByteArray) (nL : Nat) (rt : Option FieldType) (pc nx : Nat) (f : sc_EN) : Prop := ∀ (l : Launch) (d : Nat) (p : Program) (e : Env) (s : State) (m : MethodId) (args : Array Value) (below : List Frame) (meth : Method) (c : Code) (dC : Nat → ClassId) (dI : Nat → Nat → Nat) (ad : Nat → Nat) (cA : Nat → ClassId) (LP : List Nat) (o : Nat → Int64) (A : Nat → Prop) (C : sc_CT) (Q : sc_RT), sc_Cx l d p e s m args below meth c dC dI ad cA LP o A y cc nL rt → sc_CO l d dC dI ad cA LP o A C →
  ∀ (j : Nat → sc_KT) (k : sc_KT), (∀ t lv st I D, j t lv st I D → sc_At l d p e s m args below meth c dC dI ad cA LP o A Q nL t lv st I D) → (∀ lv st I D, k lv st I D → sc_At l d p e s m args below meth c dC dI ad cA LP o A Q nL nx lv st I D) →
  ∀ lv st I D, f C Q j k lv st I D → sc_At l d p e s m args below meth c dC dI ad cA LP o A Q nL pc lv st I D
theorem sc_s_bad {y : MethodName} {cc : ByteArray} {nL : Nat} {rt : Option FieldType} {pc nx : Nat} : sc_Snd y cc nL rt pc nx sc_bad := by
  intro l d p e s m args below meth c dC dI ad cA LP o A C Q hC hO j k hj hk lv st I D hf
  exact hf.elim
section
variable {y : MethodName} {cc : ByteArray} {nL : Nat} {rt : Option FieldType} {pc : Nat}
theorem sc_ok1 {LP : List Nat} {x : Int32} {r : List sc_V} (h : ∀ v ∈ r, sc_ok LP v) : ∀ v ∈ (.inl x : sc_V) :: r, sc_ok LP v := List.forall_mem_cons.mpr ⟨trivial, h⟩
theorem sc_okt {LP : List Nat} {x : sc_V} {r : List sc_V} (h : ∀ v ∈ x :: r, sc_ok LP v) : ∀ v ∈ r, sc_ok LP v := (List.forall_mem_cons.mp h).2
theorem sc_okh {LP : List Nat} {x : sc_V} {r : List sc_V} (h : ∀ v ∈ x :: r, sc_ok LP v) : sc_ok LP x := (List.forall_mem_cons.mp h).1
theorem sc_s_iconst {n : Int} {v : Int32} (h : decode cc pc = .ok (.iconst n, 1)) (hn : Int32.ofInt n = v) : sc_Snd y cc nL rt pc (pc + 1) (sc_cst v) := by
  intro l d p e s m args below meth c dC dI ad cA LP o A C Q hC hO j k hj hk lv st I D hf hv hs hl H locs ls hP hS hls
  obtain ⟨hx, hb, hr, hml, hown, hts, hlk, hKN, hD⟩ := id hC
  exact lv_iconst hx hb h hn (hk _ _ _ _ hf hv (sc_ok1 hs) hl _ _ _ hP hS hls)
theorem sc_s_bipush {n : Int} {v : Int32} (h : decode cc pc = .ok (.bipush n, 2)) (hn : (Int8.ofInt n).toInt32 = v) : sc_Snd y cc nL rt pc (pc + 2) (sc_cst v) := by
  intro l d p e s m args below meth c dC dI ad cA LP o A C Q hC hO j k hj hk lv st I D hf hv hs hl H locs ls hP hS hls
  obtain ⟨hx, hb, hr, hml, hown, hts, hlk, hKN, hD⟩ := id hC
  exact lv_bipush hx hb h hn (hk _ _ _ _ hf hv (sc_ok1 hs) hl _ _ _ hP hS hls)
theorem sc_s_sipush {n : Int} {v : Int32} (h : decode cc pc = .ok (.sipush n, 3)) (hn : (Int16.ofInt n).toInt32 = v) : sc_Snd y cc nL rt pc (pc + 3) (sc_cst v) := by
  intro l d p e s m args below meth c dC dI ad cA LP o A C Q hC hO j k hj hk lv st I D hf hv hs hl H locs ls hP hS hls
  obtain ⟨hx, hb, hr, hml, hown, hts, hlk, hKN, hD⟩ := id hC
  exact lv_sipush hx hb h hn (hk _ _ _ _ hf hv (sc_ok1 hs) hl _ _ _ hP hS hls)
theorem sc_s_iload_n {n : Fin 4} {i : Nat} (h : decode cc pc = .ok (.iload_n n, 1)) (hi : (n : Nat) = i) : sc_Snd y cc nL rt pc (pc + 1) (sc_ldI i) := by
  intro l d p e s m args below meth c dC dI ad cA LP o A C Q hC hO j k hj hk lv st I D hf hv hs hl H locs ls hP hS hls
  obtain ⟨hx, hb, hr, hml, hown, hts, hlk, hKN, hD⟩ := id hC
  obtain ⟨v, hm, hf⟩ := sc_lk_e hf
  rcases v with x | x
  · exact lv_iload_n hx hb h hi (sc_has_at hls hm) (hk _ _ _ _ hf hv (sc_ok1 hs) hl _ _ _ hP hS hls)
  · exact hf.elim
theorem sc_s_iload {i : Nat} (h : decode cc pc = .ok (.iload i, 2)) : sc_Snd y cc nL rt pc (pc + 2) (sc_ldI i) := by
  intro l d p e s m args below meth c dC dI ad cA LP o A C Q hC hO j k hj hk lv st I D hf hv hs hl H locs ls hP hS hls
  obtain ⟨hx, hb, hr, hml, hown, hts, hlk, hKN, hD⟩ := id hC
  obtain ⟨v, hm, hf⟩ := sc_lk_e hf
  rcases v with x | x
  · exact lv_iload hx hb h (sc_has_at hls hm) (hk _ _ _ _ hf hv (sc_ok1 hs) hl _ _ _ hP hS hls)
  · exact hf.elim
theorem sc_s_aload_n {n : Fin 4} {i : Nat} (h : decode cc pc = .ok (.aload_n n, 1)) (hi : (n : Nat) = i) : sc_Snd y cc nL rt pc (pc + 1) (sc_ldA i) := by
  intro l d p e s m args below meth c dC dI ad cA LP o A C Q hC hO j k hj hk lv st I D hf hv hs hl H locs ls hP hS hls
  obtain ⟨hx, hb, hr, hml, hown, hts, hlk, hKN, hD⟩ := id hC
  obtain ⟨v, hm, hf⟩ := sc_lk_e hf
  rcases v with x | x
  · exact hf.elim
  · exact lv_aload_n hx hb h hi (sc_has_at hls hm) (hk _ _ _ _ hf hv (List.forall_mem_cons.mpr ⟨hl _ hm, hs⟩) hl _ _ _ hP hS hls)
theorem sc_ok_set {LP : List Nat} {i : Nat} {v : sc_V} {lv lv' : sc_L} (hl : ∀ q ∈ lv, sc_ok LP q.2) (h : ∀ q ∈ lv', q ∈ lv ∧ q.1 ≠ i) (hv : sc_ok LP v) : ∀ q ∈ (i, v) :: lv', sc_ok LP q.2 := fun q hq => by
  rcases List.mem_cons.mp hq with rfl | hq
  · exact hv
  · exact hl q (h q hq).1
theorem sc_s_istore_n {n : Fin 4} {i : Nat} (h : decode cc pc = .ok (.istore_n n, 1)) (hi : (n : Nat) = i) (hn : i < nL) : sc_Snd y cc nL rt pc (pc + 1) (sc_stI i) := by
  intro l d p e s m args below meth c dC dI ad cA LP o A C Q hC hO j k hj hk lv st I D hf hv hs hl H locs ls hP hS hls
  obtain ⟨hx, hb, hr, hml, hown, hts, hlk, hKN, hD⟩ := id hC
  obtain ⟨x, r, rfl, hf⟩ := sc_p1_e hf
  obtain ⟨lv', hf, hm⟩ := sc_rm_e hf
  exact lv_istore_n hx hb h hi hls hn rfl (fun ls' h' => hk _ _ _ _ hf hv (sc_okt hs) (sc_ok_set hl hm trivial) _ _ _ hP hS (sc_has_set (v := .inl x) h' hm))
theorem sc_s_istore {i : Nat} (h : decode cc pc = .ok (.istore i, 2)) (hn : i < nL) : sc_Snd y cc nL rt pc (pc + 2) (sc_stI i) := by
  intro l d p e s m args below meth c dC dI ad cA LP o A C Q hC hO j k hj hk lv st I D hf hv hs hl H locs ls hP hS hls
  obtain ⟨hx, hb, hr, hml, hown, hts, hlk, hKN, hD⟩ := id hC
  obtain ⟨x, r, rfl, hf⟩ := sc_p1_e hf
  obtain ⟨lv', hf, hm⟩ := sc_rm_e hf
  exact lv_istore hx hb h hls hn rfl (fun ls' h' => hk _ _ _ _ hf hv (sc_okt hs) (sc_ok_set hl hm trivial) _ _ _ hP hS (sc_has_set (v := .inl x) h' hm))
theorem sc_s_astore_n {n : Fin 4} {k1 i : Nat} (h : decode cc pc = .ok (.astore_n n, 1)) (hi : (n : Nat) = i) (hn : i < nL) : sc_Snd y cc nL rt pc (pc + 1) (sc_stA k1 i) := by
  intro l d p e s m args below meth c dC dI ad cA LP o A C Q hC hO j k hj hk lv st I D hf hv hs hl H locs ls hP hS hls
  obtain ⟨hx, hb, hr, hml, hown, hts, hlk, hKN, hD⟩ := id hC
  obtain ⟨x, r, rfl, hg⟩ := sc_pr_e hf
  obtain ⟨lv', hf, hm⟩ := sc_rm_e hg
  exact lv_astore_n hx hb h hi hls hn rfl (fun ls' h' => hk _ _ _ _ hf hv (sc_okt hs) (sc_ok_set hl hm (sc_okh hs)) _ _ _ hP hS (sc_has_set (v := .inr (k1, x)) h' hm))
theorem sc_s_iinc {i : Nat} {n : Int} {v : Int32} (h : decode cc pc = .ok (.iinc i n, 3)) (hv0 : Int32.ofInt n = v) (hn : i < nL) : sc_Snd y cc nL rt pc (pc + 3) (sc_inc i v) := by
  intro l d p e s m args below meth c dC dI ad cA LP o A C Q hC hO j k hj hk lv st I D hf hv hs hl H locs ls hP hS hls
  obtain ⟨hx, hb, hr, hml, hown, hts, hlk, hKN, hD⟩ := id hC
  obtain ⟨w, hm0, hf⟩ := sc_lk_e hf
  rcases w with x | x
  · obtain ⟨lv', hf, hm⟩ := sc_rm_e hf
    have hmm : (i, Value.int x) ∈ sc_lm ad lv := List.mem_map.mpr ⟨(i, .inl x), hm0, rfl⟩
    obtain ⟨q, hq⟩ := List.mem_iff_getElem?.mp hmm
    exact lv_iinc (v := x + v) hx hb h hls hq (by rw [hv0]) hn rfl (fun ls' h' => hk _ _ _ _ hf hv hs (sc_ok_set hl hm trivial) _ _ _ hP hS (sc_has_set (v := .inl (x + v)) h' hm))
  · exact hf.elim
theorem sc_s_iadd (h : decode cc pc = .ok (.iadd, 1)) : sc_Snd y cc nL rt pc (pc + 1) sc_iadd := by
  intro l d p e s m args below meth c dC dI ad cA LP o A C Q hC hO j k hj hk lv st I D hf hv hs hl H locs ls hP hS hls
  obtain ⟨hx, hb, hr, hml, hown, hts, hlk, hKN, hD⟩ := id hC
  obtain ⟨x, y0, r, rfl, hf⟩ := sc_p2_e hf
  exact lv_iadd hx hb h (hk _ _ _ _ hf hv (sc_ok1 (sc_okt (sc_okt hs))) hl _ _ _ hP hS hls)
theorem sc_s_isub (h : decode cc pc = .ok (.isub, 1)) : sc_Snd y cc nL rt pc (pc + 1) sc_isub := by
  intro l d p e s m args below meth c dC dI ad cA LP o A C Q hC hO j k hj hk lv st I D hf hv hs hl H locs ls hP hS hls
  obtain ⟨hx, hb, hr, hml, hown, hts, hlk, hKN, hD⟩ := id hC
  obtain ⟨x, y0, r, rfl, hf⟩ := sc_p2_e hf
  exact lv_isub hx hb h (hk _ _ _ _ hf hv (sc_ok1 (sc_okt (sc_okt hs))) hl _ _ _ hP hS hls)
theorem sc_s_imul (h : decode cc pc = .ok (.imul, 1)) : sc_Snd y cc nL rt pc (pc + 1) sc_imul := by
  intro l d p e s m args below meth c dC dI ad cA LP o A C Q hC hO j k hj hk lv st I D hf hv hs hl H locs ls hP hS hls
  obtain ⟨hx, hb, hr, hml, hown, hts, hlk, hKN, hD⟩ := id hC
  obtain ⟨x, y0, r, rfl, hf⟩ := sc_p2_e hf
  exact lv_imul hx hb h (hk _ _ _ _ hf hv (sc_ok1 (sc_okt (sc_okt hs))) hl _ _ _ hP hS hls)
theorem sc_s_iand (h : decode cc pc = .ok (.iand, 1)) : sc_Snd y cc nL rt pc (pc + 1) sc_iand := by
  intro l d p e s m args below meth c dC dI ad cA LP o A C Q hC hO j k hj hk lv st I D hf hv hs hl H locs ls hP hS hls
  obtain ⟨hx, hb, hr, hml, hown, hts, hlk, hKN, hD⟩ := id hC
  obtain ⟨x, y0, r, rfl, hf⟩ := sc_p2_e hf
  exact lv_iand hx hb h (hk _ _ _ _ hf hv (sc_ok1 (sc_okt (sc_okt hs))) hl _ _ _ hP hS hls)
theorem sc_s_ior (h : decode cc pc = .ok (.ior, 1)) : sc_Snd y cc nL rt pc (pc + 1) sc_ior := by
  intro l d p e s m args below meth c dC dI ad cA LP o A C Q hC hO j k hj hk lv st I D hf hv hs hl H locs ls hP hS hls
  obtain ⟨hx, hb, hr, hml, hown, hts, hlk, hKN, hD⟩ := id hC
  obtain ⟨x, y0, r, rfl, hf⟩ := sc_p2_e hf
  exact lv_ior hx hb h (hk _ _ _ _ hf hv (sc_ok1 (sc_okt (sc_okt hs))) hl _ _ _ hP hS hls)
theorem sc_s_ixor (h : decode cc pc = .ok (.ixor, 1)) : sc_Snd y cc nL rt pc (pc + 1) sc_ixor := by
  intro l d p e s m args below meth c dC dI ad cA LP o A C Q hC hO j k hj hk lv st I D hf hv hs hl H locs ls hP hS hls
  obtain ⟨hx, hb, hr, hml, hown, hts, hlk, hKN, hD⟩ := id hC
  obtain ⟨x, y0, r, rfl, hf⟩ := sc_p2_e hf
  exact lv_ixor hx hb h (hk _ _ _ _ hf hv (sc_ok1 (sc_okt (sc_okt hs))) hl _ _ _ hP hS hls)
theorem sc_s_ishl (h : decode cc pc = .ok (.ishl, 1)) : sc_Snd y cc nL rt pc (pc + 1) sc_ishl := by
  intro l d p e s m args below meth c dC dI ad cA LP o A C Q hC hO j k hj hk lv st I D hf hv hs hl H locs ls hP hS hls
  obtain ⟨hx, hb, hr, hml, hown, hts, hlk, hKN, hD⟩ := id hC
  obtain ⟨x, y0, r, rfl, hf⟩ := sc_p2_e hf
  exact lv_ishl hx hb h (hk _ _ _ _ hf hv (sc_ok1 (sc_okt (sc_okt hs))) hl _ _ _ hP hS hls)
theorem sc_s_idiv (h : decode cc pc = .ok (.idiv, 1)) : sc_Snd y cc nL rt pc (pc + 1) sc_idiv := by
  intro l d p e s m args below meth c dC dI ad cA LP o A C Q hC hO j k hj hk lv st I D hf hv hs hl H locs ls hP hS hls
  obtain ⟨hx, hb, hr, hml, hown, hts, hlk, hKN, hD⟩ := id hC
  obtain ⟨x, y0, r, rfl, hne, hf⟩ := sc_p2_e hf
  exact lv_idiv hx hb h hne (hk _ _ _ _ hf hv (sc_ok1 (sc_okt (sc_okt hs))) hl _ _ _ hP hS hls)
theorem sc_s_irem (h : decode cc pc = .ok (.irem, 1)) : sc_Snd y cc nL rt pc (pc + 1) sc_irem := by
  intro l d p e s m args below meth c dC dI ad cA LP o A C Q hC hO j k hj hk lv st I D hf hv hs hl H locs ls hP hS hls
  obtain ⟨hx, hb, hr, hml, hown, hts, hlk, hKN, hD⟩ := id hC
  obtain ⟨x, y0, r, rfl, hne, hf⟩ := sc_p2_e hf
  exact lv_irem hx hb h hne (hk _ _ _ _ hf hv (sc_ok1 (sc_okt (sc_okt hs))) hl _ _ _ hP hS hls)
theorem sc_s_goto {off : Int} {t nx : Nat} (h : decode cc pc = .ok (.goto off, 3)) (ht : (pc : Int) + off = (t : Int)) : sc_Snd y cc nL rt pc nx (sc_goto t) := by
  intro l d p e s m args below meth c dC dI ad cA LP o A C Q hC hO j k hj hk lv st I D hf hv hs hl H locs ls hP hS hls
  obtain ⟨hx, hb, hr, hml, hown, hts, hlk, hKN, hD⟩ := id hC
  exact lv_goto hx hb h ht (hj _ _ _ _ _ hf hv hs hl _ _ _ hP hS hls)
theorem sc_s_dup (h : decode cc pc = .ok (.dup, 1)) : sc_Snd y cc nL rt pc (pc + 1) sc_dup := by
  intro l d p e s m args below meth c dC dI ad cA LP o A C Q hC hO j k hj hk lv st I D hf hv hs hl H locs ls hP hS hls
  obtain ⟨hx, hb, hr, hml, hown, hts, hlk, hKN, hD⟩ := id hC
  match st, hf, hs with
  | v :: r, hf, hs => exact lv_dup hx hb h (sc_tv_cat ad v) (hk _ _ _ _ hf hv (List.forall_mem_cons.mpr ⟨sc_okh hs, hs⟩) hl _ _ _ hP hS hls)
theorem sc_s_if_eq {off : Int} {t : Nat} (h : decode cc pc = .ok (.ifCond .eq off, 3)) (ht : (pc : Int) + off = (t : Int)) : sc_Snd y cc nL rt pc (pc + 3) (sc_if_eq t) := by
  intro l d p e s m args below meth c dC dI ad cA LP o A C Q hC hO j k hj hk lv st I D hf hv hs hl H locs ls hP hS hls
  obtain ⟨hx, hb, hr, hml, hown, hts, hlk, hKN, hD⟩ := id hC
  obtain ⟨x, r, rfl, hf⟩ := sc_p1_e hf
  exact lv_if_eq hx hb h ht (fun z => hj _ _ _ _ _ (hf.1 z) hv (sc_okt hs) hl _ _ _ hP hS hls) (fun z => hk _ _ _ _ (hf.2 z) hv (sc_okt hs) hl _ _ _ hP hS hls)
theorem sc_s_if_ne {off : Int} {t : Nat} (h : decode cc pc = .ok (.ifCond .ne off, 3)) (ht : (pc : Int) + off = (t : Int)) : sc_Snd y cc nL rt pc (pc + 3) (sc_if_ne t) := by
  intro l d p e s m args below meth c dC dI ad cA LP o A C Q hC hO j k hj hk lv st I D hf hv hs hl H locs ls hP hS hls
  obtain ⟨hx, hb, hr, hml, hown, hts, hlk, hKN, hD⟩ := id hC
  obtain ⟨x, r, rfl, hf⟩ := sc_p1_e hf
  exact lv_if_ne hx hb h ht (fun z => hj _ _ _ _ _ (hf.2 z) hv (sc_okt hs) hl _ _ _ hP hS hls) (fun z => hk _ _ _ _ (hf.1 z) hv (sc_okt hs) hl _ _ _ hP hS hls)
theorem sc_s_if_lt {off : Int} {t : Nat} (h : decode cc pc = .ok (.ifCond .lt off, 3)) (ht : (pc : Int) + off = (t : Int)) : sc_Snd y cc nL rt pc (pc + 3) (sc_if_lt t) := by
  intro l d p e s m args below meth c dC dI ad cA LP o A C Q hC hO j k hj hk lv st I D hf hv hs hl H locs ls hP hS hls
  obtain ⟨hx, hb, hr, hml, hown, hts, hlk, hKN, hD⟩ := id hC
  obtain ⟨x, r, rfl, hf⟩ := sc_p1_e hf
  exact lv_if_lt hx hb h ht (fun z => hj _ _ _ _ _ (hf.1 z) hv (sc_okt hs) hl _ _ _ hP hS hls) (fun z => hk _ _ _ _ (hf.2 z) hv (sc_okt hs) hl _ _ _ hP hS hls)
theorem sc_s_if_ge {off : Int} {t : Nat} (h : decode cc pc = .ok (.ifCond .ge off, 3)) (ht : (pc : Int) + off = (t : Int)) : sc_Snd y cc nL rt pc (pc + 3) (sc_if_ge t) := by
  intro l d p e s m args below meth c dC dI ad cA LP o A C Q hC hO j k hj hk lv st I D hf hv hs hl H locs ls hP hS hls
  obtain ⟨hx, hb, hr, hml, hown, hts, hlk, hKN, hD⟩ := id hC
  obtain ⟨x, r, rfl, hf⟩ := sc_p1_e hf
  exact lv_if_ge hx hb h ht (fun z => hj _ _ _ _ _ (hf.1 z) hv (sc_okt hs) hl _ _ _ hP hS hls) (fun z => hk _ _ _ _ (hf.2 z) hv (sc_okt hs) hl _ _ _ hP hS hls)
theorem sc_s_if_gt {off : Int} {t : Nat} (h : decode cc pc = .ok (.ifCond .gt off, 3)) (ht : (pc : Int) + off = (t : Int)) : sc_Snd y cc nL rt pc (pc + 3) (sc_if_gt t) := by
  intro l d p e s m args below meth c dC dI ad cA LP o A C Q hC hO j k hj hk lv st I D hf hv hs hl H locs ls hP hS hls
  obtain ⟨hx, hb, hr, hml, hown, hts, hlk, hKN, hD⟩ := id hC
  obtain ⟨x, r, rfl, hf⟩ := sc_p1_e hf
  exact lv_if_gt hx hb h ht (fun z => hj _ _ _ _ _ (hf.1 z) hv (sc_okt hs) hl _ _ _ hP hS hls) (fun z => hk _ _ _ _ (hf.2 z) hv (sc_okt hs) hl _ _ _ hP hS hls)
theorem sc_s_if_le {off : Int} {t : Nat} (h : decode cc pc = .ok (.ifCond .le off, 3)) (ht : (pc : Int) + off = (t : Int)) : sc_Snd y cc nL rt pc (pc + 3) (sc_if_le t) := by
  intro l d p e s m args below meth c dC dI ad cA LP o A C Q hC hO j k hj hk lv st I D hf hv hs hl H locs ls hP hS hls
  obtain ⟨hx, hb, hr, hml, hown, hts, hlk, hKN, hD⟩ := id hC
  obtain ⟨x, r, rfl, hf⟩ := sc_p1_e hf
  exact lv_if_le hx hb h ht (fun z => hj _ _ _ _ _ (hf.1 z) hv (sc_okt hs) hl _ _ _ hP hS hls) (fun z => hk _ _ _ _ (hf.2 z) hv (sc_okt hs) hl _ _ _ hP hS hls)
theorem sc_s_icmp_eq {off : Int} {t : Nat} (h : decode cc pc = .ok (.if_icmp .eq off, 3)) (ht : (pc : Int) + off = (t : Int)) : sc_Snd y cc nL rt pc (pc + 3) (sc_ic_eq t) := by
  intro l d p e s m args below meth c dC dI ad cA LP o A C Q hC hO j k hj hk lv st I D hf hv hs hl H locs ls hP hS hls
  obtain ⟨hx, hb, hr, hml, hown, hts, hlk, hKN, hD⟩ := id hC
  obtain ⟨x, y0, r, rfl, hf⟩ := sc_p2_e hf
  exact lv_icmp_eq hx hb h ht (fun z => hj _ _ _ _ _ (hf.1 z) hv (sc_okt (sc_okt hs)) hl _ _ _ hP hS hls) (fun z => hk _ _ _ _ (hf.2 z) hv (sc_okt (sc_okt hs)) hl _ _ _ hP hS hls)
theorem sc_s_icmp_ne {off : Int} {t : Nat} (h : decode cc pc = .ok (.if_icmp .ne off, 3)) (ht : (pc : Int) + off = (t : Int)) : sc_Snd y cc nL rt pc (pc + 3) (sc_ic_ne t) := by
  intro l d p e s m args below meth c dC dI ad cA LP o A C Q hC hO j k hj hk lv st I D hf hv hs hl H locs ls hP hS hls
  obtain ⟨hx, hb, hr, hml, hown, hts, hlk, hKN, hD⟩ := id hC
  obtain ⟨x, y0, r, rfl, hf⟩ := sc_p2_e hf
  exact lv_icmp_ne hx hb h ht (fun z => hj _ _ _ _ _ (hf.2 z) hv (sc_okt (sc_okt hs)) hl _ _ _ hP hS hls) (fun z => hk _ _ _ _ (hf.1 z) hv (sc_okt (sc_okt hs)) hl _ _ _ hP hS hls)
theorem sc_s_icmp_lt {off : Int} {t : Nat} (h : decode cc pc = .ok (.if_icmp .lt off, 3)) (ht : (pc : Int) + off = (t : Int)) : sc_Snd y cc nL rt pc (pc + 3) (sc_ic_lt t) := by
  intro l d p e s m args below meth c dC dI ad cA LP o A C Q hC hO j k hj hk lv st I D hf hv hs hl H locs ls hP hS hls
  obtain ⟨hx, hb, hr, hml, hown, hts, hlk, hKN, hD⟩ := id hC
  obtain ⟨x, y0, r, rfl, hf⟩ := sc_p2_e hf
  exact lv_icmp_lt hx hb h ht (fun z => hj _ _ _ _ _ (hf.1 z) hv (sc_okt (sc_okt hs)) hl _ _ _ hP hS hls) (fun z => hk _ _ _ _ (hf.2 z) hv (sc_okt (sc_okt hs)) hl _ _ _ hP hS hls)
theorem sc_s_icmp_ge {off : Int} {t : Nat} (h : decode cc pc = .ok (.if_icmp .ge off, 3)) (ht : (pc : Int) + off = (t : Int)) : sc_Snd y cc nL rt pc (pc + 3) (sc_ic_ge t) := by
  intro l d p e s m args below meth c dC dI ad cA LP o A C Q hC hO j k hj hk lv st I D hf hv hs hl H locs ls hP hS hls
  obtain ⟨hx, hb, hr, hml, hown, hts, hlk, hKN, hD⟩ := id hC
  obtain ⟨x, y0, r, rfl, hf⟩ := sc_p2_e hf
  exact lv_icmp_ge hx hb h ht (fun z => hj _ _ _ _ _ (hf.1 z) hv (sc_okt (sc_okt hs)) hl _ _ _ hP hS hls) (fun z => hk _ _ _ _ (hf.2 z) hv (sc_okt (sc_okt hs)) hl _ _ _ hP hS hls)
theorem sc_s_icmp_gt {off : Int} {t : Nat} (h : decode cc pc = .ok (.if_icmp .gt off, 3)) (ht : (pc : Int) + off = (t : Int)) : sc_Snd y cc nL rt pc (pc + 3) (sc_ic_gt t) := by
  intro l d p e s m args below meth c dC dI ad cA LP o A C Q hC hO j k hj hk lv st I D hf hv hs hl H locs ls hP hS hls
  obtain ⟨hx, hb, hr, hml, hown, hts, hlk, hKN, hD⟩ := id hC
  obtain ⟨x, y0, r, rfl, hf⟩ := sc_p2_e hf
  exact lv_icmp_gt hx hb h ht (fun z => hj _ _ _ _ _ (hf.1 z) hv (sc_okt (sc_okt hs)) hl _ _ _ hP hS hls) (fun z => hk _ _ _ _ (hf.2 z) hv (sc_okt (sc_okt hs)) hl _ _ _ hP hS hls)
theorem sc_s_icmp_le {off : Int} {t : Nat} (h : decode cc pc = .ok (.if_icmp .le off, 3)) (ht : (pc : Int) + off = (t : Int)) : sc_Snd y cc nL rt pc (pc + 3) (sc_ic_le t) := by
  intro l d p e s m args below meth c dC dI ad cA LP o A C Q hC hO j k hj hk lv st I D hf hv hs hl H locs ls hP hS hls
  obtain ⟨hx, hb, hr, hml, hown, hts, hlk, hKN, hD⟩ := id hC
  obtain ⟨x, y0, r, rfl, hf⟩ := sc_p2_e hf
  exact lv_icmp_le hx hb h ht (fun z => hj _ _ _ _ _ (hf.1 z) hv (sc_okt (sc_okt hs)) hl _ _ _ hP hS hls) (fun z => hk _ _ _ _ (hf.2 z) hv (sc_okt (sc_okt hs)) hl _ _ _ hP hS hls)
theorem sc_fx_ok {LP : List Nat} {k1 s1 k2 i2 : Nat} (h : sc_fx k1 s1 = some (k2, some i2)) : sc_ok LP (.inr (k2, i2)) := by
  unfold sc_fx at h
  split at h <;> (try split at h) <;> first
    | (cases h; done)
    | (simp only [Option.some.injEq, Prod.mk.injEq, reduceCtorEq, and_false] at h; done)
    | (simp only [Option.some.injEq, Prod.mk.injEq] at h
       obtain ⟨rfl, rfl⟩ := h
       first | exact (rfl : 0 = 0) | (show (_ : Nat) < 23; decide))
theorem sc_fx_dyn {LP : List Nat} {D : sc_R} {k1 i s1 k2 : Nat} (h : sc_fx k1 s1 = some (k2, none)) (hok : sc_ok LP (.inr (k1, i))) (hv : sc_vd LP D) : sc_ok LP (.inr (k2, D k1 i s1)) := by
  unfold sc_fx at h
  split at h
  · split at h
    · simp only [Option.some.injEq, Prod.mk.injEq, and_true] at h
      subst h
      exact hv.1 i hok
    · cases h
  · split at h
    · simp only [Option.some.injEq, Prod.mk.injEq, and_true] at h
      subst h
      have hi : i = 0 := hok
      subst hi
      exact hv.2.2.2
    all_goals (simp only [Option.some.injEq, Prod.mk.injEq, reduceCtorEq, and_false] at h)
  · split at h <;> (simp only [Option.some.injEq, Prod.mk.injEq, reduceCtorEq, and_false] at h)
  · cases h
theorem sc_got {LP : List Nat} {ad : Nat → Nat} {I : sc_I} {D : sc_R} {k1 i s1 : Nat} {K : sc_V → Prop} (hok : sc_ok LP (.inr (k1, i))) (hv : sc_vd LP D) (hf : match sc_fx k1 s1 with
  | none => K (.inl (I k1 i s1))
  | some (k2, some i2) => K (.inr (k2, i2))
  | some (k2, none) => K (.inr (k2, D k1 i s1))) : ∃ v, sc_fw ad k1 s1 (I k1 i) (D k1 i) = sc_tv ad v ∧ K v ∧ sc_ok LP v := by
  unfold sc_fw
  split at hf
  · rename_i hx
    rw [hx]
    exact ⟨_, rfl, hf, trivial⟩
  · rename_i k2 i2 hx
    rw [hx]
    exact ⟨_, rfl, hf, sc_fx_ok hx⟩
  · rename_i k2 hx
    rw [hx]
    exact ⟨_, rfl, hf, sc_fx_dyn hx hok hv⟩
theorem sc_in {k1 : Nat} (hk1 : k1 < 4) : ∀ w ∈ u_ws (sc_cl k1).1 (sc_cl k1).2.1 (sc_cl k1).2.2, w ∈ sc_ws y cc nL rt := by
  intro w hw
  obtain ⟨k, hk, rfl⟩ := List.mem_map.mp hw
  have hk := List.mem_range.mp hk
  exact List.mem_cons_of_mem _ (sc_lays hk1 k hk)
theorem sc_s_get {idx k1 s1 : Nat} (h : decode cc pc = .ok (.getfield idx, 3)) (hk1 : k1 < 4) (hs1 : s1 < sc_nf k1) (hw : Cond.fieldLink y.cls idx ((sc_cl k1).2.1 s1).1 ((sc_cl k1).2.1 s1).2.1 ((sc_cl k1).2.1 s1).2.2.1 ∈ sc_G) : sc_Snd y cc nL rt pc (pc + 3) (sc_get k1 s1) := by
  intro l d p e s m args below meth c dC dI ad cA LP o A C Q hC hO j k hj hk lv st I D hf hv hs hl H locs ls hP hS hls
  obtain ⟨hx, hb, hr, hml, hown, hts, hlk, hKN, hD⟩ := id hC
  obtain ⟨i, r, rfl, hg⟩ := sc_pr_e hf
  obtain ⟨q0, he⟩ := sc_objx (ad := ad) (cA := cA) (o := o) (I := I) (D := D) hk1 (sc_okh hs)
  refine va_get (D := (dC, dI)) (C := (sc_cl k1).1) (T := (sc_cl k1).2.1) (N := (sc_cl k1).2.2) hx hb hts (sc_in hk1) hown hKN.1 hP q0 he (sc_cl_at hk1) s1 (by rw [sc_cl_n hk1]; exact hs1) (hts _ (List.mem_cons_of_mem _ hw)) (fun _ h9 => h9) (sc_tab_get hs1) h ?_
  obtain ⟨v, e1, hf, hok⟩ := sc_got (K := fun v => k lv (v :: r) I D) (ad := ad) (sc_okh hs) hv hg
  rw [e1]
  exact hk _ _ _ _ hf hv (List.forall_mem_cons.mpr ⟨hok, sc_okt hs⟩) hl _ _ _ hP hS hls
theorem sc_s_getN {idx k1 s1 : Nat} {host : String} (h : decode cc pc = .ok (.getfield idx, 3)) (hk1 : k1 < 4) (hs1 : s1 < sc_nf k1) (hw : (y.cls, idx, ((sc_cl k1).2.1 s1).1, ((sc_cl k1).2.1 s1).2.1, ((sc_cl k1).2.1 s1).2.2.1, host) ∈ sc_NF) : sc_Snd y cc nL rt pc (pc + 3) (sc_get k1 s1) := by
  intro l d p e s m args below meth c dC dI ad cA LP o A C Q hC hO j k hj hk lv st I D hf hv hs hl H locs ls hP hS hls
  obtain ⟨hx, hb, hr, hml, hown, hts, hlk, hKN, hD⟩ := id hC
  obtain ⟨i, r, rfl, hg⟩ := sc_pr_e hf
  obtain ⟨q0, he⟩ := sc_objx (ad := ad) (cA := cA) (o := o) (I := I) (D := D) hk1 (sc_okh hs)
  refine va_getN (D := (dC, dI)) (C := (sc_cl k1).1) (T := (sc_cl k1).2.1) (N := (sc_cl k1).2.2) hx hb hts (sc_in hk1) hown hKN.1 hP q0 he (sc_cl_at hk1) s1 (by rw [sc_cl_n hk1]; exact hs1) (va_Nw.use rfl (hKN.2.1 _ hw)) (fun _ h9 => h9) (sc_tab_get hs1) h ?_
  obtain ⟨v, e1, hf, hok⟩ := sc_got (K := fun v => k lv (v :: r) I D) (ad := ad) (sc_okh hs) hv hg
  rw [e1]
  exact hk _ _ _ _ hf hv (List.forall_mem_cons.mpr ⟨hok, sc_okt hs⟩) hl _ _ _ hP hS hls
theorem sc_k4 {k1 : Nat} (h : k1 = 0 ∨ k1 = 2 ∨ k1 = 3) : k1 < 4 := by omega
theorem sc_s_putI {idx k1 s1 : Nat} (h : decode cc pc = .ok (.putfield idx, 3)) (hk1 : k1 = 0 ∨ k1 = 2 ∨ k1 = 3) (hs1 : s1 < sc_nf k1) (hfx : sc_fx k1 s1 = none) (hfin : ((sc_cl k1).2.1 s1).2.2.2 = false) (hty : parseFieldDescriptor ((sc_cl k1).2.1 s1).2.2.1 = some .int) (hw : Cond.fieldLink y.cls idx ((sc_cl k1).2.1 s1).1 ((sc_cl k1).2.1 s1).2.1 ((sc_cl k1).2.1 s1).2.2.1 ∈ sc_G) : sc_Snd y cc nL rt pc (pc + 3) (sc_putI k1 s1) := by
  intro l d p e s m args below meth c dC dI ad cA LP o A C Q hC hO j k hj hk lv st I D hf hv hs hl H locs ls hP hS hls
  obtain ⟨hx, hb, hr, hml, hown, hts, hlk, hKN, hD⟩ := id hC
  obtain ⟨x, i, r, rfl, hg⟩ := sc_pri_e hf
  have hok := sc_okh (sc_okt hs)
  obtain ⟨hp, he⟩ := sc_obj (ad := ad) (cA := cA) (o := o) (I := I) (D := D) hk1 hok
  refine va_put (D := (dC, dI)) (v := .int x) (ty := .int) (C := (sc_cl k1).1) (T := (sc_cl k1).2.1) (N := (sc_cl k1).2.2) hx hb hts (sc_in (sc_k4 hk1)) (sc_ty0 k1) (sc_ty_ok (sc_k4 hk1)) (sc_nm_ok (sc_k4 hk1)) hown hKN.1 hP (hD I D) hS (sc_pl k1 i) he (sc_cl_at (sc_k4 hk1)) s1 (by rw [sc_cl_n (sc_k4 hk1)]; exact hs1) (hts _ (List.mem_cons_of_mem _ hw)) (fun _ h9 => h9) hfin hty rfl rfl (by rw [sc_tab_len]; exact hs1) h (fun H1 locs1 hP hD1 hS => ?_)
  rw [sc_w_putI hk1 hok hfx] at hP
  exact hk _ _ _ _ hg hv (sc_okt (sc_okt hs)) hl _ _ _ hP hS hls
theorem sc_nz {x : Int32} (h : x = 0 ∨ x = 1) : narrow .boolean (.int x) = .int x ∧ fits .boolean (.int x) = true ∧ vp_nar .boolean x = x := by
  rcases h with rfl | rfl
  · exact ⟨rfl, rfl, rfl⟩
  · exact ⟨rfl, rfl, rfl⟩
theorem sc_s_putZ {idx k1 s1 : Nat} (h : decode cc pc = .ok (.putfield idx, 3)) (hk1 : k1 = 0 ∨ k1 = 2 ∨ k1 = 3) (hs1 : s1 < sc_nf k1) (hfx : sc_fx k1 s1 = none) (hfin : ((sc_cl k1).2.1 s1).2.2.2 = false) (hty : parseFieldDescriptor ((sc_cl k1).2.1 s1).2.2.1 = some .boolean) (hw : Cond.fieldLink y.cls idx ((sc_cl k1).2.1 s1).1 ((sc_cl k1).2.1 s1).2.1 ((sc_cl k1).2.1 s1).2.2.1 ∈ sc_G) : sc_Snd y cc nL rt pc (pc + 3) (sc_putZ k1 s1) := by
  intro l d p e s m args below meth c dC dI ad cA LP o A C Q hC hO j k hj hk lv st I D hf hv hs hl H locs ls hP hS hls
  obtain ⟨hx, hb, hr, hml, hown, hts, hlk, hKN, hD⟩ := id hC
  obtain ⟨x, i, r, rfl, hz, hf⟩ := sc_pri_e hf
  have hok := sc_okh (sc_okt hs)
  obtain ⟨hp, he⟩ := sc_obj (ad := ad) (cA := cA) (o := o) (I := I) (D := D) hk1 hok
  refine va_put (D := (dC, dI)) (v := .int x) (ty := .boolean) (C := (sc_cl k1).1) (T := (sc_cl k1).2.1) (N := (sc_cl k1).2.2) hx hb hts (sc_in (sc_k4 hk1)) (sc_ty0 k1) (sc_ty_ok (sc_k4 hk1)) (sc_nm_ok (sc_k4 hk1)) hown hKN.1 hP (hD I D) hS (sc_pl k1 i) he (sc_cl_at (sc_k4 hk1)) s1 (by rw [sc_cl_n (sc_k4 hk1)]; exact hs1) (hts _ (List.mem_cons_of_mem _ hw)) (fun _ h9 => h9) hfin hty (sc_nz hz).1 (sc_nz hz).2.1 (by rw [sc_tab_len]; exact hs1) h (fun H1 locs1 hP hD1 hS => ?_)
  rw [sc_w_putI hk1 hok hfx] at hP
  exact hk _ _ _ _ hf hv (sc_okt (sc_okt hs)) hl _ _ _ hP hS hls
theorem sc_s_putIN {idx k1 s1 : Nat} {host : String} (h : decode cc pc = .ok (.putfield idx, 3)) (hk1 : k1 = 0 ∨ k1 = 2 ∨ k1 = 3) (hs1 : s1 < sc_nf k1) (hfx : sc_fx k1 s1 = none) (hfin : ((sc_cl k1).2.1 s1).2.2.2 = false) (hty : parseFieldDescriptor ((sc_cl k1).2.1 s1).2.2.1 = some .int) (hw : (y.cls, idx, ((sc_cl k1).2.1 s1).1, ((sc_cl k1).2.1 s1).2.1, ((sc_cl k1).2.1 s1).2.2.1, host) ∈ sc_NF) : sc_Snd y cc nL rt pc (pc + 3) (sc_putI k1 s1) := by
  intro l d p e s m args below meth c dC dI ad cA LP o A C Q hC hO j k hj hk lv st I D hf hv hs hl H locs ls hP hS hls
  obtain ⟨hx, hb, hr, hml, hown, hts, hlk, hKN, hD⟩ := id hC
  obtain ⟨x, i, r, rfl, hg⟩ := sc_pri_e hf
  have hok := sc_okh (sc_okt hs)
  obtain ⟨hp, he⟩ := sc_obj (ad := ad) (cA := cA) (o := o) (I := I) (D := D) hk1 hok
  refine va_putN (D := (dC, dI)) (v := .int x) (ty := .int) (C := (sc_cl k1).1) (T := (sc_cl k1).2.1) (N := (sc_cl k1).2.2) hx hb hts (sc_in (sc_k4 hk1)) (sc_ty0 k1) (sc_ty_ok (sc_k4 hk1)) (sc_nm_ok (sc_k4 hk1)) hown hKN.1 hP (hD I D) hS (sc_pl k1 i) he (sc_cl_at (sc_k4 hk1)) s1 (by rw [sc_cl_n (sc_k4 hk1)]; exact hs1) (va_Nw.use rfl (hKN.2.1 _ hw)) (fun _ h9 => h9) hfin hty rfl rfl (by rw [sc_tab_len]; exact hs1) h (fun H1 locs1 hP hD1 hS => ?_)
  rw [sc_w_putI hk1 hok hfx] at hP
  exact hk _ _ _ _ hg hv (sc_okt (sc_okt hs)) hl _ _ _ hP hS hls
theorem sc_s_putZN {idx k1 s1 : Nat} {host : String} (h : decode cc pc = .ok (.putfield idx, 3)) (hk1 : k1 = 0 ∨ k1 = 2 ∨ k1 = 3) (hs1 : s1 < sc_nf k1) (hfx : sc_fx k1 s1 = none) (hfin : ((sc_cl k1).2.1 s1).2.2.2 = false) (hty : parseFieldDescriptor ((sc_cl k1).2.1 s1).2.2.1 = some .boolean) (hw : (y.cls, idx, ((sc_cl k1).2.1 s1).1, ((sc_cl k1).2.1 s1).2.1, ((sc_cl k1).2.1 s1).2.2.1, host) ∈ sc_NF) : sc_Snd y cc nL rt pc (pc + 3) (sc_putZ k1 s1) := by
  intro l d p e s m args below meth c dC dI ad cA LP o A C Q hC hO j k hj hk lv st I D hf hv hs hl H locs ls hP hS hls
  obtain ⟨hx, hb, hr, hml, hown, hts, hlk, hKN, hD⟩ := id hC
  obtain ⟨x, i, r, rfl, hz, hf⟩ := sc_pri_e hf
  have hok := sc_okh (sc_okt hs)
  obtain ⟨hp, he⟩ := sc_obj (ad := ad) (cA := cA) (o := o) (I := I) (D := D) hk1 hok
  refine va_putN (D := (dC, dI)) (v := .int x) (ty := .boolean) (C := (sc_cl k1).1) (T := (sc_cl k1).2.1) (N := (sc_cl k1).2.2) hx hb hts (sc_in (sc_k4 hk1)) (sc_ty0 k1) (sc_ty_ok (sc_k4 hk1)) (sc_nm_ok (sc_k4 hk1)) hown hKN.1 hP (hD I D) hS (sc_pl k1 i) he (sc_cl_at (sc_k4 hk1)) s1 (by rw [sc_cl_n (sc_k4 hk1)]; exact hs1) (va_Nw.use rfl (hKN.2.1 _ hw)) (fun _ h9 => h9) hfin hty (sc_nz hz).1 (sc_nz hz).2.1 (by rw [sc_tab_len]; exact hs1) h (fun H1 locs1 hP hD1 hS => ?_)
  rw [sc_w_putI hk1 hok hfx] at hP
  exact hk _ _ _ _ hf hv (sc_okt (sc_okt hs)) hl _ _ _ hP hS hls
theorem sc_vd_putN {LP : List Nat} {D : sc_R} {i a : Nat} (hv : sc_vd LP D) (ha : a ∈ LP) : sc_vd LP (sc_u D 0 i 1 a) := by
  refine ⟨fun f hf => ?_, fun f hf => ?_, fun f hf => ?_, ?_⟩
  · by_cases e : f = i
    · subst e
      rw [sc_u_at, va_up_self]
      exact ha
    · rw [sc_u_row _ _ _ _ _ (fun z => e z.2)]
      exact hv.1 f hf
  · rw [sc_u_row _ _ _ _ _ (fun z => by cases z.1)]; exact hv.2.1 f hf
  · rw [sc_u_row _ _ _ _ _ (fun z => by cases z.1)]; exact hv.2.2.1 f hf
  · rw [sc_u_row _ _ _ _ _ (fun z => by cases z.1)]; exact hv.2.2.2
theorem sc_s_putN {idx : Nat} {host : String} (h : decode cc pc = .ok (.putfield idx, 3)) (hw : (y.cls, idx, ((sc_cl 0).2.1 1).1, ((sc_cl 0).2.1 1).2.1, ((sc_cl 0).2.1 1).2.2.1, host) ∈ sc_NF) : sc_Snd y cc nL rt pc (pc + 3) sc_putN := by
  intro l d p e s m args below meth c dC dI ad cA LP o A C Q hC hO j k hj hk lv st I D hf hv hs hl H locs ls hP hS hls
  obtain ⟨hx, hb, hr, hml, hown, hts, hlk, hKN, hD⟩ := id hC
  obtain ⟨a, i, r, rfl, hg⟩ := sc_prr_e hf
  have hok := sc_okh (sc_okt hs)
  have hoa : a ∈ LP := sc_okh hs
  obtain ⟨hp, he⟩ := sc_obj (ad := ad) (cA := cA) (o := o) (I := I) (D := D) (Or.inl rfl) hok
  refine va_putN (D := (dC, dI)) (v := .ref (sc_ad ad 1 a)) (ty := .object "StageChip$Instruction") (C := (sc_cl 0).1) (T := (sc_cl 0).2.1) (N := (sc_cl 0).2.2) hx hb hts (sc_in (by decide)) (sc_ty0 0) (sc_ty_ok (by decide)) (sc_nm_ok (by decide)) hown hKN.1 hP (hD I D) hS (sc_pl 0 i) he (sc_cl_at (by decide)) 1 (by decide) (va_Nw.use rfl (hKN.2.1 _ hw)) (fun _ h9 => h9) rfl (by decide +kernel) rfl rfl (by rw [sc_tab_len]; decide) h (fun H1 locs1 hP hD1 hS => ?_)
  rw [sc_w_putN hok a] at hP
  exact hk _ _ _ _ hg (sc_vd_putN hv hoa) (sc_okt (sc_okt hs)) hl _ _ _ hP hS hls
theorem sc_s_iaload (h : decode cc pc = .ok (.iaload, 1)) : sc_Snd y cc nL rt pc (pc + 1) sc_ald := by
  intro l d p e s m args below meth c dC dI ad cA LP o A C Q hC hO j k hj hk lv st I D hf hv hs hl H locs ls hP hS hls
  obtain ⟨hx, hb, hr, hml, hown, hts, hlk, hKN, hD⟩ := id hC
  obtain ⟨x, i, r, rfl, hin, hf⟩ := sc_pri_e hf
  have hi : i < 23 := sc_okh (sc_okt hs)
  exact va_iald hx hb hKN.1 hP (i + 11) i (sc_w_row hi) (sc_tys_int hi) hin h (hk _ _ _ _ hf hv (sc_ok1 (sc_okt (sc_okt hs))) hl _ _ _ hP hS hls)
theorem sc_s_iastore (h : decode cc pc = .ok (.iastore, 1)) : sc_Snd y cc nL rt pc (pc + 1) sc_ast := by
  intro l d p e s m args below meth c dC dI ad cA LP o A C Q hC hO j k hj hk lv st I D hf hv hs hl H locs ls hP hS hls
  obtain ⟨hx, hb, hr, hml, hown, hts, hlk, hKN, hD⟩ := id hC
  obtain ⟨v, x, i, r, rfl, hin, hf⟩ := sc_prii_e hf
  have hi : i < 23 := sc_okh (sc_okt (sc_okt hs))
  refine va_iast hx hb hKN.1 hP (hD I D) hS (i + 11) i (sc_w_row hi) (sc_tys_int hi) hin h (fun H1 locs1 hP hD1 hS => ?_)
  rw [sc_w_rowset hi] at hP
  exact hk _ _ _ _ hf hv (sc_okt (sc_okt (sc_okt hs))) hl _ _ _ hP hS hls
theorem sc_s_baload (h : decode cc pc = .ok (.baload, 1)) : sc_Snd y cc nL rt pc (pc + 1) sc_zld := by
  intro l d p e s m args below meth c dC dI ad cA LP o A C Q hC hO j k hj hk lv st I D hf hv hs hl H locs ls hP hS hls
  obtain ⟨hx, hb, hr, hml, hown, hts, hlk, hKN, hD⟩ := id hC
  obtain ⟨x, i, r, rfl, hin, hf⟩ := sc_pri_e hf
  exact va_zald hx hb hKN.1 hP 7 23 sc_w_there rfl hin h (hk _ _ _ _ hf hv (sc_ok1 (sc_okt (sc_okt hs))) hl _ _ _ hP hS hls)
theorem sc_s_bastore (h : decode cc pc = .ok (.bastore, 1)) : sc_Snd y cc nL rt pc (pc + 1) sc_zst := by
  intro l d p e s m args below meth c dC dI ad cA LP o A C Q hC hO j k hj hk lv st I D hf hv hs hl H locs ls hP hS hls
  obtain ⟨hx, hb, hr, hml, hown, hts, hlk, hKN, hD⟩ := id hC
  obtain ⟨v, x, i, r, rfl, hz, hin, hf⟩ := sc_prii_e hf
  refine va_zast hx hb hKN.1 hP (hD I D) hS 7 23 sc_w_there rfl hin h (fun H1 locs1 hP hD1 hS => ?_)
  rw [(sc_nz hz).2.2, sc_w_thereset] at hP
  exact hk _ _ _ _ hf hv (sc_okt (sc_okt (sc_okt hs))) hl _ _ _ hP hS hls
theorem sc_cln {x : Int32} {n : Nat} (h : vp_in x n) : x.toNatClampNeg < n := by
  unfold vp_in at h
  omega
theorem sc_s_fload (h : decode cc pc = .ok (.aaload, 1)) : sc_Snd y cc nL rt pc (pc + 1) sc_fld := by
  intro l d p e s m args below meth c dC dI ad cA LP o A C Q hC hO j k hj hk lv st I D hf hv hs hl H locs ls hP hS hls
  obtain ⟨hx, hb, hr, hml, hown, hts, hlk, hKN, hD⟩ := id hC
  obtain ⟨x, i, r, rfl, hin, hf⟩ := sc_pri_e hf
  exact va_aldq hx hb hKN.1 hP 8 24 sc_w_stages rfl hin h (hk _ _ _ _ hf hv (List.forall_mem_cons.mpr ⟨hv.2.1 _ (sc_cln hin), sc_okt (sc_okt hs)⟩) hl _ _ _ hP hS hls)
theorem sc_s_nload (h : decode cc pc = .ok (.aaload, 1)) : sc_Snd y cc nL rt pc (pc + 1) sc_nld := by
  intro l d p e s m args below meth c dC dI ad cA LP o A C Q hC hO j k hj hk lv st I D hf hv hs hl H locs ls hP hS hls
  obtain ⟨hx, hb, hr, hml, hown, hts, hlk, hKN, hD⟩ := id hC
  obtain ⟨x, i, r, rfl, hin, hf⟩ := sc_pri_e hf
  exact va_aldq hx hb hKN.1 hP 9 25 sc_w_program rfl hin h (hk _ _ _ _ hf hv (List.forall_mem_cons.mpr ⟨hv.2.2.1 _ (sc_cln hin), sc_okt (sc_okt hs)⟩) hl _ _ _ hP hS hls)
theorem sc_vd_fst {LP : List Nat} {D : sc_R} {x f : Nat} (hv : sc_vd LP D) (hf : f < 5) : sc_vd LP (sc_u D 6 0 x f) := by
  refine ⟨fun i hi => ?_, fun i hi => ?_, fun i hi => ?_, ?_⟩
  · rw [sc_u_row _ _ _ _ _ (fun z => by cases z.1)]; exact hv.1 i hi
  · rw [sc_u_at]
    by_cases e : i = x
    · subst e; rw [va_up_self]; exact hf
    · rw [va_up_ne _ _ e]; exact hv.2.1 i hi
  · rw [sc_u_row _ _ _ _ _ (fun z => by cases z.1)]; exact hv.2.2.1 i hi
  · rw [sc_u_row _ _ _ _ _ (fun z => by cases z.1)]; exact hv.2.2.2
theorem sc_s_fstore (h : decode cc pc = .ok (.aastore, 1)) : sc_Snd y cc nL rt pc (pc + 1) sc_fst := by
  intro l d p e s m args below meth c dC dI ad cA LP o A C Q hC hO j k hj hk lv st I D hf hv hs hl H locs ls hP hS hls
  obtain ⟨hx, hb, hr, hml, hown, hts, hlk, hKN, hD⟩ := id hC
  obtain ⟨f, x, i, r, rfl, hin, hf⟩ := sc_prir_e hf
  have hff : f < 5 := sc_okh hs
  obtain ⟨-, he⟩ := sc_obj (ad := ad) (cA := cA) (o := o) (I := I) (D := D) (k := 0) (i := f) (LP := LP) (Or.inl rfl) hff
  refine va_astq (r := sc_cl 0) hx hb hKN.1 hP (hD I D) hS 8 24 (sc_pl 0 f) 0 sc_w_stages rfl he rfl hin h (fun H1 locs1 hP hD1 hS => ?_)
  rw [sc_w_stageset] at hP
  exact hk _ _ _ _ hf (sc_vd_fst hv hff) (sc_okt (sc_okt (sc_okt hs))) hl _ _ _ hP hS hls
theorem sc_s_retI {nx : Nat} (h : decode cc pc = .ok (.ireturn, 1)) (hrt : rt = some .int) : sc_Snd y cc nL rt pc nx sc_retI := by
  intro l d p e s m args below meth c dC dI ad cA LP o A C Q hC hO j k hj hk lv st I D hf hv hs hl H locs ls hP hS hls
  obtain ⟨hx, hb, hr, hml, hown, hts, hlk, hKN, hD⟩ := id hC
  obtain ⟨x, r, rfl, hf⟩ := sc_p1_e hf
  match r, hf with
  | [], hf => exact W.iret hx hb (hr.trans hrt) (fun t ht hW => ⟨some (.inl x), I, D, rfl, hf, (fun v z => by cases z; trivial), hv, by rw [ht]; exact hP, hS.F ht⟩) hS.2.2 h hlk
theorem sc_s_retZ {nx : Nat} (h : decode cc pc = .ok (.ireturn, 1)) (hrt : rt = some .boolean) : sc_Snd y cc nL rt pc nx sc_retZ := by
  intro l d p e s m args below meth c dC dI ad cA LP o A C Q hC hO j k hj hk lv st I D hf hv hs hl H locs ls hP hS hls
  obtain ⟨hx, hb, hr, hml, hown, hts, hlk, hKN, hD⟩ := id hC
  obtain ⟨x, r, rfl, hf⟩ := sc_p1_e hf
  match r, hf with
  | [], ⟨hz, hf⟩ => exact W.zret hx hb (hr.trans hrt) (sc_nz hz).1 (fun t ht hW => ⟨some (.inl x), I, D, rfl, hf, (fun v z => by cases z; trivial), hv, by rw [ht]; exact hP, hS.F ht⟩) hS.2.2 h hlk
theorem sc_s_retV {nx : Nat} (h : decode cc pc = .ok (.return_, 1)) (hrt : rt = none) : sc_Snd y cc nL rt pc nx sc_retV := by
  intro l d p e s m args below meth c dC dI ad cA LP o A C Q hC hO j k hj hk lv st I D hf hv hs hl H locs ls hP hS hls
  obtain ⟨hx, hb, hr, hml, hown, hts, hlk, hKN, hD⟩ := id hC
  match st, hf with
  | [], hf => exact W.vret hx hb (hr.trans hrt) (fun t ht hW => ⟨none, I, D, rfl, hf, (fun v z => by cases z), hv, by rw [ht]; exact hP, hS.F ht⟩) hS.2.2 h hlk
end
theorem sc_call {p : Program} {l : Launch} {e : Env} {R : Room} {s : State} {m : MethodId} {args : Array Value} {below : List Frame} {meth : Method} {c : Code} {H : Heap} {locs : List Loc} {cells slots mc ms : Nat} {Qf : State → Prop} {pc : Nat} {ls : Array Slot} {st0 rest : List Value} {dC : Nat → ClassId} {dI : Nat → Nat → Nat} {ad : Nat → Nat} {cA : Nat → ClassId} {LP : List Nat} {o : Nat → Int64} {A : Nat → Prop} {K : sc_RT} {a : Array Value}
    (hr : va_Run p l e R s m args below meth c H locs cells slots mc ms (F0 m pc ls st0) rest (sc_Qc dC dI ad cA LP o A K a) A) (hS : va_S A s.heap H locs)
    (kk : ∀ (r : Option sc_V) (I : sc_I) (D : sc_R) (H1 : Heap) (locs1 : List Loc), K r I D → (∀ v, r = some v → sc_ok LP v) → sc_vd LP D → va_P (dC, dI) vwCl (sc_w ad cA LP o I D) H1 → va_S A s.heap H1 locs1 → W p l e R s m args below meth c H1 locs1 (cells + mc) (slots + ms) Qf (F0 m (pc + 3) ls ((r.map (sc_tv ad)).toList ++ rest))) : W p l e R s m args below meth c H locs cells slots Qf (F0 m pc ls st0) := by
  intro T hT X
  obtain ⟨v, st₀, t, T', L, h0, X', hL, e1, e2, ⟨r, I, D, hv, hq, hok, hvd, hP, hz, hk⟩, st⟩ := hr T hT X
  cases hv
  rw [h0] at hz hk
  obtain ⟨t2, a1, b1⟩ := kk r I D T'.heap (locs ++ L) hq hok hvd (by rw [e1]; exact hP)
    ⟨Nat.le_trans hS.1 (by rw [e1]; exact hz), fun q h1 h2 => by rw [e1, hk q (Nat.lt_of_lt_of_le h1 hS.1) h2]; exact hS.2.1 q h1 h2, fun q hq => (List.mem_append.mp hq).elim (hS.2.2 q) (hL q)⟩ T' rfl X'
  exact ⟨t2, st t2 a1, b1⟩
theorem sc_cats (ad : Nat → Nat) : ∀ r : List sc_V, ((r.map (sc_tv ad)).map fun v => v.category).sum = r.length
  | [] => rfl
  | v :: r => by
    simp only [List.map_cons, List.sum_cons, sc_tv_cat, List.length_cons]
    have := sc_cats ad r
    omega
theorem sc_blind {dC : Nat → ClassId} {dI : Nat → Nat → Nat} {ad : Nat → Nat} {cA : Nat → ClassId} {LP : List Nat} {o : Nat → Int64} {A : Nat → Prop} {as : List sc_V} {I : sc_I} {D : sc_R} : FrameBlind (sc_Pc dC dI ad cA LP o A as I D) := fun a U g mk q => ⟨q.1, sc_KN_same (U := U.calling g mk a) rfl q.2.1, q.2.2⟩
theorem sc_gws {y y' : MethodName} {cc cc' : ByteArray} {nL nL' : Nat} {rt rt' : Option FieldType} (h : Cond.code y' cc' nL' rt' ∈ sc_G) : GoodIn (sc_ws y cc nL rt) (sc_ws y' cc' nL' rt') := fun w hw => by
  rcases List.mem_cons.mp hw with rfl | hw
  · exact ⟨List.mem_cons_of_mem _ h, sc_G_good h⟩
  · exact ⟨List.mem_cons_of_mem _ hw, sc_G_good hw⟩
/-- what is known of a method that is called -/
def sc_MO (mid n : Nat) : Prop := mid < sc_nM ∧ ((sc_y mid).cls ≠ "java/lang/invoke/MethodHandle" ∧ (sc_y mid).cls ≠ "java/lang/invoke/VarHandle" ∧ (parseMethodDescriptor (sc_y mid).desc).map (fun d => d.parameters.length) = some n) ∧ sc_nL mid ≤ 11 ∧ Cond.code (sc_y mid) (sc_c mid) (sc_nL mid) (sc_rt mid) ∈ sc_G ∧ Cond.initialized (sc_y mid).cls ∈ sc_G
theorem sc_okp {LP : List Nat} {v : Option sc_V} {r : List sc_V} (h : ∀ x, v = some x → sc_ok LP x) (hr : ∀ x ∈ r, sc_ok LP x) : ∀ x ∈ sc_psh v r, sc_ok LP x := by
  cases v with
  | none => exact hr
  | some x => exact List.forall_mem_cons.mpr ⟨h x rfl, hr⟩
section
variable {y : MethodName} {cc : ByteArray} {nL : Nat} {rt : Option FieldType} {pc : Nat}
theorem sc_s_ins {idx mid n : Nat} (h : decode cc pc = .ok (.invokestatic idx, 3)) (hM : sc_MO mid n) (w1 : Cond.methodLink y.cls idx (sc_y mid) ∈ sc_G) (w2 : Cond.static (sc_y mid) ∈ sc_G) : sc_Snd y cc nL rt pc (pc + 3) (sc_ins mid n) := by
  intro l d p e s m args below meth c dC dI ad cA LP o A C Q hC hO j k hj hk lv st I D hf hv hs hl H locs ls hP hS hls
  obtain ⟨hx, hb, hr, hml, hown, hts, hlk, hKN, hD⟩ := id hC
  obtain ⟨hm, hd, hn, w5, w4⟩ := hM
  obtain ⟨as, r, rfl, hlen, hf⟩ := sc_pn_e hf
  rw [List.append_nil] at hf
  split at hf
  · rename_i hbl
    have hlr : r.length ≤ 8 := Nat.le_of_ble_eq_true hbl
    have hMt := hO mid as I D _ hm hf (fun v hv => hs v (List.mem_append_left _ (List.mem_reverse.mpr hv))) hv
    have e1 : (as.reverse ++ r).map (sc_tv ad) = (as.map (sc_tv ad)).reverse ++ r.map (sc_tv ad) := by rw [List.map_append, List.map_reverse]
    rw [e1]
    have hg : GoodIn (sc_ws y cc nL rt) (va_wsS y.cls idx (sc_y mid) (sc_ws (sc_y mid) (sc_c mid) (sc_nL mid) (sc_rt mid))) := by
      intro w hw
      rcases List.mem_append.mp hw with hw | hw
      · simp only [List.mem_cons, List.not_mem_nil, or_false] at hw
        rcases hw with rfl | rfl | rfl
        · exact ⟨List.mem_cons_of_mem _ w1, sc_G_good w1⟩
        · exact ⟨List.mem_cons_of_mem _ w2, sc_G_good w2⟩
        · exact ⟨List.mem_cons_of_mem _ w4, sc_G_good w4⟩
      · exact sc_gws w5 w hw
    refine sc_call (va_runS (As := as.map (sc_tv ad)) (rest := r.map (sc_tv ad)) ⟨hx, hb, hml, hown, hts⟩ hMt (va_cwS n hts hg rfl rfl rfl hd ⟨Nat.le_refl _, by show 8 + (sc_nL mid + 11) + 30 * d ≤ 30 * (d + 1); omega⟩) ⟨sc_blind, fun U hU hW => ⟨rfl, sc_KN_warm hW hKN, by rw [hU]; exact hP⟩⟩ rfl (by rw [List.length_map]; exact hlen) hls.1 rfl (lv_room (by rw [sc_cats]; exact hlr)) h ⟨Nat.le_refl _, Nat.le_refl _⟩) hS (fun v I' D' H1 locs1 hq hok hvd hP hS => ?_)
    rw [← sc_psh_map]
    exact hk _ _ _ _ hq hvd (sc_okp hok (fun x hx => hs x (List.mem_append_right _ hx))) hl _ _ _ hP hS hls
  · exact hf.elim
theorem sc_s_inv {idx mid k1 n : Nat} (h : decode cc pc = .ok (.invokevirtual idx, 3)) (hM : sc_MO mid n) (hk1 : k1 < 4) (hc1 : (sc_y mid).cls = (sc_cl k1).1) (w1 : Cond.methodLink y.cls idx (sc_y mid) ∈ sc_G) (w2 : Cond.instanceMethod (sc_y mid) ∈ sc_G) (w3 : Cond.selects (sc_cl k1).1 (sc_y mid) (sc_y mid) ∈ sc_G) : sc_Snd y cc nL rt pc (pc + 3) (sc_inv mid k1 (n + 1)) := by
  intro l d p e s m args below meth c dC dI ad cA LP o A C Q hC hO j k hj hk lv st I D hf hv hs hl H locs ls hP hS hls
  obtain ⟨hx, hb, hr, hml, hown, hts, hlk, hKN, hD⟩ := id hC
  obtain ⟨hm, hd, hn, w5, w4⟩ := hM
  rw [hc1] at w4
  obtain ⟨as, r, rfl, hlen, hf⟩ := sc_pn_e hf
  rw [List.append_nil] at hf
  split at hf
  · rename_i hbl
    have hlr : r.length ≤ 8 := Nat.le_of_ble_eq_true hbl
    obtain ⟨hf, i, as', rfl⟩ := sc_pv_e hf
    have hoks : ∀ v ∈ (.inr (k1, i) :: as' : List sc_V), sc_ok LP v := fun v hv => hs v (List.mem_append_left _ (List.mem_reverse.mpr hv))
    have hMt := hO mid _ I D _ hm hf hoks hv
    have e1 : ((.inr (k1, i) :: as' : List sc_V).reverse ++ r).map (sc_tv ad) = (as'.map (sc_tv ad)).reverse ++ .ref (sc_ad ad k1 i) :: r.map (sc_tv ad) := by simp [sc_tv]
    rw [e1]
    obtain ⟨q0, he⟩ := sc_objx (ad := ad) (cA := cA) (o := o) (I := I) (D := D) hk1 (sc_okh hoks)
    have hg : GoodIn (sc_ws y cc nL rt) (wsV y.cls idx (sc_cl k1).1 (sc_y mid) (sc_ws (sc_y mid) (sc_c mid) (sc_nL mid) (sc_rt mid))) := by
      intro w hw
      rcases List.mem_append.mp hw with hw | hw
      · simp only [List.mem_cons, List.not_mem_nil, or_false] at hw
        rcases hw with rfl | rfl | rfl | rfl
        · exact ⟨List.mem_cons_of_mem _ w1, sc_G_good w1⟩
        · exact ⟨List.mem_cons_of_mem _ w2, sc_G_good w2⟩
        · exact ⟨List.mem_cons_of_mem _ w3, sc_G_good w3⟩
        · exact ⟨List.mem_cons_of_mem _ w4, sc_G_good w4⟩
      · exact sc_gws w5 w hw
    refine sc_call (va_runV (As := as'.map (sc_tv ad)) (rest := r.map (sc_tv ad)) ⟨hx, hb, hml, hown, hts⟩ hMt (cwV n hts hg rfl rfl rfl ⟨hc1, hd⟩ ⟨Nat.le_refl _, by show 8 + (sc_nL mid + 11) + 30 * d ≤ 30 * (d + 1); omega⟩) ⟨sc_blind, va_recv hKN.1 hP (sc_cl_at hk1) he, fun U hU hW => ⟨rfl, sc_KN_warm hW hKN, by rw [hU]; exact hP⟩⟩ rfl (by rw [List.length_map]; simpa using hlen) hls.1 rfl (lv_room (by rw [sc_cats]; exact hlr)) h ⟨Nat.le_refl _, Nat.le_refl _⟩) hS (fun v I' D' H1 locs1 hq hok hvd hP hS => ?_)
    rw [← sc_psh_map]
    exact hk _ _ _ _ hq hvd (sc_okp hok (fun x hx => hs x (List.mem_append_right _ hx))) hl _ _ _ hP hS hls
  · exact hf.elim
theorem sc_s_invN {idx mid k1 n : Nat} {host : String} (h : decode cc pc = .ok (.invokevirtual idx, 3)) (hM : sc_MO mid n) (hk1 : k1 < 4) (hc1 : (sc_y mid).cls = (sc_cl k1).1) (w1 : (y.cls, idx, sc_y mid, host) ∈ sc_NM) (w2 : Cond.instanceMethod (sc_y mid) ∈ sc_G) (w3 : Cond.selects (sc_cl k1).1 (sc_y mid) (sc_y mid) ∈ sc_G) : sc_Snd y cc nL rt pc (pc + 3) (sc_inv mid k1 (n + 1)) := by
  intro l d p e s m args below meth c dC dI ad cA LP o A C Q hC hO j k hj hk lv st I D hf hv hs hl H locs ls hP hS hls
  obtain ⟨hx, hb, hr, hml, hown, hts, hlk, hKN, hD⟩ := id hC
  obtain ⟨hm, hd, hn, w5, w4⟩ := hM
  obtain ⟨as, r, rfl, hlen, hf⟩ := sc_pn_e hf
  rw [List.append_nil] at hf
  split at hf
  · rename_i hbl
    have hlr : r.length ≤ 8 := Nat.le_of_ble_eq_true hbl
    obtain ⟨hf, i, as', rfl⟩ := sc_pv_e hf
    have hoks : ∀ v ∈ (.inr (k1, i) :: as' : List sc_V), sc_ok LP v := fun v hv => hs v (List.mem_append_left _ (List.mem_reverse.mpr hv))
    have hMt := hO mid _ I D _ hm hf hoks hv
    have e1 : ((.inr (k1, i) :: as' : List sc_V).reverse ++ r).map (sc_tv ad) = (as'.map (sc_tv ad)).reverse ++ .ref (sc_ad ad k1 i) :: r.map (sc_tv ad) := by simp [sc_tv]
    rw [e1]
    obtain ⟨q0, he⟩ := sc_objx (ad := ad) (cA := cA) (o := o) (I := I) (D := D) hk1 (sc_okh hoks)
    refine sc_call (va_runVN (As := as'.map (sc_tv ad)) (rest := r.map (sc_tv ad)) ⟨hx, hb, hml, hown, hts⟩ hMt ⟨va_cnB n hts (sc_gws w5) rfl rfl rfl (hKN.2.2 _ w1) (hts _ (List.mem_cons_of_mem _ w4)) hd ⟨Nat.le_refl _, by show 8 + (sc_nL mid + 11) + 30 * d ≤ 30 * (d + 1); omega⟩, hts _ (List.mem_cons_of_mem _ w2), hts _ (List.mem_cons_of_mem _ w3)⟩ ⟨sc_blind, va_recv hKN.1 hP (sc_cl_at hk1) he, fun U hU hW => ⟨rfl, sc_KN_warm hW hKN, by rw [hU]; exact hP⟩⟩ rfl (by rw [List.length_map]; simpa using hlen) hls.1 rfl (lv_room (by rw [sc_cats]; exact hlr)) h ⟨Nat.le_refl _, Nat.le_refl _⟩) hS (fun v I' D' H1 locs1 hq hok hvd hP hS => ?_)
    rw [← sc_psh_map]
    exact hk _ _ _ _ hq hvd (sc_okp hok (fun x hx => hs x (List.mem_append_right _ hx))) hl _ _ _ hP hS hls
  · exact hf.elim
theorem sc_swt_in {x : Int32} {J : Nat → Prop} {dft : Nat} : ∀ {ts : List (Int32 × Nat)}, sc_swt x J dft ts → (∃ q ∈ ts, x = q.1) → ∃ q ∈ ts, x = q.1 ∧ J q.2
  | [], _, h => by obtain ⟨q, hq, -⟩ := h; cases hq
  | q :: r, h, hq => by
    by_cases e : x = q.1
    · exact ⟨q, List.mem_cons_self, e, h.1 e⟩
    · obtain ⟨z, hz, ez⟩ := hq
      rcases List.mem_cons.mp hz with rfl | hz
      · exact absurd ez e
      · obtain ⟨w, hw, h1⟩ := sc_swt_in (h.2 e) ⟨z, hz, ez⟩
        exact ⟨w, List.mem_cons_of_mem _ hw, h1⟩
theorem sc_swt_out {x : Int32} {J : Nat → Prop} {dft : Nat} : ∀ {ts : List (Int32 × Nat)}, sc_swt x J dft ts → (∀ q ∈ ts, ¬ x = q.1) → J dft
  | [], h, _ => h
  | q :: r, h, hq => sc_swt_out (h.2 (hq q List.mem_cons_self)) (fun z hz => hq z (List.mem_cons_of_mem _ hz))
theorem sc_s_sw {dflt lo hi : Int} {offs : Array Int} {len nx dft : Nat} {ts : List (Int32 × Nat)} (h : decode cc pc = .ok (.tableswitch dflt lo hi offs, len)) (hd : (pc : Int) + dflt = (dft : Int)) (hn : hi = lo + (ts.length : Int) - 1) (hok : ∀ i : Nat, i < ts.length → ts[i]?.map (fun q => q.1.toInt) = some (lo + (i : Int)) ∧ ts[i]?.map (fun q => (q.2 : Int)) = offs[i]?.map (fun z => (pc : Int) + z)) : sc_Snd y cc nL rt pc nx (sc_sw ts dft) := by
  intro l d p e s m args below meth c dC dI ad cA LP o A C Q hC hO j k hj hk lv st I D hf hv hs hl H locs ls hP hS hls
  obtain ⟨hx, hb, hr, hml, hown, hts, hlk, hKN, hD⟩ := id hC
  obtain ⟨x, r, rfl, hg⟩ := sc_p1_e hf
  have hmem : ∀ q ∈ ts, ∃ (i : Nat), i < ts.length ∧ ts[i]? = some q ∧ q.1.toInt = lo + (i : Int) := by
    intro q hq
    obtain ⟨i, hi⟩ := List.mem_iff_getElem?.mp hq
    have hlt : i < ts.length := (List.getElem?_eq_some_iff.mp hi).1
    have h1 := (hok i hlt).1
    rw [hi] at h1
    exact ⟨i, hlt, hi, Option.some.inj h1⟩
  by_cases hin : lo ≤ x.toInt ∧ x.toInt ≤ hi
  · have hlt : (x.toInt - lo).toNat < ts.length := by omega
    obtain ⟨q, hq⟩ : ∃ q, ts[(x.toInt - lo).toNat]? = some q := ⟨_, List.getElem?_eq_getElem hlt⟩
    have hqm : q ∈ ts := List.mem_of_getElem? hq
    have hx1 := (hok _ hlt).1
    rw [hq] at hx1
    have hx2 : q.1.toInt = lo + ((x.toInt - lo).toNat : Int) := Option.some.inj hx1
    have ex : x = q.1 := Int32.toInt_inj.mp (by omega)
    obtain ⟨z, hz, ez, hJ⟩ := sc_swt_in (ts := ts) (dft := dft) hg ⟨q, hqm, ex⟩
    obtain ⟨i, hi1, hi2, hi3⟩ := hmem z hz
    have ei : i = (x.toInt - lo).toNat := by
      rw [← ez] at hi3
      omega
    subst ei
    have ho := (hok _ hi1).2
    rw [hi2] at ho
    cases hoff : offs[(x.toInt - lo).toNat]? with
    | none => rw [hoff] at ho; cases ho
    | some off =>
      rw [hoff] at ho
      exact lv_tableIn hx hb h (by omega) (by omega) hoff (Option.some.inj ho).symm (hj _ _ _ _ _ hJ hv (sc_okt hs) hl _ _ _ hP hS hls)
  · have hJ := sc_swt_out (ts := ts) (dft := dft) hg (fun q hq e => hin (by
      obtain ⟨i, hi1, hi2, hi3⟩ := hmem q hq
      rw [← e] at hi3
      omega))
    exact lv_tableOut hx hb h (by omega) hd (hj _ _ _ _ _ hJ hv (sc_okt hs) hl _ _ _ hP hS hls)
end
