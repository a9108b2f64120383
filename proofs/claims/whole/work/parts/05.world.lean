/-! the heap as objects by (kind, index): kinds 0 Flight, 1 Instruction (index: its address), 2 StageChip, 3 StageChipModel, 4 int rows, 5 the row of booleans, 6 Flight rows, 7 Instruction rows, 8 the row of longs -/
abbrev sc_I : Type := Nat → Nat → Nat → Int32
abbrev sc_R : Type := Nat → Nat → Nat → Nat
abbrev sc_V : Type := Int32 ⊕ (Nat × Nat)
def sc_u {α : Type} (I : Nat → Nat → Nat → α) (k i s : Nat) (v : α) : Nat → Nat → Nat → α := fun a b c => bif (Nat.beq a k && (Nat.beq b i && Nat.beq c s)) then v else I a b c
theorem sc_beq_ne {a b : Nat} (h : a ≠ b) : Nat.beq a b = false := by
  cases hb : Nat.beq a b
  · rfl
  · exact absurd (Nat.eq_of_beq_eq_true hb) h
theorem sc_u_row {α : Type} (I : Nat → Nat → Nat → α) (k i s : Nat) (v : α) {a b : Nat} (h : ¬ (a = k ∧ b = i)) : sc_u I k i s v a b = I a b := by
  funext c
  unfold sc_u
  by_cases h1 : a = k
  · have h2 : b ≠ i := fun e => h ⟨h1, e⟩
    rw [sc_beq_ne h2]; simp
  · rw [sc_beq_ne h1]; simp
theorem sc_u_at {α : Type} (I : Nat → Nat → Nat → α) (k i s : Nat) (v : α) : sc_u I k i s v k i = va_up (I k i) s v := by
  funext c
  unfold sc_u va_up
  by_cases h : c = s
  · subst h; simp
  · rw [sc_beq_ne h]; simp [h]
def sc_tab {α : Type} (n : Nat) (f : Nat → α) : List α := (List.range n).map f
theorem sc_tab_get {α : Type} {n k : Nat} {f : Nat → α} (h : k < n) : (sc_tab n f)[k]? = some (f k) := by
  simp [sc_tab, h]
theorem sc_tab_len {α : Type} {n : Nat} {f : Nat → α} : (sc_tab n f).length = n := by simp [sc_tab]
theorem sc_tab_congr {α : Type} {n : Nat} {f g : Nat → α} (h : ∀ k, k < n → f k = g k) : sc_tab n f = sc_tab n g := by
  unfold sc_tab
  exact List.map_congr_left (fun k hk => h k (List.mem_range.mp hk))
theorem sc_tab_set {α : Type} {n k : Nat} {f : Nat → α} (v : α) : (sc_tab n f).set k v = sc_tab n (va_up f k v) := by
  apply List.ext_getElem?
  intro j
  by_cases hj : j < n
  · rw [sc_tab_get hj, List.getElem?_set, sc_tab_get hj, sc_tab_len]
    unfold va_up
    by_cases e : k = j
    · subst e; simp [hj]
    · have e2 : ¬ j = k := fun z => e z.symm
      simp [e, e2]
  · rw [List.getElem?_eq_none (by rw [List.length_set, sc_tab_len]; omega), List.getElem?_eq_none (by rw [sc_tab_len]; omega)]
def sc_kd (p : Nat) : Nat := match p with
  | 0 => 2 | 1 => 3 | 2 => 0 | 3 => 0 | 4 => 0 | 5 => 0 | 6 => 0 | 7 => 5 | 8 => 6 | 9 => 7 | 10 => 8 | _ => 4
def sc_ix (p : Nat) : Nat := match p with
  | 0 => 0 | 1 => 0 | 2 => 0 | 3 => 1 | 4 => 2 | 5 => 3 | 6 => 4 | 7 => 0 | 8 => 0 | 9 => 0 | 10 => 0 | n + 11 => n
def sc_pl (k i : Nat) : Nat := match k with
  | 0 => i + 2 | 2 => 0 | 3 => 1 | 4 => i + 11 | 5 => 7 | 6 => 8 | 7 => 9 | _ => 10
theorem sc_pl_kd : ∀ p, p < 34 → sc_pl (sc_kd p) (sc_ix p) = p := by decide
def sc_ad (ad : Nat → Nat) (k i : Nat) : Nat := match k with
  | 1 => i
  | k => ad (sc_pl k i)
/-- a field of kind k at slot s: none, an int; some (k', some i'), always that object; some (k', none), some object of kind k' -/
def sc_fx (k s : Nat) : Option (Nat × Option Nat) := match k with
  | 0 => (match s with
    | 1 => some (1, none)
    | _ => none)
  | 2 => (match s with
    | 0 => some (1, none) | 1 => some (7, some 0) | 2 => some (4, some 0) | 3 => some (4, some 1) | 4 => some (4, some 2) | 5 => some (6, some 0) | 6 => some (4, some 3)
    | _ => none)
  | 3 => (match s with
    | 1 => some (4, some 4) | 2 => some (4, some 5) | 3 => some (4, some 6) | 4 => some (4, some 7) | 5 => some (4, some 8) | 6 => some (4, some 9) | 7 => some (4, some 10) | 8 => some (4, some 11) | 9 => some (5, some 0)
    | 10 => some (4, some 12) | 11 => some (4, some 13) | 12 => some (4, some 14) | 13 => some (4, some 15) | 14 => some (4, some 16) | 15 => some (4, some 17) | 16 => some (4, some 18) | 17 => some (4, some 19) | 18 => some (4, some 20) | 19 => some (4, some 21) | 32 => some (4, some 22)
    | _ => none)
  | _ => none
def sc_nf (k : Nat) : Nat := match k with
  | 0 => 8 | 1 => 5 | 2 => 17 | _ => 33
def sc_fw (ad : Nat → Nat) (k s : Nat) (r : Nat → Int32) (d : Nat → Nat) : Value := match sc_fx k s with
  | none => .int (r s)
  | some (k', some i') => .ref (sc_ad ad k' i')
  | some (k', none) => .ref (sc_ad ad k' (d s))
def sc_ln (j : Nat) : Nat := [32, 16, 8, 16, 64, 64, 64, 64, 64, 32, 16, 8, 5, 5, 5, 5, 5, 5, 5, 5, 5, 5, 16].getD j 0
def sc_mk (ad : Nat → Nat) (cA : Nat → ClassId) (o : Nat → Int64) (p : Nat) (r : Nat → Int32) (d : Nat → Nat) : va_E := match p with
  | 7 => .inl (cA 23, 5, .inl r)
  | 8 => .inl (cA 24, 5, .inr (.inr (.inr (.inr (fun i => some (sc_ad ad 0 (d i)))))))
  | 9 => .inl (cA 25, 64, .inr (.inr (.inr (.inr (fun i => some (sc_ad ad 1 (d i)))))))
  | 10 => .inl (cA 26, 1, .inr (.inl o))
  | n + 11 => .inl (cA n, sc_ln n, .inl r)
  | p => .inr (sc_kd p, sc_tab (sc_nf (sc_kd p)) (fun s => sc_fw ad (sc_kd p) s r d))
def sc_w (ad : Nat → Nat) (cA : Nat → ClassId) (LP : List Nat) (o : Nat → Int64) (I : sc_I) (D : sc_R) : va_W :=
  sc_tab 34 (fun p => (ad p, sc_mk ad cA o p (I (sc_kd p) (sc_ix p)) (D (sc_kd p) (sc_ix p)))) ++ va_pl LP (fun a => .inr (1, sc_tab 5 (fun s => sc_fw ad 1 s (I 1 a) (D 1 a))))
def sc_ok (LP : List Nat) (v : sc_V) : Prop := match v with
  | .inl _ => True
  | .inr (k, i) => (match k with
    | 0 => i < 5 | 1 => i ∈ LP | 2 => i = 0 | 3 => i = 0 | 4 => i < 23 | 5 => i = 0 | 6 => i = 0 | 7 => i = 0 | _ => False)
def sc_vd (LP : List Nat) (D : sc_R) : Prop := (∀ f, f < 5 → D 0 f 1 ∈ LP) ∧ (∀ i, i < 5 → D 6 0 i < 5) ∧ (∀ i, i < 64 → D 7 0 i ∈ LP) ∧ D 2 0 0 ∈ LP
theorem sc_w_get {ad : Nat → Nat} {cA : Nat → ClassId} {LP : List Nat} {o : Nat → Int64} {I : sc_I} {D : sc_R} {p : Nat} (hp : p < 34) : (sc_w ad cA LP o I D)[p]? = some (ad p, sc_mk ad cA o p (I (sc_kd p) (sc_ix p)) (D (sc_kd p) (sc_ix p))) := by
  unfold sc_w
  rw [List.getElem?_append_left (by rw [sc_tab_len]; exact hp), sc_tab_get hp]
theorem sc_fl5 {P : Nat → Prop} (h0 : P 0) (h1 : P 1) (h2 : P 2) (h3 : P 3) (h4 : P 4) {f : Nat} (hf : f < 5) : P f := by
  match f, hf with
  | 0, _ => exact h0
  | 1, _ => exact h1
  | 2, _ => exact h2
  | 3, _ => exact h3
  | 4, _ => exact h4
/-- an object of the world -/
theorem sc_obj {ad : Nat → Nat} {cA : Nat → ClassId} {LP : List Nat} {o : Nat → Int64} {I : sc_I} {D : sc_R} {k i : Nat} (hk : k = 0 ∨ k = 2 ∨ k = 3) (hok : sc_ok LP (.inr (k, i))) : sc_pl k i < 34 ∧ (sc_w ad cA LP o I D)[sc_pl k i]? = some (sc_ad ad k i, .inr (k, sc_tab (sc_nf k) (fun s => sc_fw ad k s (I k i) (D k i)))) := by
  rcases hk with rfl | rfl | rfl
  · have hi : i < 5 := hok
    have hp : i + 2 < 34 := by omega
    refine ⟨hp, ?_⟩
    rw [sc_w_get (show sc_pl 0 i < 34 from hp)]
    exact sc_fl5 (P := fun i => some (ad (sc_pl 0 i), sc_mk ad cA o (sc_pl 0 i) (I (sc_kd (sc_pl 0 i)) (sc_ix (sc_pl 0 i))) (D (sc_kd (sc_pl 0 i)) (sc_ix (sc_pl 0 i)))) = some (sc_ad ad 0 i, .inr (0, sc_tab (sc_nf 0) (fun s => sc_fw ad 0 s (I 0 i) (D 0 i))))) rfl rfl rfl rfl rfl hi
  · have hi : i = 0 := hok
    subst hi
    refine ⟨by decide, ?_⟩
    rw [sc_w_get (show sc_pl 2 0 < 34 by decide)]
    rfl
  · have hi : i = 0 := hok
    subst hi
    refine ⟨by decide, ?_⟩
    rw [sc_w_get (show sc_pl 3 0 < 34 by decide)]
    rfl
theorem sc_objx {ad : Nat → Nat} {cA : Nat → ClassId} {LP : List Nat} {o : Nat → Int64} {I : sc_I} {D : sc_R} {k i : Nat} (hk : k < 4) (hok : sc_ok LP (.inr (k, i))) : ∃ q0 : Nat, (sc_w ad cA LP o I D)[q0]? = some (sc_ad ad k i, .inr (k, sc_tab (sc_nf k) (fun s => sc_fw ad k s (I k i) (D k i)))) := by
  rcases (show k = 0 ∨ k = 1 ∨ k = 2 ∨ k = 3 by omega) with rfl | rfl | rfl | rfl
  · exact ⟨_, (sc_obj (Or.inl rfl) hok).2⟩
  · have hi : i ∈ LP := hok
    exact va_pl_get (X := sc_tab 34 (fun p => (ad p, sc_mk ad cA o p (I (sc_kd p) (sc_ix p)) (D (sc_kd p) (sc_ix p))))) (f := fun a => .inr (1, sc_tab 5 (fun s => sc_fw ad 1 s (I 1 a) (D 1 a)))) hi
  · exact ⟨_, (sc_obj (Or.inr (Or.inl rfl)) hok).2⟩
  · exact ⟨_, (sc_obj (Or.inr (Or.inr rfl)) hok).2⟩
theorem sc_w_set {ad : Nat → Nat} {cA : Nat → ClassId} {LP : List Nat} {o : Nat → Int64} {I I' : sc_I} {D D' : sc_R} {p : Nat} {e : va_E} (hp : p < 34) (h1 : ∀ q, q < 34 → q ≠ p → I' (sc_kd q) (sc_ix q) = I (sc_kd q) (sc_ix q) ∧ D' (sc_kd q) (sc_ix q) = D (sc_kd q) (sc_ix q)) (h2 : sc_mk ad cA o p (I' (sc_kd p) (sc_ix p)) (D' (sc_kd p) (sc_ix p)) = e) (h3 : ∀ a, I' 1 a = I 1 a ∧ D' 1 a = D 1 a) : (sc_w ad cA LP o I D).set p (ad p, e) = sc_w ad cA LP o I' D' := by
  unfold sc_w
  rw [List.set_append_left _ _ (by rw [sc_tab_len]; exact hp), sc_tab_set]
  have e1 : sc_tab 34 (va_up (fun p => (ad p, sc_mk ad cA o p (I (sc_kd p) (sc_ix p)) (D (sc_kd p) (sc_ix p)))) p (ad p, e)) = sc_tab 34 (fun p => (ad p, sc_mk ad cA o p (I' (sc_kd p) (sc_ix p)) (D' (sc_kd p) (sc_ix p)))) := by
    refine sc_tab_congr (fun q hq => ?_)
    by_cases hqp : q = p
    · subst hqp
      rw [va_up_self, h2]
    · rw [va_up_ne _ _ hqp, (h1 q hq hqp).1, (h1 q hq hqp).2]
  rw [e1]
  refine congrArg _ (va_pl_congr (fun a => ?_))
  rw [(h3 a).1, (h3 a).2]
theorem sc_rows {k i : Nat} {α : Type} {I : Nat → Nat → Nat → α} {s : Nat} {v : α} (q : Nat) (hq : q < 34) (hne : q ≠ sc_pl k i) : sc_u I k i s v (sc_kd q) (sc_ix q) = I (sc_kd q) (sc_ix q) := by
  refine sc_u_row _ _ _ _ _ (fun h => hne ?_)
  rw [← h.1, ← h.2, sc_pl_kd q hq]
theorem sc_rows1 {k i : Nat} {α : Type} {I : Nat → Nat → Nat → α} {s : Nat} {v : α} (hk : k ≠ 1) (a : Nat) : sc_u I k i s v 1 a = I 1 a := sc_u_row _ _ _ _ _ (fun h => hk h.1.symm)
theorem sc_mk_obj {ad : Nat → Nat} {cA : Nat → ClassId} {o : Nat → Int64} {LP : List Nat} {k i : Nat} (hk : k = 0 ∨ k = 2 ∨ k = 3) (hok : sc_ok LP (.inr (k, i))) (r : Nat → Int32) (d : Nat → Nat) : sc_kd (sc_pl k i) = k ∧ sc_ix (sc_pl k i) = i ∧ sc_ad ad k i = ad (sc_pl k i) ∧ sc_mk ad cA o (sc_pl k i) r d = .inr (k, sc_tab (sc_nf k) (fun s => sc_fw ad k s r d)) := by
  rcases hk with rfl | rfl | rfl
  · have hi : i < 5 := hok
    exact sc_fl5 (P := fun i => sc_kd (sc_pl 0 i) = 0 ∧ sc_ix (sc_pl 0 i) = i ∧ sc_ad ad 0 i = ad (sc_pl 0 i) ∧ sc_mk ad cA o (sc_pl 0 i) r d = .inr (0, sc_tab (sc_nf 0) (fun s => sc_fw ad 0 s r d))) ⟨rfl, rfl, rfl, rfl⟩ ⟨rfl, rfl, rfl, rfl⟩ ⟨rfl, rfl, rfl, rfl⟩ ⟨rfl, rfl, rfl, rfl⟩ ⟨rfl, rfl, rfl, rfl⟩ hi
  · have hi : i = 0 := hok
    subst hi
    exact ⟨rfl, rfl, rfl, rfl⟩
  · have hi : i = 0 := hok
    subst hi
    exact ⟨rfl, rfl, rfl, rfl⟩
/-- an int field is written -/
theorem sc_w_putI {ad : Nat → Nat} {cA : Nat → ClassId} {LP : List Nat} {o : Nat → Int64} {I : sc_I} {D : sc_R} {k i s : Nat} (hk : k = 0 ∨ k = 2 ∨ k = 3) (hok : sc_ok LP (.inr (k, i))) (hx : sc_fx k s = none) (v : Int32) : (sc_w ad cA LP o I D).set (sc_pl k i) (sc_ad ad k i, .inr (k, (sc_tab (sc_nf k) (fun s => sc_fw ad k s (I k i) (D k i))).set s (.int v))) = sc_w ad cA LP o (sc_u I k i s v) D := by
  obtain ⟨hp, -⟩ := sc_obj (ad := ad) (cA := cA) (o := o) (I := I) (D := D) hk hok
  obtain ⟨e1, e2, e3, e4⟩ := sc_mk_obj (ad := ad) (cA := cA) (o := o) hk hok (sc_u I k i s v k i) (D k i)
  rw [e3]
  refine sc_w_set hp (fun q hq hne => ⟨sc_rows q hq hne, rfl⟩) ?_ (fun a => ⟨sc_rows1 (by rcases hk with rfl | rfl | rfl <;> decide) a, rfl⟩)
  rw [e1, e2, e4, sc_tab_set]
  refine congrArg (fun x => Sum.inr (k, x)) (sc_tab_congr (fun t _ => ?_))
  rw [sc_u_at]
  by_cases ht : t = s
  · subst ht
    rw [va_up_self]
    unfold sc_fw
    rw [hx]
    simp only [va_up_self]
  · rw [va_up_ne _ _ ht]
    unfold sc_fw
    rw [va_up_ne _ _ ht]
/-- a flight gets its instruction -/
theorem sc_w_putN {ad : Nat → Nat} {cA : Nat → ClassId} {LP : List Nat} {o : Nat → Int64} {I : sc_I} {D : sc_R} {i : Nat} (hok : sc_ok LP (.inr (0, i))) (a : Nat) : (sc_w ad cA LP o I D).set (sc_pl 0 i) (sc_ad ad 0 i, .inr (0, (sc_tab (sc_nf 0) (fun s => sc_fw ad 0 s (I 0 i) (D 0 i))).set 1 (.ref (sc_ad ad 1 a)))) = sc_w ad cA LP o I (sc_u D 0 i 1 a) := by
  obtain ⟨hp, -⟩ := sc_obj (ad := ad) (cA := cA) (o := o) (I := I) (D := D) (Or.inl rfl) hok
  obtain ⟨e1, e2, e3, e4⟩ := sc_mk_obj (ad := ad) (cA := cA) (o := o) (Or.inl rfl) hok (I 0 i) (sc_u D 0 i 1 a 0 i)
  rw [e3]
  refine sc_w_set hp (fun q hq hne => ⟨rfl, sc_rows q hq hne⟩) ?_ (fun b => ⟨rfl, sc_rows1 (by decide) b⟩)
  rw [e1, e2, e4, sc_tab_set]
  refine congrArg (fun x => Sum.inr (0, x)) (sc_tab_congr (fun t _ => ?_))
  rw [sc_u_at]
  by_cases ht : t = 1
  · subst ht
    rw [va_up_self]
    rfl
  · rw [va_up_ne _ _ ht]
    unfold sc_fw
    rw [va_up_ne _ _ ht]
theorem sc_w_row {ad : Nat → Nat} {cA : Nat → ClassId} {LP : List Nat} {o : Nat → Int64} {I : sc_I} {D : sc_R} {j : Nat} (hj : j < 23) : (sc_w ad cA LP o I D)[j + 11]? = some (ad (j + 11), .inl (cA j, sc_ln j, .inl (I 4 j))) := by
  rw [sc_w_get (show j + 11 < 34 by omega)]
  rfl
theorem sc_w_rowset {ad : Nat → Nat} {cA : Nat → ClassId} {LP : List Nat} {o : Nat → Int64} {I : sc_I} {D : sc_R} {j : Nat} (hj : j < 23) (x : Nat) (v : Int32) : (sc_w ad cA LP o I D).set (j + 11) (ad (j + 11), .inl (cA j, sc_ln j, .inl (upd (I 4 j) x v))) = sc_w ad cA LP o (sc_u I 4 j x v) D := by
  refine sc_w_set (show j + 11 < 34 by omega) (fun q hq hne => ⟨sc_rows (k := 4) (i := j) q hq hne, rfl⟩) ?_ (fun a => ⟨sc_rows1 (by decide) a, rfl⟩)
  show (Sum.inl (cA j, sc_ln j, .inl (sc_u I 4 j x v 4 j)) : va_E) = _
  rw [sc_u_at]
  rfl
theorem sc_w_there {ad : Nat → Nat} {cA : Nat → ClassId} {LP : List Nat} {o : Nat → Int64} {I : sc_I} {D : sc_R} : (sc_w ad cA LP o I D)[7]? = some (ad 7, .inl (cA 23, 5, .inl (I 5 0))) := by
  rw [sc_w_get (show 7 < 34 by decide)]
  rfl
theorem sc_w_thereset {ad : Nat → Nat} {cA : Nat → ClassId} {LP : List Nat} {o : Nat → Int64} {I : sc_I} {D : sc_R} (x : Nat) (v : Int32) : (sc_w ad cA LP o I D).set 7 (ad 7, .inl (cA 23, 5, .inl (upd (I 5 0) x v))) = sc_w ad cA LP o (sc_u I 5 0 x v) D := by
  refine sc_w_set (show 7 < 34 by decide) (fun q hq hne => ⟨sc_rows (k := 5) (i := 0) q hq hne, rfl⟩) ?_ (fun a => ⟨sc_rows1 (by decide) a, rfl⟩)
  show (Sum.inl (cA 23, 5, .inl (sc_u I 5 0 x v 5 0)) : va_E) = _
  rw [sc_u_at]
  rfl
theorem sc_w_stages {ad : Nat → Nat} {cA : Nat → ClassId} {LP : List Nat} {o : Nat → Int64} {I : sc_I} {D : sc_R} : (sc_w ad cA LP o I D)[8]? = some (ad 8, .inl (cA 24, 5, .inr (.inr (.inr (.inr (fun i => some (sc_ad ad 0 (D 6 0 i)))))))) := by
  rw [sc_w_get (show 8 < 34 by decide)]
  rfl
theorem sc_w_program {ad : Nat → Nat} {cA : Nat → ClassId} {LP : List Nat} {o : Nat → Int64} {I : sc_I} {D : sc_R} : (sc_w ad cA LP o I D)[9]? = some (ad 9, .inl (cA 25, 64, .inr (.inr (.inr (.inr (fun i => some (sc_ad ad 1 (D 7 0 i)))))))) := by
  rw [sc_w_get (show 9 < 34 by decide)]
  rfl
theorem sc_w_stageset {ad : Nat → Nat} {cA : Nat → ClassId} {LP : List Nat} {o : Nat → Int64} {I : sc_I} {D : sc_R} (x f : Nat) : (sc_w ad cA LP o I D).set 8 (ad 8, .inl (cA 24, 5, .inr (.inr (.inr (.inr (va_up (fun i => some (sc_ad ad 0 (D 6 0 i))) x (some (sc_ad ad 0 f)))))))) = sc_w ad cA LP o I (sc_u D 6 0 x f) := by
  refine sc_w_set (show 8 < 34 by decide) (fun q hq hne => ⟨rfl, sc_rows (k := 6) (i := 0) q hq hne⟩) ?_ (fun a => ⟨rfl, sc_rows1 (by decide) a⟩)
  show (Sum.inl (cA 24, 5, .inr (.inr (.inr (.inr (fun i => some (sc_ad ad 0 (sc_u D 6 0 x f 6 0 i))))))) : va_E) = _
  rw [sc_u_at]
  have e : (fun i => some (sc_ad ad 0 (va_up (D 6 0) x f i))) = va_up (fun i => some (sc_ad ad 0 (D 6 0 i))) x (some (sc_ad ad 0 f)) := by
    funext i
    by_cases hi : i = x
    · subst hi; rw [va_up_self, va_up_self]
    · rw [va_up_ne _ _ hi, va_up_ne _ _ hi]
  rw [e]
/-- the classes and rows of the world, by the tables; the words of nest mates -/
def sc_ty (j : Nat) : FieldType := match j with
  | 23 => .boolean | 24 => .object RX0 | 25 => .object RX1 | 26 => .long | _ => .int
def sc_tys (cA : Nat → ClassId) : List (ClassId × FieldType) := sc_tab 27 (fun j => (cA j, sc_ty j))
theorem sc_tys_int {cA : Nat → ClassId} {j : Nat} (hj : j < 23) : (sc_tys cA)[j]? = some (cA j, .int) := by
  rw [sc_tys, sc_tab_get (by omega)]
  have e : sc_ty j = .int := by
    unfold sc_ty
    split <;> first | omega | rfl
  rw [e]
def sc_cl (k : Nat) : vw_C := match k with
  | 0 => (RX0, TX0, 8) | 1 => (RX1, TX1, 5) | 2 => (RX2, TX2, 17) | _ => (RX3, TX3, 33)
theorem sc_cl_at {k : Nat} (hk : k < 4) : vwCl[k]? = some (sc_cl k) := by
  rcases (show k = 0 ∨ k = 1 ∨ k = 2 ∨ k = 3 by omega) with rfl | rfl | rfl | rfl <;> rfl
theorem sc_cl_n {k : Nat} (hk : k < 4) : (sc_cl k).2.2 = sc_nf k := by
  rcases (show k = 0 ∨ k = 1 ∨ k = 2 ∨ k = 3 by omega) with rfl | rfl | rfl | rfl <;> rfl
def sc_G : List Cond := lw_tbl.filter goodWord
theorem sc_inG {w : Cond} (i : Nat) (h : tables_1[i]? = some w) (hg : goodWord w = true) : w ∈ sc_G := List.mem_filter.mpr ⟨List.mem_append_right _ (List.mem_of_getElem? h), hg⟩
theorem sc_inS {w : Cond} (i : Nat) (h : (k2_sels lw_privs)[i]? = some w) (hg : goodWord w = true) : w ∈ sc_G := List.mem_filter.mpr ⟨List.mem_append_left _ (List.mem_of_getElem? h), hg⟩
theorem sc_G_good {w : Cond} (h : w ∈ sc_G) : (w.onTables && w.keeps) = true ∨ ∃ ty, w = .arrayClass ty := good_of_word (List.mem_filter.mp h).2
