theorem va_D_fst {A : Nat → Prop} {w w' : va_W} (e : w.map (fun q => q.1) = w'.map (fun q => q.1)) (h : va_D A w) : va_D A w' := by
  have key : ∀ (k : Nat) (q' : Nat × va_E), w'[k]? = some q' → ∃ q, w[k]? = some q ∧ q.1 = q'.1 := by
    intro k q' hk
    have h1 : (w'.map (fun q => q.1))[k]? = some q'.1 := by rw [List.getElem?_map, hk]; rfl
    rw [← e, List.getElem?_map] at h1
    cases hq : w[k]? with
    | none => rw [hq] at h1; cases h1
    | some q => rw [hq] at h1; exact ⟨q, rfl, Option.some.inj h1⟩
  refine ⟨fun i j p q hi hj hpq => ?_, fun k q hk => ?_⟩
  · obtain ⟨p', a1, a2⟩ := key i p hi
    obtain ⟨q', b1, b2⟩ := key j q hj
    exact h.1 i j p' q' a1 b1 (by rw [a2, b2, hpq])
  · obtain ⟨q', a1, a2⟩ := key k q hk
    rw [← a2]
    exact h.2 k q' a1
theorem sc_w_fst {ad : Nat → Nat} {cA : Nat → ClassId} {LP : List Nat} {o : Nat → Int64} {I : sc_I} {D : sc_R} : (sc_w ad cA LP o I D).map (fun q => q.1) = sc_tab 34 ad ++ LP := by
  unfold sc_w sc_tab va_pl
  rw [List.map_append, List.map_map, List.map_map]
  congr 1
  exact List.map_id' LP
/-- apart: only the addresses matter -/
theorem sc_D_any {A : Nat → Prop} {ad : Nat → Nat} {cA : Nat → ClassId} {LP : List Nat} {o : Nat → Int64} {I : sc_I} {D : sc_R} (h : va_D A (sc_w ad cA LP o I D)) (o' : Nat → Int64) (I' : sc_I) (D' : sc_R) : va_D A (sc_w ad cA LP o' I' D') := va_D_fst (by rw [sc_w_fst, sc_w_fst]) h
/-- one more instruction in the pool -/
def ix_I (q : Nat) (g : Nat → Int32) (I : sc_I) : sc_I := fun k i => bif (Nat.beq k 1 && Nat.beq i q) then g else I k i
theorem ix_I_ne {q : Nat} {g : Nat → Int32} {I : sc_I} {k i : Nat} (h : ¬ (k = 1 ∧ i = q)) : ix_I q g I k i = I k i := by
  unfold ix_I
  by_cases h1 : k = 1
  · have h2 : i ≠ q := fun e => h ⟨h1, e⟩
    rw [sc_beq_ne h2, Bool.and_false]
    rfl
  · rw [sc_beq_ne h1]
    rfl
theorem ix_I_at {q : Nat} {g : Nat → Int32} {I : sc_I} : ix_I q g I 1 q = g := by
  unfold ix_I
  rw [Nat.beq_refl, Nat.beq_refl]
  rfl
theorem ix_kd : ∀ p, p < 34 → sc_kd p ≠ 1 := by decide
theorem sc_w_push {ad : Nat → Nat} {cA : Nat → ClassId} {LP : List Nat} {o : Nat → Int64} {I : sc_I} {D : sc_R} {q : Nat} {g : Nat → Int32} (hq : q ∉ LP) : sc_w ad cA LP o I D ++ [(q, .inr (1, [.int (g 0), .int (g 1), .int (g 2), .int (g 3), .int (g 4)]))] = sc_w ad cA (LP ++ [q]) o (ix_I q g I) D := by
  unfold sc_w
  rw [List.append_assoc, va_pl_push hq]
  have e1 : sc_tab 34 (fun p => (ad p, sc_mk ad cA o p (I (sc_kd p) (sc_ix p)) (D (sc_kd p) (sc_ix p)))) = sc_tab 34 (fun p => (ad p, sc_mk ad cA o p (ix_I q g I (sc_kd p) (sc_ix p)) (D (sc_kd p) (sc_ix p)))) := sc_tab_congr (fun p hp => by rw [ix_I_ne (fun e => ix_kd p hp e.1)])
  rw [e1]
  refine congrArg _ (va_pl_congr (fun a => ?_))
  by_cases e : a = q
  · subst e
    rw [va_up_self, ix_I_at]
    rfl
  · rw [va_up_ne _ _ e, ix_I_ne (fun z => e z.2)]
theorem sc_w_progset {ad : Nat → Nat} {cA : Nat → ClassId} {LP : List Nat} {o : Nat → Int64} {I : sc_I} {D : sc_R} (x f : Nat) : (sc_w ad cA LP o I D).set 9 (ad 9, .inl (cA 25, 64, .inr (.inr (.inr (.inr (va_up (fun i => some (sc_ad ad 1 (D 7 0 i))) x (some f))))))) = sc_w ad cA LP o I (sc_u D 7 0 x f) := by
  refine sc_w_set (show 9 < 34 by decide) (fun q hq hne => ⟨rfl, sc_rows (k := 7) (i := 0) q hq hne⟩) ?_ (fun a => ⟨rfl, sc_rows1 (by decide) a⟩)
  show (Sum.inl (cA 25, 64, .inr (.inr (.inr (.inr (fun i => some (sc_ad ad 1 (sc_u D 7 0 x f 7 0 i))))))) : va_E) = _
  rw [sc_u_at]
  have e : (fun i => some (sc_ad ad 1 (va_up (D 7 0) x f i))) = va_up (fun i => some (sc_ad ad 1 (D 7 0 i))) x (some f) := by
    funext i
    by_cases hi : i = x
    · subst hi; rw [va_up_self, va_up_self]; rfl
    · rw [va_up_ne _ _ hi, va_up_ne _ _ hi]
  rw [e]
theorem sc_tys25 {cA : Nat → ClassId} : (sc_tys cA)[25]? = some (cA 25, .object RX1) := by
  rw [sc_tys, sc_tab_get (by decide)]
  rfl
