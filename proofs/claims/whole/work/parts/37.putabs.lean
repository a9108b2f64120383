/-- what put does to the references -/
theorem sc_vd_put {LP : List Nat} {D : sc_R} {q x : Nat} (hv : sc_vd LP D) : sc_vd (LP ++ [q]) (sc_u D 7 0 x q) := by
  obtain ⟨h1, h2, h3, h4⟩ := hv
  refine ⟨fun f hf => List.mem_append_left _ (h1 f hf), h2, fun i hi => ?_, List.mem_append_left _ h4⟩
  rw [sc_u_at]
  by_cases e : i = x
  · rw [e, va_up_self]
    exact List.mem_append_right _ List.mem_cons_self
  · rw [va_up_ne _ _ e]
    exact List.mem_append_left _ (h3 i hi)
theorem c_AB.put {I : sc_I} {D : sc_R} {S : sc_I} {LP : List Nat} {q x : Nat} {g : Nat → Int32} (h : c_AB I D S) (hv : sc_vd LP D) (hq : q ∉ LP) (hx : x < 64) : c_AB (ix_I q g I) (sc_u D 7 0 x q) (c_put x g S) := by
  obtain ⟨h1, h2, h3, h4, h5, h6, h7⟩ := h
  obtain ⟨v1, v2, v3, v4⟩ := hv
  have n1 : ∀ a, a ∈ LP → ix_I q g I 1 a = I 1 a := fun a ha => ix_I_ne (fun e => hq (by rw [← e.2]; exact ha))
  have k0 : ∀ a, ix_I q g I 0 a = I 0 a := fun a => ix_I_ne (fun e => absurd e.1 (by decide))
  have k2 : ∀ a, ix_I q g I 2 a = I 2 a := fun a => ix_I_ne (fun e => absurd e.1 (by decide))
  have k4 : ∀ a, ix_I q g I 4 a = I 4 a := fun a => ix_I_ne (fun e => absurd e.1 (by decide))
  have c64 : c_put x g S 7 64 = S 7 64 := by
    unfold c_put
    rw [sc_beq_ne (show 64 ≠ x by omega)]
    rfl
  refine ⟨h1, fun i hi => ?_, fun i hi => ?_, fun p hp => ?_, ?_, ?_, fun j hj => ?_⟩
  · show ix_I q g I 0 (D 6 0 i) = S 0 i
    rw [k0]; exact h2 i hi
  · show ix_I q g I 1 (D 0 (D 6 0 i) 1) = S 1 i
    rw [n1 _ (v1 _ (v2 i hi))]; exact h3 i hi
  · rw [sc_u_at]
    by_cases e : p = x
    · subst e
      rw [va_up_self, ix_I_at]
      unfold c_put
      rw [Nat.beq_refl, Nat.beq_refl]
      rfl
    · rw [va_up_ne _ _ e, n1 _ (v3 p hp), h4 p hp]
      unfold c_put
      rw [sc_beq_ne e]
      rfl
  · rw [c64]
    show ix_I q g I 1 (D 2 0 0) = S 7 64
    rw [n1 _ v4]; exact h5
  · show ix_I q g I 2 0 = S 2 0
    rw [k2]; exact h6
  · show ix_I q g I 4 j = S 4 j
    rw [k4]; exact h7 j hj
theorem ix_MS {I : sc_I} {q : Nat} {g : Nat → Int32} : c_MS I (ix_I q g I) := fun k i hm => ix_I_ne (fun e => by
  unfold c_mp at hm
  omega)
