/-! the class: its state seen by stages. S 0 i: the flight in stage i; S 1 i: its instruction; S 7 p: the instruction at place p (64: the one for no place); S 2 0: the object's numbers; S 4 j: its rows -/
def c_AB (I : sc_I) (D : sc_R) (S : sc_I) : Prop :=
  (∀ i j, i < 5 → j < 5 → D 6 0 i = D 6 0 j → i = j) ∧ (∀ i, i < 5 → I 0 (D 6 0 i) = S 0 i) ∧ (∀ i, i < 5 → I 1 (D 0 (D 6 0 i) 1) = S 1 i) ∧ (∀ p, p < 64 → I 1 (D 7 0 p) = S 7 p) ∧ I 1 (D 2 0 0) = S 7 64 ∧ I 2 0 = S 2 0 ∧ ∀ j, j < 4 → I 4 j = S 4 j
def c_mp (k i : Nat) : Prop := k = 3 ∨ k = 5 ∨ (k = 4 ∧ 4 ≤ i)
def c_MS (I0 I : sc_I) : Prop := ∀ k i, c_mp k i → I k i = I0 k i
def c_AM (I0 I : sc_I) (D : sc_R) (S : sc_I) : Prop := c_AB I D S ∧ c_MS I0 I
def c_x (i j : Nat) : Nat := bif Nat.beq j i then i + 1 else bif Nat.beq j (i + 1) then i else j
def c_sw (i : Nat) (S : sc_I) : sc_I := fun k j => bif (Nat.beq k 0 || Nat.beq k 1) then S k (c_x i j) else S k j
def c_in (p : Nat) (S : sc_I) : sc_I := fun k i => bif (Nat.beq k 1 && Nat.beq i 0) then S 7 p else S k i
section
variable {I0 I : sc_I} {D : sc_R} {S : sc_I}
theorem c_AM.fl (h : c_AM I0 I D S) {i : Nat} (hi : i < 5) (s : Nat) : I 0 (D 6 0 i) s = S 0 i s := congrFun (h.1.2.1 i hi) s
theorem c_AM.ir (h : c_AM I0 I D S) {i : Nat} (hi : i < 5) (s : Nat) : I 1 (D 0 (D 6 0 i) 1) s = S 1 i s := congrFun (h.1.2.2.1 i hi) s
theorem c_AM.pg (h : c_AM I0 I D S) {p : Nat} (hp : p < 64) (s : Nat) : I 1 (D 7 0 p) s = S 7 p s := congrFun (h.1.2.2.2.1 p hp) s
theorem c_AM.np (h : c_AM I0 I D S) (s : Nat) : I 1 (D 2 0 0) s = S 7 64 s := congrFun h.1.2.2.2.2.1 s
theorem c_AM.sc (h : c_AM I0 I D S) (s : Nat) : I 2 0 s = S 2 0 s := congrFun h.1.2.2.2.2.2.1 s
theorem c_AM.ar (h : c_AM I0 I D S) {j : Nat} (hj : j < 4) (x : Nat) : I 4 j x = S 4 j x := congrFun (h.1.2.2.2.2.2.2 j hj) x
theorem c_MS.put {k i s : Nat} {v : Int32} (h : c_MS I0 I) (hn : ¬ c_mp k i) : c_MS I0 (sc_u I k i s v) := fun a b hm => by
  rw [sc_u_row _ _ _ _ _ (fun e => hn (by rw [← e.1, ← e.2]; exact hm))]
  exact h a b hm
theorem c_AM.p0 (h : c_AM I0 I D S) {i s : Nat} {v w : Int32} (hi : i < 5) (hv : v = w) : c_AM I0 (sc_u I 0 (D 6 0 i) s v) D (sc_u S 0 i s w) := by
  subst hv
  obtain ⟨⟨h1, h2, h3, h4, h5, h6, h7⟩, hm⟩ := h
  refine ⟨⟨h1, fun j hj => ?_, h3, h4, h5, h6, h7⟩, hm.put (by unfold c_mp; omega)⟩
  by_cases e : j = i
  · subst e
    rw [sc_u_at, sc_u_at, h2 j hj]
  · rw [sc_u_row _ _ _ _ _ (fun z => e (h1 j i hj hi z.2)), sc_u_row _ _ _ _ _ (fun z => e z.2), h2 j hj]
theorem c_AM.p2 (h : c_AM I0 I D S) {s : Nat} {v w : Int32} (hv : v = w) : c_AM I0 (sc_u I 2 0 s v) D (sc_u S 2 0 s w) := by
  subst hv
  obtain ⟨⟨h1, h2, h3, h4, h5, h6, h7⟩, hm⟩ := h
  refine ⟨⟨h1, h2, h3, h4, h5, ?_, h7⟩, hm.put (by unfold c_mp; omega)⟩
  rw [sc_u_at, sc_u_at, h6]
theorem c_AM.p4 (h : c_AM I0 I D S) {j x y : Nat} {v w : Int32} (hj : j < 4) (hx : x = y) (hv : v = w) : c_AM I0 (sc_u I 4 j x v) D (sc_u S 4 j y w) := by
  subst hv
  subst hx
  obtain ⟨⟨h1, h2, h3, h4, h5, h6, h7⟩, hm⟩ := h
  refine ⟨⟨h1, h2, h3, h4, h5, h6, fun q hq => ?_⟩, hm.put (by unfold c_mp; omega)⟩
  by_cases e : q = j
  · subst e
    rw [sc_u_at, sc_u_at, h7 q hq]
  · rw [sc_u_row _ _ _ _ _ (fun z => e z.2), sc_u_row _ _ _ _ _ (fun z => e z.2), h7 q hq]
theorem c_x_i (i : Nat) : c_x i i = i + 1 := by unfold c_x; rw [Nat.beq_refl]; rfl
theorem c_x_s (i : Nat) : c_x i (i + 1) = i := by unfold c_x; rw [sc_beq_ne (show i + 1 ≠ i by omega), Nat.beq_refl]; rfl
theorem c_x_n {i j : Nat} (h1 : j ≠ i) (h2 : j ≠ i + 1) : c_x i j = j := by unfold c_x; rw [sc_beq_ne h1, sc_beq_ne h2]; rfl
theorem c_AM.sw (h : c_AM I0 I D S) {i : Nat} (hi : i + 1 < 5) : c_AM I0 I (sc_u (sc_u D 6 0 i (D 6 0 (i + 1))) 6 0 (i + 1) (D 6 0 i)) (c_sw i S) := by
  obtain ⟨⟨h1, h2, h3, h4, h5, h6, h7⟩, hm⟩ := h
  have e : ∀ j, sc_u (sc_u D 6 0 i (D 6 0 (i + 1))) 6 0 (i + 1) (D 6 0 i) 6 0 j = D 6 0 (c_x i j) := by
    intro j
    rw [sc_u_at]
    by_cases e1 : j = i + 1
    · subst e1
      rw [va_up_self, c_x_s]
    · rw [va_up_ne _ _ e1, sc_u_at]
      by_cases e2 : j = i
      · subst e2
        rw [va_up_self, c_x_i]
      · rw [va_up_ne _ _ e2, c_x_n e2 e1]
  have x5 : ∀ j, j < 5 → c_x i j < 5 := by
    intro j hj
    by_cases e1 : j = i
    · subst e1; rw [c_x_i]; exact hi
    · by_cases e2 : j = i + 1
      · subst e2; rw [c_x_s]; omega
      · rw [c_x_n e1 e2]; exact hj
  have xx : ∀ j, c_x i (c_x i j) = j := by
    intro j
    by_cases e1 : j = i
    · subst e1; rw [c_x_i, c_x_s]
    · by_cases e2 : j = i + 1
      · subst e2; rw [c_x_s, c_x_i]
      · rw [c_x_n e1 e2, c_x_n e1 e2]
  refine ⟨⟨fun a b ha hb hab => ?_, fun j hj => ?_, fun j hj => ?_, h4, h5, h6, h7⟩, hm⟩
  · rw [e, e] at hab
    have := h1 _ _ (x5 a ha) (x5 b hb) hab
    rw [← xx a, ← xx b, this]
  · rw [e]
    exact h2 _ (x5 j hj)
  · rw [e]
    exact h3 _ (x5 j hj)
theorem c_AM.ins (h : c_AM I0 I D S) {a p : Nat} (ha : I 1 a = S 7 p) : c_AM I0 I (sc_u D 0 (D 6 0 0) 1 a) (c_in p S) := by
  obtain ⟨⟨h1, h2, h3, h4, h5, h6, h7⟩, hm⟩ := h
  refine ⟨⟨h1, h2, fun j hj => ?_, h4, h5, h6, h7⟩, hm⟩
  show I 1 (sc_u D 0 (D 6 0 0) 1 a 0 (D 6 0 j) 1) = c_in p S 1 j
  by_cases e : j = 0
  · subst e
    rw [sc_u_at, va_up_self, ha]
    rfl
  · rw [sc_u_row _ _ _ _ _ (fun z => e (h1 j 0 hj (by decide) z.2)), h3 j hj]
    unfold c_in
    rw [sc_beq_ne e]
    rfl
end
def c_em5 (S : sc_I) : sc_I := sc_u (sc_u (sc_u (sc_u (sc_u S 0 0 0 0) 0 1 0 0) 0 2 0 0) 0 3 0 0) 0 4 0 0
def c_em2 (S : sc_I) : sc_I := sc_u (sc_u S 0 0 0 0) 0 1 0 0
def c_mv (i : Nat) (S : sc_I) : sc_I := if S 0 (i + 1) 0 = 0 then c_sw i S else S
abbrev S_empty5 (C : sc_CT) : Prop := ∀ (I : sc_I) (D : sc_R) (K : sc_RT) (I0 S : sc_I) (hA : c_AM I0 I D S) (h : ∀ I', c_AM I0 I' D (c_em5 S) → K none I' D), C 14 [.inr (2, 0), .inl 5] I D K
theorem z_empty5 (C : sc_CT)  (I : sc_I) (D : sc_R) (K : sc_RT) (I0 S : sc_I) (hA : c_AM I0 I D S) (h : ∀ I', c_AM I0 I' D (c_em5 S) → K none I' D) : sc_wp C K (sc_t 14) 5000 (sc_t 14) (sc_al 0 [.inr (2, 0), .inl 5]) [] I D := by
  exact br_f (by decide) (And.intro (sc_vi (by decide)) (And.intro (Or.inl rfl) (br_f (by decide) (And.intro (sc_vi (by decide)) (And.intro (Or.inl rfl) (br_f (by decide) (And.intro (sc_vi (by decide)) (And.intro (Or.inl rfl) (br_f (by decide) (And.intro (sc_vi (by decide)) (And.intro (Or.inl rfl) (br_f (by decide) (And.intro (sc_vi (by decide)) (And.intro (Or.inl rfl) (br_t (by decide) ((h _ (((((hA.p0 (i := 0) (by decide) rfl).p0 (i := 1) (by decide) rfl).p0 (i := 2) (by decide) rfl).p0 (i := 3) (by decide) rfl).p0 (i := 4) (by decide) rfl))))))))))))))))))
theorem x_empty5 (d : Nat) : S_empty5 (sc_wpM (d + 1)) := fun I D K I0 S hA h => sc_open (d := d) rfl (z_empty5 (sc_wpM (d))  I D K I0 S hA h)
abbrev S_empty2 (C : sc_CT) : Prop := ∀ (I : sc_I) (D : sc_R) (K : sc_RT) (I0 S : sc_I) (hA : c_AM I0 I D S) (h : ∀ I', c_AM I0 I' D (c_em2 S) → K none I' D), C 14 [.inr (2, 0), .inl 2] I D K
theorem z_empty2 (C : sc_CT)  (I : sc_I) (D : sc_R) (K : sc_RT) (I0 S : sc_I) (hA : c_AM I0 I D S) (h : ∀ I', c_AM I0 I' D (c_em2 S) → K none I' D) : sc_wp C K (sc_t 14) 5000 (sc_t 14) (sc_al 0 [.inr (2, 0), .inl 2]) [] I D := by
  exact br_f (by decide) (And.intro (sc_vi (by decide)) (And.intro (Or.inl rfl) (br_f (by decide) (And.intro (sc_vi (by decide)) (And.intro (Or.inl rfl) (br_t (by decide) ((h _ ((hA.p0 (i := 0) (by decide) rfl).p0 (i := 1) (by decide) rfl)))))))))
theorem x_empty2 (d : Nat) : S_empty2 (sc_wpM (d + 1)) := fun I D K I0 S hA h => sc_open (d := d) rfl (z_empty2 (sc_wpM (d))  I D K I0 S hA h)
abbrev S_move3 (C : sc_CT) : Prop := ∀ (I : sc_I) (D : sc_R) (K : sc_RT) (I0 S : sc_I) (hA : c_AM I0 I D S) (h : ∀ D', c_AM I0 I D' (c_mv 3 S) → K none I D'), C 20 [.inr (2, 0), .inl 3] I D K
theorem z_move3 (C : sc_CT)  (I : sc_I) (D : sc_R) (K : sc_RT) (I0 S : sc_I) (hA : c_AM I0 I D S) (h : ∀ D', c_AM I0 I D' (c_mv 3 S) → K none I D') : sc_wp C K (sc_t 20) 5000 (sc_t 20) (sc_al 0 [.inr (2, 0), .inl 3]) [] I D := by
  unfold c_mv at h
  refine And.intro (sc_vi (by decide)) ?_
  have e := hA.fl (i := 4) (by decide) 0
  by_cases b : S 0 4 0 = 0
  · rw [if_pos b] at h
    exact br_t (e.trans b) (And.intro (sc_vi (by decide)) (And.intro (sc_vi (by decide)) (And.intro (sc_vi (by decide)) (And.intro (sc_vi (by decide)) ((h _ (hA.sw (i := 3) (by decide))))))))
  · rw [if_neg b] at h
    exact br_f (fun z => b (e.symm.trans z)) (h _ hA)
theorem x_move3 (d : Nat) : S_move3 (sc_wpM (d + 1)) := fun I D K I0 S hA h => sc_open (d := d) rfl (z_move3 (sc_wpM (d))  I D K I0 S hA h)
abbrev S_move2 (C : sc_CT) : Prop := ∀ (I : sc_I) (D : sc_R) (K : sc_RT) (I0 S : sc_I) (hA : c_AM I0 I D S) (h : ∀ D', c_AM I0 I D' (c_mv 2 S) → K none I D'), C 20 [.inr (2, 0), .inl 2] I D K
theorem z_move2 (C : sc_CT)  (I : sc_I) (D : sc_R) (K : sc_RT) (I0 S : sc_I) (hA : c_AM I0 I D S) (h : ∀ D', c_AM I0 I D' (c_mv 2 S) → K none I D') : sc_wp C K (sc_t 20) 5000 (sc_t 20) (sc_al 0 [.inr (2, 0), .inl 2]) [] I D := by
  unfold c_mv at h
  refine And.intro (sc_vi (by decide)) ?_
  have e := hA.fl (i := 3) (by decide) 0
  by_cases b : S 0 3 0 = 0
  · rw [if_pos b] at h
    exact br_t (e.trans b) (And.intro (sc_vi (by decide)) (And.intro (sc_vi (by decide)) (And.intro (sc_vi (by decide)) (And.intro (sc_vi (by decide)) ((h _ (hA.sw (i := 2) (by decide))))))))
  · rw [if_neg b] at h
    exact br_f (fun z => b (e.symm.trans z)) (h _ hA)
theorem x_move2 (d : Nat) : S_move2 (sc_wpM (d + 1)) := fun I D K I0 S hA h => sc_open (d := d) rfl (z_move2 (sc_wpM (d))  I D K I0 S hA h)
abbrev S_move1 (C : sc_CT) : Prop := ∀ (I : sc_I) (D : sc_R) (K : sc_RT) (I0 S : sc_I) (hA : c_AM I0 I D S) (h : ∀ D', c_AM I0 I D' (c_mv 1 S) → K none I D'), C 20 [.inr (2, 0), .inl 1] I D K
theorem z_move1 (C : sc_CT)  (I : sc_I) (D : sc_R) (K : sc_RT) (I0 S : sc_I) (hA : c_AM I0 I D S) (h : ∀ D', c_AM I0 I D' (c_mv 1 S) → K none I D') : sc_wp C K (sc_t 20) 5000 (sc_t 20) (sc_al 0 [.inr (2, 0), .inl 1]) [] I D := by
  unfold c_mv at h
  refine And.intro (sc_vi (by decide)) ?_
  have e := hA.fl (i := 2) (by decide) 0
  by_cases b : S 0 2 0 = 0
  · rw [if_pos b] at h
    exact br_t (e.trans b) (And.intro (sc_vi (by decide)) (And.intro (sc_vi (by decide)) (And.intro (sc_vi (by decide)) (And.intro (sc_vi (by decide)) ((h _ (hA.sw (i := 1) (by decide))))))))
  · rw [if_neg b] at h
    exact br_f (fun z => b (e.symm.trans z)) (h _ hA)
theorem x_move1 (d : Nat) : S_move1 (sc_wpM (d + 1)) := fun I D K I0 S hA h => sc_open (d := d) rfl (z_move1 (sc_wpM (d))  I D K I0 S hA h)
abbrev S_move0 (C : sc_CT) : Prop := ∀ (I : sc_I) (D : sc_R) (K : sc_RT) (I0 S : sc_I) (hA : c_AM I0 I D S) (h : ∀ D', c_AM I0 I D' (c_mv 0 S) → K none I D'), C 20 [.inr (2, 0), .inl 0] I D K
theorem z_move0 (C : sc_CT)  (I : sc_I) (D : sc_R) (K : sc_RT) (I0 S : sc_I) (hA : c_AM I0 I D S) (h : ∀ D', c_AM I0 I D' (c_mv 0 S) → K none I D') : sc_wp C K (sc_t 20) 5000 (sc_t 20) (sc_al 0 [.inr (2, 0), .inl 0]) [] I D := by
  unfold c_mv at h
  refine And.intro (sc_vi (by decide)) ?_
  have e := hA.fl (i := 1) (by decide) 0
  by_cases b : S 0 1 0 = 0
  · rw [if_pos b] at h
    exact br_t (e.trans b) (And.intro (sc_vi (by decide)) (And.intro (sc_vi (by decide)) (And.intro (sc_vi (by decide)) (And.intro (sc_vi (by decide)) ((h _ (hA.sw (i := 0) (by decide))))))))
  · rw [if_neg b] at h
    exact br_f (fun z => b (e.symm.trans z)) (h _ hA)
theorem x_move0 (d : Nat) : S_move0 (sc_wpM (d + 1)) := fun I D K I0 S hA h => sc_open (d := d) rfl (z_move0 (sc_wpM (d))  I D K I0 S hA h)
