theorem c_in0 {w n : Int32} {N : Nat} (h : 0 ≤ w ∧ w < n) (hn : n.toInt ≤ (N : Int)) : vp_in w N := by
  have a : (0 : Int) ≤ w.toInt := Int32.le_iff_toInt_le.mp h.1
  have b := Int32.lt_iff_toInt_lt.mp h.2
  exact vp_in_iff.mpr ⟨a, by omega⟩
abbrev S_poke (C : sc_CT) : Prop := ∀ (I : sc_I) (D : sc_R) (K : sc_RT) (I0 S : sc_I) (w v : Int32) (hA : c_AM I0 I D S) (ha : 0 ≤ w ∧ w < 32) (h : ∀ I', c_AM I0 I' D (sc_u S 4 0 w.toNatClampNeg v) → K (some (.inl (S 4 0 w.toNatClampNeg))) I' D), C 10 [.inr (2, 0), .inl w, .inl v] I D K
theorem z_poke (C : sc_CT) (c1 : S_checkIdx C) (I : sc_I) (D : sc_R) (K : sc_RT) (I0 S : sc_I) (w v : Int32) (hA : c_AM I0 I D S) (ha : 0 ≤ w ∧ w < 32) (h : ∀ I', c_AM I0 I' D (sc_u S 4 0 w.toNatClampNeg v) → K (some (.inl (S 4 0 w.toNatClampNeg))) I' D) : sc_wp C K (sc_t 10) 5000 (sc_t 10) (sc_al 0 [.inr (2, 0), .inl w, .inl v]) [] I D := by
  have hv : vp_in w 32 := c_in0 ha (by decide)
  refine c1 _ _ _ _ _ ha (And.intro hv (And.intro hv ?_))
  have h := h _ (hA.p4 (j := 0) (by decide) rfl rfl)
  rw [← hA.ar (j := 0) (by decide)] at h
  exact h
theorem x_poke (d : Nat) : S_poke (sc_wpM (d + 2)) := fun I D K I0 S w v hA ha h => sc_open (d := d + 1) rfl (z_poke (sc_wpM (d + 1)) (x_checkIdx (d + 0)) I D K I0 S w v hA ha h)
abbrev S_peek (C : sc_CT) : Prop := ∀ (I : sc_I) (D : sc_R) (K : sc_RT) (I0 S : sc_I) (w : Int32) (hA : c_AM I0 I D S) (ha : 0 ≤ w ∧ w < 32) (h : K (some (.inl (S 4 0 w.toNatClampNeg))) I D), C 11 [.inr (2, 0), .inl w] I D K
theorem z_peek (C : sc_CT) (c1 : S_checkIdx C) (I : sc_I) (D : sc_R) (K : sc_RT) (I0 S : sc_I) (w : Int32) (hA : c_AM I0 I D S) (ha : 0 ≤ w ∧ w < 32) (h : K (some (.inl (S 4 0 w.toNatClampNeg))) I D) : sc_wp C K (sc_t 11) 5000 (sc_t 11) (sc_al 0 [.inr (2, 0), .inl w]) [] I D := by
  rw [← hA.ar (j := 0) (by decide)] at h
  exact c1 _ _ _ _ _ ha (And.intro (c_in0 ha (by decide)) h)
theorem x_peek (d : Nat) : S_peek (sc_wpM (d + 2)) := fun I D K I0 S w hA ha h => sc_open (d := d + 1) rfl (z_peek (sc_wpM (d + 1)) (x_checkIdx (d + 0)) I D K I0 S w hA ha h)
abbrev S_set (C : sc_CT) : Prop := ∀ (I : sc_I) (D : sc_R) (K : sc_RT) (I0 S : sc_I) (w v : Int32) (hA : c_AM I0 I D S) (ha : 0 ≤ w ∧ w < 16) (h0 : ¬ w = 0) (h : ∀ I', c_AM I0 I' D (sc_u S 4 1 w.toNatClampNeg v) → K (some (.inl (S 4 1 w.toNatClampNeg))) I' D), C 12 [.inr (2, 0), .inl w, .inl v] I D K
theorem z_set (C : sc_CT) (c1 : S_checkIdx C) (I : sc_I) (D : sc_R) (K : sc_RT) (I0 S : sc_I) (w v : Int32) (hA : c_AM I0 I D S) (ha : 0 ≤ w ∧ w < 16) (h0 : ¬ w = 0) (h : ∀ I', c_AM I0 I' D (sc_u S 4 1 w.toNatClampNeg v) → K (some (.inl (S 4 1 w.toNatClampNeg))) I' D) : sc_wp C K (sc_t 12) 5000 (sc_t 12) (sc_al 0 [.inr (2, 0), .inl w, .inl v]) [] I D := by
  have hv : vp_in w 16 := c_in0 ha (by decide)
  refine c1 _ _ _ _ _ ha (br_f h0 (And.intro hv (And.intro hv ?_)))
  have h := h _ (hA.p4 (j := 1) (by decide) rfl rfl)
  rw [← hA.ar (j := 1) (by decide)] at h
  exact h
theorem x_set (d : Nat) : S_set (sc_wpM (d + 2)) := fun I D K I0 S w v hA ha h0 h => sc_open (d := d + 1) rfl (z_set (sc_wpM (d + 1)) (x_checkIdx (d + 0)) I D K I0 S w v hA ha h0 h)
abbrev S_register (C : sc_CT) : Prop := ∀ (I : sc_I) (D : sc_R) (K : sc_RT) (I0 S : sc_I) (w : Int32) (hA : c_AM I0 I D S) (ha : 0 ≤ w ∧ w < 16) (h : K (some (.inl (S 4 1 w.toNatClampNeg))) I D), C 13 [.inr (2, 0), .inl w] I D K
theorem z_register (C : sc_CT) (c1 : S_checkIdx C) (I : sc_I) (D : sc_R) (K : sc_RT) (I0 S : sc_I) (w : Int32) (hA : c_AM I0 I D S) (ha : 0 ≤ w ∧ w < 16) (h : K (some (.inl (S 4 1 w.toNatClampNeg))) I D) : sc_wp C K (sc_t 13) 5000 (sc_t 13) (sc_al 0 [.inr (2, 0), .inl w]) [] I D := by
  rw [← hA.ar (j := 1) (by decide)] at h
  exact c1 _ _ _ _ _ ha (And.intro (c_in0 ha (by decide)) h)
theorem x_register (d : Nat) : S_register (sc_wpM (d + 2)) := fun I D K I0 S w hA ha h => sc_open (d := d + 1) rfl (z_register (sc_wpM (d + 1)) (x_checkIdx (d + 0)) I D K I0 S w hA ha h)
abbrev S_start (C : sc_CT) : Prop := ∀ (I : sc_I) (D : sc_R) (K : sc_RT) (I0 S : sc_I) (w : Int32) (hA : c_AM I0 I D S) (ha : 0 ≤ w ∧ w < 64) (h : ∀ I', c_AM I0 I' D (sc_u (sc_u (c_em5 S) 2 0 7 w) 2 0 11 0) → K none I' D), C 15 [.inr (2, 0), .inl w] I D K
theorem z_start (C : sc_CT) (c1 : S_checkIdx C) (c2 : S_empty5 C) (I : sc_I) (D : sc_R) (K : sc_RT) (I0 S : sc_I) (w : Int32) (hA : c_AM I0 I D S) (ha : 0 ≤ w ∧ w < 64) (h : ∀ I', c_AM I0 I' D (sc_u (sc_u (c_em5 S) 2 0 7 w) 2 0 11 0) → K none I' D) : sc_wp C K (sc_t 15) 5000 (sc_t 15) (sc_al 0 [.inr (2, 0), .inl w]) [] I D := by
  exact c1 _ _ _ _ _ ha (c2 _ _ _ I0 _ hA (fun I1 A1 => And.intro (Or.inl rfl) (h _ ((A1.p2 rfl).p2 rfl))))
theorem x_start (d : Nat) : S_start (sc_wpM (d + 2)) := fun I D K I0 S w hA ha h => sc_open (d := d + 1) rfl (z_start (sc_wpM (d + 1)) (x_checkIdx (d + 0)) (x_empty5 (d + 0)) I D K I0 S w hA ha h)
abbrev S_handler (C : sc_CT) : Prop := ∀ (I : sc_I) (D : sc_R) (K : sc_RT) (I0 S : sc_I) (w : Int32) (hA : c_AM I0 I D S) (ha : 0 ≤ w ∧ w < 64) (h : ∀ I', c_AM I0 I' D (sc_u S 2 0 8 w) → K (some (.inl (S 2 0 8))) I' D), C 16 [.inr (2, 0), .inl w] I D K
theorem z_handler (C : sc_CT) (c1 : S_checkIdx C) (I : sc_I) (D : sc_R) (K : sc_RT) (I0 S : sc_I) (w : Int32) (hA : c_AM I0 I D S) (ha : 0 ≤ w ∧ w < 64) (h : ∀ I', c_AM I0 I' D (sc_u S 2 0 8 w) → K (some (.inl (S 2 0 8))) I' D) : sc_wp C K (sc_t 16) 5000 (sc_t 16) (sc_al 0 [.inr (2, 0), .inl w]) [] I D := by
  have h := h _ (hA.p2 (s := 8) rfl)
  rw [← hA.sc] at h
  exact c1 _ _ _ _ _ ha h
theorem x_handler (d : Nat) : S_handler (sc_wpM (d + 2)) := fun I D K I0 S w hA ha h => sc_open (d := d + 1) rfl (z_handler (sc_wpM (d + 1)) (x_checkIdx (d + 0)) I D K I0 S w hA ha h)
abbrev S_stage (C : sc_CT) : Prop := ∀ (I : sc_I) (D : sc_R) (K : sc_RT) (I0 S : sc_I) (w : Int32) (hA : c_AM I0 I D S) (ha : 0 ≤ w ∧ w < 5) (h1 : ¬ S 0 w.toNatClampNeg 0 = 0 → K (some (.inl (S 0 w.toNatClampNeg 2))) I D) (h2 : S 0 w.toNatClampNeg 0 = 0 → K (some (.inl (-1))) I D), C 38 [.inr (2, 0), .inl w] I D K
theorem z_stage (C : sc_CT) (c1 : S_checkIdx C) (I : sc_I) (D : sc_R) (K : sc_RT) (I0 S : sc_I) (w : Int32) (hA : c_AM I0 I D S) (ha : 0 ≤ w ∧ w < 5) (h1 : ¬ S 0 w.toNatClampNeg 0 = 0 → K (some (.inl (S 0 w.toNatClampNeg 2))) I D) (h2 : S 0 w.toNatClampNeg 0 = 0 → K (some (.inl (-1))) I D) : sc_wp C K (sc_t 38) 5000 (sc_t 38) (sc_al 0 [.inr (2, 0), .inl w]) [] I D := by
  have hv : vp_in w 5 := c_in0 ha (by decide)
  have e0 := hA.fl (sc_cln hv) 0
  rw [← hA.fl (sc_cln hv) 2] at h1
  rw [← e0] at h1 h2
  exact c1 _ _ _ _ _ ha (And.intro hv (And.intro (fun z => h2 z) (fun z => h1 z)))
theorem x_stage (d : Nat) : S_stage (sc_wpM (d + 2)) := fun I D K I0 S w hA ha h1 h2 => sc_open (d := d + 1) rfl (z_stage (sc_wpM (d + 1)) (x_checkIdx (d + 0)) I D K I0 S w hA ha h1 h2)
abbrev S_counter (C : sc_CT) : Prop := ∀ (I : sc_I) (D : sc_R) (K : sc_RT) (I0 S : sc_I) (w : Int32) (hA : c_AM I0 I D S) (ha : 0 ≤ w ∧ w < 8) (h : K (some (.inl (S 4 2 w.toNatClampNeg))) I D), C 39 [.inr (2, 0), .inl w] I D K
theorem z_counter (C : sc_CT) (c1 : S_checkIdx C) (I : sc_I) (D : sc_R) (K : sc_RT) (I0 S : sc_I) (w : Int32) (hA : c_AM I0 I D S) (ha : 0 ≤ w ∧ w < 8) (h : K (some (.inl (S 4 2 w.toNatClampNeg))) I D) : sc_wp C K (sc_t 39) 5000 (sc_t 39) (sc_al 0 [.inr (2, 0), .inl w]) [] I D := by
  rw [← hA.ar (j := 2) (by decide)] at h
  exact c1 _ _ _ _ _ ha (And.intro (c_in0 ha (by decide)) h)
theorem x_counter (d : Nat) : S_counter (sc_wpM (d + 2)) := fun I D K I0 S w hA ha h => sc_open (d := d + 1) rfl (z_counter (sc_wpM (d + 1)) (x_checkIdx (d + 0)) I D K I0 S w hA ha h)
def c_m16 (x : Int32) : Int32 := if 16 < x then 16 else x
abbrev S_retired (C : sc_CT) : Prop := ∀ (I : sc_I) (D : sc_R) (K : sc_RT) (I0 S : sc_I) (w : Int32) (hA : c_AM I0 I D S) (ha : 0 ≤ w ∧ w < c_m16 (S 2 0 13)) (hx : vp_in (c_rm (S 2 0 13 - 1 - w)) 16) (h : K (some (.inl (S 4 3 (c_rm (S 2 0 13 - 1 - w)).toNatClampNeg))) I D), C 40 [.inr (2, 0), .inl w] I D K
theorem z_retired (C : sc_CT) (c1 : S_checkIdx C) (c2 : S_min C) (I : sc_I) (D : sc_R) (K : sc_RT) (I0 S : sc_I) (w : Int32) (hA : c_AM I0 I D S) (ha : 0 ≤ w ∧ w < c_m16 (S 2 0 13)) (hx : vp_in (c_rm (S 2 0 13 - 1 - w)) 16) (h : K (some (.inl (S 4 3 (c_rm (S 2 0 13 - 1 - w)).toNatClampNeg))) I D) : sc_wp C K (sc_t 40) 5000 (sc_t 40) (sc_al 0 [.inr (2, 0), .inl w]) [] I D := by
  have e := hA.sc 13
  rw [← hA.ar (j := 3) (by decide)] at h
  rw [← e] at ha hx h
  unfold c_m16 at ha
  refine c2 _ _ _ _ _ (fun a => ?_) (fun a => ?_)
  · rw [if_pos a] at ha
    exact c1 _ _ _ _ _ ha (And.intro (by decide) (And.intro hx h))
  · rw [if_neg a] at ha
    exact c1 _ _ _ _ _ ha (And.intro (by decide) (And.intro hx h))
theorem x_retired (d : Nat) : S_retired (sc_wpM (d + 2)) := fun I D K I0 S w hA ha hx h => sc_open (d := d + 1) rfl (z_retired (sc_wpM (d + 1)) (x_checkIdx (d + 0)) (x_min (d + 0)) I D K I0 S w hA ha hx h)
def c_cnt (w : Int32) (S : sc_I) : Int32 := if w = 0 then S 2 0 12 else if w = 1 then S 2 0 13 else if w = 2 then S 2 0 14 else if w = 3 then S 2 0 15 else if w = 4 then S 2 0 16 else if w = 5 then S 2 0 7 else if w = 6 then S 2 0 9 else if w = 7 then S 2 0 10 else if S 2 0 11 = 0 then 0 else 1
abbrev S_count (C : sc_CT) : Prop := ∀ (I : sc_I) (D : sc_R) (K : sc_RT) (I0 S : sc_I) (w : Int32) (hA : c_AM I0 I D S) (ha : 0 ≤ w ∧ w ≤ 8) (h : K (some (.inl (c_cnt w S))) I D), C 41 [.inr (2, 0), .inl w] I D K
theorem z_count (C : sc_CT)  (I : sc_I) (D : sc_R) (K : sc_RT) (I0 S : sc_I) (w : Int32) (hA : c_AM I0 I D S) (ha : 0 ≤ w ∧ w ≤ 8) (h : K (some (.inl (c_cnt w S))) I D) : sc_wp C K (sc_t 41) 5000 (sc_t 41) (sc_al 0 [.inr (2, 0), .inl w]) [] I D := by
  unfold c_cnt at h
  rw [← hA.sc, ← hA.sc, ← hA.sc, ← hA.sc, ← hA.sc, ← hA.sc, ← hA.sc, ← hA.sc, ← hA.sc] at h
  refine And.intro (fun z => ?_) (fun z0 => ?_)
  · rw [if_pos z] at h; exact h
  rw [if_neg z0] at h
  refine And.intro (fun z => ?_) (fun z1 => ?_)
  · rw [if_pos z] at h; exact h
  rw [if_neg z1] at h
  refine And.intro (fun z => ?_) (fun z2 => ?_)
  · rw [if_pos z] at h; exact h
  rw [if_neg z2] at h
  refine And.intro (fun z => ?_) (fun z3 => ?_)
  · rw [if_pos z] at h; exact h
  rw [if_neg z3] at h
  refine And.intro (fun z => ?_) (fun z4 => ?_)
  · rw [if_pos z] at h; exact h
  rw [if_neg z4] at h
  refine And.intro (fun z => ?_) (fun z5 => ?_)
  · rw [if_pos z] at h; exact h
  rw [if_neg z5] at h
  refine And.intro (fun z => ?_) (fun z6 => ?_)
  · rw [if_pos z] at h; exact h
  rw [if_neg z6] at h
  refine And.intro (fun z => ?_) (fun z7 => ?_)
  · rw [if_pos z] at h; exact h
  rw [if_neg z7] at h
  refine And.intro (fun z => ?_) (fun z8 => ?_)
  · refine And.intro (fun y => ?_) (fun y => ?_)
    · rw [if_pos y] at h; exact h
    · rw [if_neg y] at h; exact h
  · exfalso
    have z0 : ¬ w = 0 := z0
    have z1 : ¬ w = 1 := z1
    have z2 : ¬ w = 2 := z2
    have z3 : ¬ w = 3 := z3
    have z4 : ¬ w = 4 := z4
    have z5 : ¬ w = 5 := z5
    have z6 : ¬ w = 6 := z6
    have z7 : ¬ w = 7 := z7
    have z8 : ¬ w = 8 := z8
    grind
theorem x_count (d : Nat) : S_count (sc_wpM (d + 1)) := fun I D K I0 S w hA ha h => sc_open (d := d) rfl (z_count (sc_wpM (d))  I D K I0 S w hA ha h)
