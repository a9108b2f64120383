theorem m_vr {w lo hi : Int32} {N : Nat} (h : lo ≤ w ∧ w ≤ hi) (h0 : 0 ≤ lo.toInt) (h1 : hi.toInt < (N : Int)) : vp_in w N := by
  have a := Int32.le_iff_toInt_le.mp h.1
  have b := Int32.le_iff_toInt_le.mp h.2
  exact vp_in_iff.mpr ⟨by omega, by omega⟩
abbrev m_pok (o d s t n : Int32) : Prop := (0 ≤ o ∧ o ≤ 19) ∧ (0 ≤ d ∧ d ≤ 15) ∧ (0 ≤ s ∧ s ≤ 15) ∧ (0 ≤ t ∧ t ≤ 15) ∧ (-64 ≤ n ∧ n ≤ 63)
def m_pt (p o d s t n : Int32) (J : sc_I) : sc_I := sc_u (sc_u (sc_u (sc_u (sc_u J 4 4 p.toNatClampNeg o) 4 5 p.toNatClampNeg d) 4 6 p.toNatClampNeg s) 4 7 p.toNatClampNeg t) 4 8 p.toNatClampNeg n
abbrev S_m_put (C : sc_CT) : Prop := ∀ (I : sc_I) (D : sc_R) (K : sc_RT) (p o dd s t n : Int32) (h1 : ¬ (0 ≤ p ∧ p ≤ 63) → K none (sc_u I 3 0 0 1) D) (h2 : (0 ≤ p ∧ p ≤ 63) → ¬ m_pok o dd s t n → K none (sc_u (sc_u I 3 0 0 0) 3 0 0 2) D) (h3 : (0 ≤ p ∧ p ≤ 63) → m_pok o dd s t n → K none (m_pt p o dd s t n (sc_u I 3 0 0 0)) D), C 45 [.inr (3, 0), .inl p, .inl o, .inl dd, .inl s, .inl t, .inl n] I D K
set_option maxRecDepth 100000 in
set_option maxHeartbeats 4000000 in
theorem z_m_put (C : sc_CT) (c1 : S_m_out C) (c2 : S_m_in C) (I : sc_I) (D : sc_R) (K : sc_RT) (p o dd s t n : Int32) (h1 : ¬ (0 ≤ p ∧ p ≤ 63) → K none (sc_u I 3 0 0 1) D) (h2 : (0 ≤ p ∧ p ≤ 63) → ¬ m_pok o dd s t n → K none (sc_u (sc_u I 3 0 0 0) 3 0 0 2) D) (h3 : (0 ≤ p ∧ p ≤ 63) → m_pok o dd s t n → K none (m_pt p o dd s t n (sc_u I 3 0 0 0)) D) : sc_wp C K (sc_t 45) 5000 (sc_t 45) (sc_al 0 [.inr (3, 0), .inl p, .inl o, .inl dd, .inl s, .inl t, .inl n]) [] I D := by
  refine c1 _ _ _ _ _ _ (fun a => br_t (by decide) ?_) (fun a => br_f (by decide) (h1 a))
  have hv : vp_in p 64 := m_vr a (by decide) (by decide)
  refine c2 _ _ _ _ _ _ (fun b1 => br_f (by decide) ?_) (fun b1 => br_t (by decide) (h2 a (fun z => b1 z.1)))
  refine c2 _ _ _ _ _ _ (fun b2 => br_f (by decide) ?_) (fun b2 => br_t (by decide) (h2 a (fun z => b2 z.2.1)))
  refine c2 _ _ _ _ _ _ (fun b3 => br_f (by decide) ?_) (fun b3 => br_t (by decide) (h2 a (fun z => b3 z.2.2.1)))
  refine c2 _ _ _ _ _ _ (fun b4 => br_f (by decide) ?_) (fun b4 => br_t (by decide) (h2 a (fun z => b4 z.2.2.2.1)))
  refine c2 _ _ _ _ _ _ (fun b5 => br_f (by decide) ?_) (fun b5 => br_t (by decide) (h2 a (fun z => b5 z.2.2.2.2)))
  exact And.intro hv (And.intro hv (And.intro hv (And.intro hv (And.intro hv (h3 a ⟨b1, b2, b3, b4, b5⟩)))))
theorem x_m_put (d : Nat) : S_m_put (sc_wpM (d + 2)) := fun I D K p o dd s t n h1 h2 h3 => sc_open (d := d + 1) rfl (z_m_put (sc_wpM (d + 1)) (x_m_out (d + 0)) (x_m_in (d + 0)) I D K p o dd s t n h1 h2 h3)
abbrev S_m_poke (C : sc_CT) : Prop := ∀ (I : sc_I) (D : sc_R) (K : sc_RT) (w v : Int32) (h1 : (0 ≤ w ∧ w ≤ 31) → K (some (.inl (I 4 9 w.toNatClampNeg))) (sc_u (sc_u I 3 0 0 0) 4 9 w.toNatClampNeg v) D) (h2 : ¬ (0 ≤ w ∧ w ≤ 31) → K (some (.inl 0)) (sc_u I 3 0 0 1) D), C 46 [.inr (3, 0), .inl w, .inl v] I D K
theorem z_m_poke (C : sc_CT) (c1 : S_m_out C) (I : sc_I) (D : sc_R) (K : sc_RT) (w v : Int32) (h1 : (0 ≤ w ∧ w ≤ 31) → K (some (.inl (I 4 9 w.toNatClampNeg))) (sc_u (sc_u I 3 0 0 0) 4 9 w.toNatClampNeg v) D) (h2 : ¬ (0 ≤ w ∧ w ≤ 31) → K (some (.inl 0)) (sc_u I 3 0 0 1) D) : sc_wp C K (sc_t 46) 5000 (sc_t 46) (sc_al 0 [.inr (3, 0), .inl w, .inl v]) [] I D := by
  refine c1 _ _ _ _ _ _ (fun a => br_t (by decide) ?_) (fun a => br_f (by decide) (h2 a))
  have hv : vp_in w 32 := m_vr a (by decide) (by decide)
  exact And.intro hv (And.intro hv (h1 a))
theorem x_m_poke (d : Nat) : S_m_poke (sc_wpM (d + 2)) := fun I D K w v h1 h2 => sc_open (d := d + 1) rfl (z_m_poke (sc_wpM (d + 1)) (x_m_out (d + 0)) I D K w v h1 h2)
abbrev S_m_peek (C : sc_CT) : Prop := ∀ (I : sc_I) (D : sc_R) (K : sc_RT) (w : Int32) (h1 : (0 ≤ w ∧ w ≤ 31) → K (some (.inl (I 4 9 w.toNatClampNeg))) (sc_u I 3 0 0 0) D) (h2 : ¬ (0 ≤ w ∧ w ≤ 31) → K (some (.inl 0)) (sc_u I 3 0 0 1) D), C 47 [.inr (3, 0), .inl w] I D K
theorem z_m_peek (C : sc_CT) (c1 : S_m_out C) (I : sc_I) (D : sc_R) (K : sc_RT) (w : Int32) (h1 : (0 ≤ w ∧ w ≤ 31) → K (some (.inl (I 4 9 w.toNatClampNeg))) (sc_u I 3 0 0 0) D) (h2 : ¬ (0 ≤ w ∧ w ≤ 31) → K (some (.inl 0)) (sc_u I 3 0 0 1) D) : sc_wp C K (sc_t 47) 5000 (sc_t 47) (sc_al 0 [.inr (3, 0), .inl w]) [] I D := by
  refine c1 _ _ _ _ _ _ (fun a => br_t (by decide) ?_) (fun a => br_f (by decide) (h2 a))
  have hv : vp_in w 32 := m_vr a (by decide) (by decide)
  exact And.intro hv (h1 a)
theorem x_m_peek (d : Nat) : S_m_peek (sc_wpM (d + 2)) := fun I D K w h1 h2 => sc_open (d := d + 1) rfl (z_m_peek (sc_wpM (d + 1)) (x_m_out (d + 0)) I D K w h1 h2)
abbrev S_m_set (C : sc_CT) : Prop := ∀ (I : sc_I) (D : sc_R) (K : sc_RT) (w v : Int32) (h1 : (1 ≤ w ∧ w ≤ 15) → K (some (.inl (I 4 10 w.toNatClampNeg))) (sc_u (sc_u I 3 0 0 0) 4 10 w.toNatClampNeg v) D) (h2 : ¬ (1 ≤ w ∧ w ≤ 15) → K (some (.inl 0)) (sc_u I 3 0 0 1) D), C 48 [.inr (3, 0), .inl w, .inl v] I D K
theorem z_m_set (C : sc_CT) (c1 : S_m_out C) (I : sc_I) (D : sc_R) (K : sc_RT) (w v : Int32) (h1 : (1 ≤ w ∧ w ≤ 15) → K (some (.inl (I 4 10 w.toNatClampNeg))) (sc_u (sc_u I 3 0 0 0) 4 10 w.toNatClampNeg v) D) (h2 : ¬ (1 ≤ w ∧ w ≤ 15) → K (some (.inl 0)) (sc_u I 3 0 0 1) D) : sc_wp C K (sc_t 48) 5000 (sc_t 48) (sc_al 0 [.inr (3, 0), .inl w, .inl v]) [] I D := by
  refine c1 _ _ _ _ _ _ (fun a => br_t (by decide) ?_) (fun a => br_f (by decide) (h2 a))
  have hv : vp_in w 16 := m_vr a (by decide) (by decide)
  exact And.intro hv (And.intro hv (h1 a))
theorem x_m_set (d : Nat) : S_m_set (sc_wpM (d + 2)) := fun I D K w v h1 h2 => sc_open (d := d + 1) rfl (z_m_set (sc_wpM (d + 1)) (x_m_out (d + 0)) I D K w v h1 h2)
abbrev S_m_register (C : sc_CT) : Prop := ∀ (I : sc_I) (D : sc_R) (K : sc_RT) (w : Int32) (h1 : (0 ≤ w ∧ w ≤ 15) → K (some (.inl (I 4 10 w.toNatClampNeg))) (sc_u I 3 0 0 0) D) (h2 : ¬ (0 ≤ w ∧ w ≤ 15) → K (some (.inl 0)) (sc_u I 3 0 0 1) D), C 49 [.inr (3, 0), .inl w] I D K
theorem z_m_register (C : sc_CT) (c1 : S_m_out C) (I : sc_I) (D : sc_R) (K : sc_RT) (w : Int32) (h1 : (0 ≤ w ∧ w ≤ 15) → K (some (.inl (I 4 10 w.toNatClampNeg))) (sc_u I 3 0 0 0) D) (h2 : ¬ (0 ≤ w ∧ w ≤ 15) → K (some (.inl 0)) (sc_u I 3 0 0 1) D) : sc_wp C K (sc_t 49) 5000 (sc_t 49) (sc_al 0 [.inr (3, 0), .inl w]) [] I D := by
  refine c1 _ _ _ _ _ _ (fun a => br_t (by decide) ?_) (fun a => br_f (by decide) (h2 a))
  have hv : vp_in w 16 := m_vr a (by decide) (by decide)
  exact And.intro hv (h1 a)
theorem x_m_register (d : Nat) : S_m_register (sc_wpM (d + 2)) := fun I D K w h1 h2 => sc_open (d := d + 1) rfl (z_m_register (sc_wpM (d + 1)) (x_m_out (d + 0)) I D K w h1 h2)
abbrev S_m_start (C : sc_CT) : Prop := ∀ (I : sc_I) (D : sc_R) (K : sc_RT) (w : Int32) (h1 : (0 ≤ w ∧ w ≤ 63) → K none (sc_u (sc_u (m_emp (sc_u I 3 0 0 0)) 3 0 21 w) 3 0 25 0) D) (h2 : ¬ (0 ≤ w ∧ w ≤ 63) → K none (sc_u I 3 0 0 1) D), C 51 [.inr (3, 0), .inl w] I D K
theorem z_m_start (C : sc_CT) (c1 : S_m_out C) (c2 : S_m_empty C) (I : sc_I) (D : sc_R) (K : sc_RT) (w : Int32) (h1 : (0 ≤ w ∧ w ≤ 63) → K none (sc_u (sc_u (m_emp (sc_u I 3 0 0 0)) 3 0 21 w) 3 0 25 0) D) (h2 : ¬ (0 ≤ w ∧ w ≤ 63) → K none (sc_u I 3 0 0 1) D) : sc_wp C K (sc_t 51) 5000 (sc_t 51) (sc_al 0 [.inr (3, 0), .inl w]) [] I D := by
  refine c1 _ _ _ _ _ _ (fun a => br_t (by decide) ?_) (fun a => br_f (by decide) (h2 a))
  exact c2 _ _ _ (And.intro (Or.inl rfl) (h1 a))
theorem x_m_start (d : Nat) : S_m_start (sc_wpM (d + 2)) := fun I D K w h1 h2 => sc_open (d := d + 1) rfl (z_m_start (sc_wpM (d + 1)) (x_m_out (d + 0)) (x_m_empty (d + 0)) I D K w h1 h2)
abbrev S_m_handler (C : sc_CT) : Prop := ∀ (I : sc_I) (D : sc_R) (K : sc_RT) (w : Int32) (h1 : (0 ≤ w ∧ w ≤ 63) → K (some (.inl (I 3 0 22))) (sc_u (sc_u I 3 0 0 0) 3 0 22 w) D) (h2 : ¬ (0 ≤ w ∧ w ≤ 63) → K (some (.inl 0)) (sc_u I 3 0 0 1) D), C 52 [.inr (3, 0), .inl w] I D K
theorem z_m_handler (C : sc_CT) (c1 : S_m_out C) (I : sc_I) (D : sc_R) (K : sc_RT) (w : Int32) (h1 : (0 ≤ w ∧ w ≤ 63) → K (some (.inl (I 3 0 22))) (sc_u (sc_u I 3 0 0 0) 3 0 22 w) D) (h2 : ¬ (0 ≤ w ∧ w ≤ 63) → K (some (.inl 0)) (sc_u I 3 0 0 1) D) : sc_wp C K (sc_t 52) 5000 (sc_t 52) (sc_al 0 [.inr (3, 0), .inl w]) [] I D := by
  exact c1 _ _ _ _ _ _ (fun a => br_t (by decide) (h1 a)) (fun a => br_f (by decide) (h2 a))
theorem x_m_handler (d : Nat) : S_m_handler (sc_wpM (d + 2)) := fun I D K w h1 h2 => sc_open (d := d + 1) rfl (z_m_handler (sc_wpM (d + 1)) (x_m_out (d + 0)) I D K w h1 h2)
abbrev S_m_stage (C : sc_CT) : Prop := ∀ (I : sc_I) (D : sc_R) (K : sc_RT) (w : Int32) (h1 : (0 ≤ w ∧ w ≤ 4) → ¬ I 5 0 w.toNatClampNeg = 0 → K (some (.inl (I 4 12 w.toNatClampNeg))) (sc_u I 3 0 0 0) D) (h3 : (0 ≤ w ∧ w ≤ 4) → I 5 0 w.toNatClampNeg = 0 → K (some (.inl (-1))) (sc_u I 3 0 0 0) D) (h2 : ¬ (0 ≤ w ∧ w ≤ 4) → K (some (.inl 0)) (sc_u I 3 0 0 1) D), C 66 [.inr (3, 0), .inl w] I D K
theorem z_m_stage (C : sc_CT) (c1 : S_m_out C) (I : sc_I) (D : sc_R) (K : sc_RT) (w : Int32) (h1 : (0 ≤ w ∧ w ≤ 4) → ¬ I 5 0 w.toNatClampNeg = 0 → K (some (.inl (I 4 12 w.toNatClampNeg))) (sc_u I 3 0 0 0) D) (h3 : (0 ≤ w ∧ w ≤ 4) → I 5 0 w.toNatClampNeg = 0 → K (some (.inl (-1))) (sc_u I 3 0 0 0) D) (h2 : ¬ (0 ≤ w ∧ w ≤ 4) → K (some (.inl 0)) (sc_u I 3 0 0 1) D) : sc_wp C K (sc_t 66) 5000 (sc_t 66) (sc_al 0 [.inr (3, 0), .inl w]) [] I D := by
  refine c1 _ _ _ _ _ _ (fun a => br_t (by decide) ?_) (fun a => br_f (by decide) (h2 a))
  have hv : vp_in w 5 := m_vr a (by decide) (by decide)
  exact And.intro hv (And.intro (fun b => h3 a b) (fun b => And.intro hv (h1 a b)))
theorem x_m_stage (d : Nat) : S_m_stage (sc_wpM (d + 2)) := fun I D K w h1 h3 h2 => sc_open (d := d + 1) rfl (z_m_stage (sc_wpM (d + 1)) (x_m_out (d + 0)) I D K w h1 h3 h2)
abbrev S_m_counter (C : sc_CT) : Prop := ∀ (I : sc_I) (D : sc_R) (K : sc_RT) (w : Int32) (h1 : (0 ≤ w ∧ w ≤ 7) → K (some (.inl (I 4 11 w.toNatClampNeg))) (sc_u I 3 0 0 0) D) (h2 : ¬ (0 ≤ w ∧ w ≤ 7) → K (some (.inl 0)) (sc_u I 3 0 0 1) D), C 67 [.inr (3, 0), .inl w] I D K
theorem z_m_counter (C : sc_CT) (c1 : S_m_out C) (I : sc_I) (D : sc_R) (K : sc_RT) (w : Int32) (h1 : (0 ≤ w ∧ w ≤ 7) → K (some (.inl (I 4 11 w.toNatClampNeg))) (sc_u I 3 0 0 0) D) (h2 : ¬ (0 ≤ w ∧ w ≤ 7) → K (some (.inl 0)) (sc_u I 3 0 0 1) D) : sc_wp C K (sc_t 67) 5000 (sc_t 67) (sc_al 0 [.inr (3, 0), .inl w]) [] I D := by
  refine c1 _ _ _ _ _ _ (fun a => br_t (by decide) ?_) (fun a => br_f (by decide) (h2 a))
  have hv : vp_in w 8 := m_vr a (by decide) (by decide)
  exact And.intro hv (h1 a)
theorem x_m_counter (d : Nat) : S_m_counter (sc_wpM (d + 2)) := fun I D K w h1 h2 => sc_open (d := d + 1) rfl (z_m_counter (sc_wpM (d + 1)) (x_m_out (d + 0)) I D K w h1 h2)
abbrev S_m_retired (C : sc_CT) : Prop := ∀ (I : sc_I) (D : sc_R) (K : sc_RT) (w : Int32) (hk : (0 ≤ w ∧ w ≤ I 3 0 31 - 1) → vp_in w 16) (h1 : (0 ≤ w ∧ w ≤ I 3 0 31 - 1) → K (some (.inl (I 4 22 w.toNatClampNeg))) (sc_u I 3 0 0 0) D) (h2 : ¬ (0 ≤ w ∧ w ≤ I 3 0 31 - 1) → K (some (.inl 0)) (sc_u I 3 0 0 1) D), C 68 [.inr (3, 0), .inl w] I D K
theorem z_m_retired (C : sc_CT) (c1 : S_m_out C) (I : sc_I) (D : sc_R) (K : sc_RT) (w : Int32) (hk : (0 ≤ w ∧ w ≤ I 3 0 31 - 1) → vp_in w 16) (h1 : (0 ≤ w ∧ w ≤ I 3 0 31 - 1) → K (some (.inl (I 4 22 w.toNatClampNeg))) (sc_u I 3 0 0 0) D) (h2 : ¬ (0 ≤ w ∧ w ≤ I 3 0 31 - 1) → K (some (.inl 0)) (sc_u I 3 0 0 1) D) : sc_wp C K (sc_t 68) 5000 (sc_t 68) (sc_al 0 [.inr (3, 0), .inl w]) [] I D := by
  exact c1 _ _ _ _ _ _ (fun a => br_t (by decide) (And.intro (hk a) (h1 a))) (fun a => br_f (by decide) (h2 a))
theorem x_m_retired (d : Nat) : S_m_retired (sc_wpM (d + 2)) := fun I D K w hk h1 h2 => sc_open (d := d + 1) rfl (z_m_retired (sc_wpM (d + 1)) (x_m_out (d + 0)) I D K w hk h1 h2)
def m_cnt (w : Int32) (J : sc_I) : Int32 := if w = 0 then J 3 0 26 else if w = 1 then J 3 0 27 else if w = 2 then J 3 0 28 else if w = 3 then J 3 0 29 else if w = 4 then J 3 0 30 else if w = 5 then J 3 0 21 else if w = 6 then J 3 0 23 else if w = 7 then J 3 0 24 else if J 3 0 25 = 0 then 0 else 1
abbrev S_m_count (C : sc_CT) : Prop := ∀ (I : sc_I) (D : sc_R) (K : sc_RT) (w : Int32) (h1 : (0 ≤ w ∧ w ≤ 8) → K (some (.inl (m_cnt w I))) (sc_u I 3 0 0 0) D) (h2 : ¬ (0 ≤ w ∧ w ≤ 8) → K (some (.inl 0)) (sc_u I 3 0 0 1) D), C 69 [.inr (3, 0), .inl w] I D K
theorem z_m_count (C : sc_CT) (c1 : S_m_out C) (I : sc_I) (D : sc_R) (K : sc_RT) (w : Int32) (h1 : (0 ≤ w ∧ w ≤ 8) → K (some (.inl (m_cnt w I))) (sc_u I 3 0 0 0) D) (h2 : ¬ (0 ≤ w ∧ w ≤ 8) → K (some (.inl 0)) (sc_u I 3 0 0 1) D) : sc_wp C K (sc_t 69) 5000 (sc_t 69) (sc_al 0 [.inr (3, 0), .inl w]) [] I D := by
  refine c1 _ _ _ _ _ _ (fun a => br_t (by decide) ?_) (fun a => br_f (by decide) (h2 a))
  have h := h1 a
  unfold m_cnt at h
  refine And.intro (fun z => ?_) (fun z => ?_)
  · rw [if_pos z] at h; exact h
  rw [if_neg z] at h
  refine And.intro (fun z => ?_) (fun z => ?_)
  · rw [if_pos z] at h; exact h
  rw [if_neg z] at h
  refine And.intro (fun z => ?_) (fun z => ?_)
  · rw [if_pos z] at h; exact h
  rw [if_neg z] at h
  refine And.intro (fun z => ?_) (fun z => ?_)
  · rw [if_pos z] at h; exact h
  rw [if_neg z] at h
  refine And.intro (fun z => ?_) (fun z => ?_)
  · rw [if_pos z] at h; exact h
  rw [if_neg z] at h
  refine And.intro (fun z => ?_) (fun z => ?_)
  · rw [if_pos z] at h; exact h
  rw [if_neg z] at h
  refine And.intro (fun z => ?_) (fun z => ?_)
  · rw [if_pos z] at h; exact h
  rw [if_neg z] at h
  refine And.intro (fun z => ?_) (fun z => ?_)
  · rw [if_pos z] at h; exact h
  rw [if_neg z] at h
  refine And.intro (fun z => ?_) (fun z => ?_)
  · have z : I 3 0 25 = 0 := z
    rw [if_pos z] at h; exact h
  · have z : ¬ I 3 0 25 = 0 := z
    rw [if_neg z] at h; exact h
theorem x_m_count (d : Nat) : S_m_count (sc_wpM (d + 2)) := fun I D K w h1 h2 => sc_open (d := d + 1) rfl (z_m_count (sc_wpM (d + 1)) (x_m_out (d + 0)) I D K w h1 h2)
