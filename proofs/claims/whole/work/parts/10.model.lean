def m_wd (x : Int32) : Prop := (0 ≤ x ∧ x ≤ 11) ∨ x = 15 ∨ x = 16
def m_us (x : Int32) : Prop := (0 ≤ x ∧ x ≤ 9) ∨ (11 ≤ x ∧ x ≤ 14) ∨ x = 16
def m_ut (x : Int32) : Prop := (0 ≤ x ∧ x ≤ 8) ∨ (12 ≤ x ∧ x ≤ 14)
def m_emp (J : sc_I) : sc_I := sc_u (sc_u (sc_u (sc_u (sc_u J 5 0 0 0) 5 0 1 0) 5 0 2 0) 5 0 3 0) 5 0 4 0
def m_row (r i : Nat) (J : sc_I) : sc_I := sc_u J 4 r (i + 1) (J 4 r i)
def m_move (i : Nat) (J : sc_I) : sc_I := m_row 21 i (m_row 20 i (m_row 19 i (m_row 18 i (m_row 17 i (m_row 16 i (m_row 15 i (m_row 14 i (m_row 13 i (m_row 12 i (sc_u (sc_u J 5 0 (i + 1) 1) 5 0 i 0))))))))))
def m_flt (J : sc_I) : sc_I := m_emp (sc_u (sc_u (sc_u (sc_u (sc_u J 5 0 4 0) 3 0 30 (J 3 0 30 + 1)) 3 0 23 (J 4 21 4)) 3 0 24 (J 4 12 4)) 3 0 21 (J 3 0 22))
def m_hlt (J : sc_I) : sc_I := m_emp (sc_u (sc_u J 5 0 4 0) 3 0 25 1)
def m_sh (k : Int32) (J : sc_I) : sc_I := sc_u J 4 22 k.toNatClampNeg (J 4 22 (k - 1).toNatClampNeg)
def m_shift (J : sc_I) : sc_I := m_sh (15 + -1 + -1 + -1 + -1 + -1 + -1 + -1 + -1 + -1 + -1 + -1 + -1 + -1 + -1) (m_sh (15 + -1 + -1 + -1 + -1 + -1 + -1 + -1 + -1 + -1 + -1 + -1 + -1 + -1) (m_sh (15 + -1 + -1 + -1 + -1 + -1 + -1 + -1 + -1 + -1 + -1 + -1 + -1) (m_sh (15 + -1 + -1 + -1 + -1 + -1 + -1 + -1 + -1 + -1 + -1 + -1) (m_sh (15 + -1 + -1 + -1 + -1 + -1 + -1 + -1 + -1 + -1 + -1) (m_sh (15 + -1 + -1 + -1 + -1 + -1 + -1 + -1 + -1 + -1) (m_sh (15 + -1 + -1 + -1 + -1 + -1 + -1 + -1 + -1) (m_sh (15 + -1 + -1 + -1 + -1 + -1 + -1 + -1) (m_sh (15 + -1 + -1 + -1 + -1 + -1 + -1) (m_sh (15 + -1 + -1 + -1 + -1 + -1) (m_sh (15 + -1 + -1 + -1 + -1) (m_sh (15 + -1 + -1 + -1) (m_sh (15 + -1 + -1) (m_sh (15 + -1) (m_sh 15 J))))))))))))))
def m_kept (x : Int32) : Int32 := if x < 16 then x + 1 else 16
def m_note (k : Int32) (J : sc_I) : sc_I := sc_u (sc_u (m_shift (sc_u J 3 0 27 (J 3 0 27 + 1))) 4 22 0 (J 4 12 4)) 3 0 31 k
def m_retN (J : sc_I) : sc_I := m_note (m_kept (J 3 0 31)) (sc_u J 5 0 4 0)
def m_retW (J : sc_I) : sc_I := m_note (m_kept (J 3 0 31)) (sc_u (sc_u J 5 0 4 0) 4 10 (J 4 14 4).toNatClampNeg (J 4 19 4))
abbrev S_m_thrown (C : sc_CT) : Prop := ∀ (I : sc_I) (D : sc_R) (K : sc_RT) (h : K (some (.inl (I 3 0 0))) I D), C 42 [.inr (3, 0)] I D K
theorem z_m_thrown (C : sc_CT)  (I : sc_I) (D : sc_R) (K : sc_RT) (h : K (some (.inl (I 3 0 0))) I D) : sc_wp C K (sc_t 42) 5000 (sc_t 42) (sc_al 0 [.inr (3, 0)]) [] I D := by
  exact h
theorem x_m_thrown (d : Nat) : S_m_thrown (sc_wpM (d + 1)) := fun I D K h => sc_open (d := d) rfl (z_m_thrown (sc_wpM (d))  I D K h)
abbrev S_m_out (C : sc_CT) : Prop := ∀ (I : sc_I) (D : sc_R) (K : sc_RT) (v lo hi : Int32) (h1 : (lo ≤ v ∧ v ≤ hi) → K (some (.inl 0)) (sc_u I 3 0 0 0) D) (h2 : ¬ (lo ≤ v ∧ v ≤ hi) → K (some (.inl 1)) (sc_u I 3 0 0 1) D), C 43 [.inr (3, 0), .inl v, .inl lo, .inl hi] I D K
theorem z_m_out (C : sc_CT)  (I : sc_I) (D : sc_R) (K : sc_RT) (v lo hi : Int32) (h1 : (lo ≤ v ∧ v ≤ hi) → K (some (.inl 0)) (sc_u I 3 0 0 0) D) (h2 : ¬ (lo ≤ v ∧ v ≤ hi) → K (some (.inl 1)) (sc_u I 3 0 0 1) D) : sc_wp C K (sc_t 43) 5000 (sc_t 43) (sc_al 0 [.inr (3, 0), .inl v, .inl lo, .inl hi]) [] I D := by
  refine And.intro (fun a => ?_) (fun a => ?_)
  · exact br_f (show ¬ (1 : Int32) ≤ 0 by decide) ⟨Or.inr rfl, h2 (by grind)⟩
  · refine And.intro (fun b => ?_) (fun b => ?_)
    · exact br_f (show ¬ (1 : Int32) ≤ 0 by decide) ⟨Or.inr rfl, h2 (by grind)⟩
    · exact br_t (show (0 : Int32) ≤ 0 by decide) ⟨Or.inl rfl, h1 (by grind)⟩
theorem x_m_out (d : Nat) : S_m_out (sc_wpM (d + 1)) := fun I D K v lo hi h1 h2 => sc_open (d := d) rfl (z_m_out (sc_wpM (d))  I D K v lo hi h1 h2)
abbrev S_m_in (C : sc_CT) : Prop := ∀ (I : sc_I) (D : sc_R) (K : sc_RT) (v lo hi : Int32) (h1 : (lo ≤ v ∧ v ≤ hi) → K (some (.inl 1)) I D) (h2 : ¬ (lo ≤ v ∧ v ≤ hi) → K (some (.inl 0)) I D), C 44 [.inl v, .inl lo, .inl hi] I D K
theorem z_m_in (C : sc_CT)  (I : sc_I) (D : sc_R) (K : sc_RT) (v lo hi : Int32) (h1 : (lo ≤ v ∧ v ≤ hi) → K (some (.inl 1)) I D) (h2 : ¬ (lo ≤ v ∧ v ≤ hi) → K (some (.inl 0)) I D) : sc_wp C K (sc_t 44) 5000 (sc_t 44) (sc_al 0 [.inl v, .inl lo, .inl hi]) [] I D := by
  repeat' (first | (show _ ∧ _; first | refine And.intro (Or.inl rfl) ?_ | refine And.intro (Or.inr rfl) ?_ | refine And.intro (sc_vi (by decide)) ?_ | refine br_t (by decide) ?_ | refine br_f (by decide) ?_ | refine And.intro (fun _ => ?_) (fun _ => ?_)))
  all_goals first | exact h1 (by grind) | exact h2 (by grind)
theorem x_m_in (d : Nat) : S_m_in (sc_wpM (d + 1)) := fun I D K v lo hi h1 h2 => sc_open (d := d) rfl (z_m_in (sc_wpM (d))  I D K v lo hi h1 h2)
abbrev S_m_writes (C : sc_CT) : Prop := ∀ (I : sc_I) (D : sc_R) (K : sc_RT) (v : Int32) (ht : m_wd v → K (some (.inl 1)) I D) (hf : ¬ m_wd v → K (some (.inl 0)) I D), C 53 [.inl v] I D K
theorem z_m_writes (C : sc_CT) (c1 : S_m_in C) (I : sc_I) (D : sc_R) (K : sc_RT) (v : Int32) (ht : m_wd v → K (some (.inl 1)) I D) (hf : ¬ m_wd v → K (some (.inl 0)) I D) : sc_wp C K (sc_t 53) 5000 (sc_t 53) (sc_al 0 [.inl v]) [] I D := by
  repeat' (first | (show _ ∧ _; first | refine And.intro (Or.inl rfl) ?_ | refine And.intro (Or.inr rfl) ?_ | refine And.intro (sc_vi (by decide)) ?_ | refine br_t (by decide) ?_ | refine br_f (by decide) ?_ | refine And.intro (fun _ => ?_) (fun _ => ?_)) | refine c1 _ _ _ _ _ _ (fun _ => ?_) (fun _ => ?_))
  all_goals first | exact ht (by unfold m_wd; grind) | exact hf (by unfold m_wd; grind)
theorem x_m_writes (d : Nat) : S_m_writes (sc_wpM (d + 2)) := fun I D K v ht hf => sc_open (d := d + 1) rfl (z_m_writes (sc_wpM (d + 1)) (x_m_in (d + 0)) I D K v ht hf)
abbrev S_m_usesFirst (C : sc_CT) : Prop := ∀ (I : sc_I) (D : sc_R) (K : sc_RT) (v : Int32) (ht : m_us v → K (some (.inl 1)) I D) (hf : ¬ m_us v → K (some (.inl 0)) I D), C 54 [.inl v] I D K
theorem z_m_usesFirst (C : sc_CT) (c1 : S_m_in C) (I : sc_I) (D : sc_R) (K : sc_RT) (v : Int32) (ht : m_us v → K (some (.inl 1)) I D) (hf : ¬ m_us v → K (some (.inl 0)) I D) : sc_wp C K (sc_t 54) 5000 (sc_t 54) (sc_al 0 [.inl v]) [] I D := by
  repeat' (first | (show _ ∧ _; first | refine And.intro (Or.inl rfl) ?_ | refine And.intro (Or.inr rfl) ?_ | refine And.intro (sc_vi (by decide)) ?_ | refine br_t (by decide) ?_ | refine br_f (by decide) ?_ | refine And.intro (fun _ => ?_) (fun _ => ?_)) | refine c1 _ _ _ _ _ _ (fun _ => ?_) (fun _ => ?_))
  all_goals first | exact ht (by unfold m_us; grind) | exact hf (by unfold m_us; grind)
theorem x_m_usesFirst (d : Nat) : S_m_usesFirst (sc_wpM (d + 2)) := fun I D K v ht hf => sc_open (d := d + 1) rfl (z_m_usesFirst (sc_wpM (d + 1)) (x_m_in (d + 0)) I D K v ht hf)
abbrev S_m_usesSecond (C : sc_CT) : Prop := ∀ (I : sc_I) (D : sc_R) (K : sc_RT) (v : Int32) (ht : m_ut v → K (some (.inl 1)) I D) (hf : ¬ m_ut v → K (some (.inl 0)) I D), C 55 [.inl v] I D K
theorem z_m_usesSecond (C : sc_CT) (c1 : S_m_in C) (I : sc_I) (D : sc_R) (K : sc_RT) (v : Int32) (ht : m_ut v → K (some (.inl 1)) I D) (hf : ¬ m_ut v → K (some (.inl 0)) I D) : sc_wp C K (sc_t 55) 5000 (sc_t 55) (sc_al 0 [.inl v]) [] I D := by
  repeat' (first | (show _ ∧ _; first | refine And.intro (Or.inl rfl) ?_ | refine And.intro (Or.inr rfl) ?_ | refine And.intro (sc_vi (by decide)) ?_ | refine br_t (by decide) ?_ | refine br_f (by decide) ?_ | refine And.intro (fun _ => ?_) (fun _ => ?_)) | refine c1 _ _ _ _ _ _ (fun _ => ?_) (fun _ => ?_))
  all_goals first | exact ht (by unfold m_ut; grind) | exact hf (by unfold m_ut; grind)
theorem x_m_usesSecond (d : Nat) : S_m_usesSecond (sc_wpM (d + 2)) := fun I D K v ht hf => sc_open (d := d + 1) rfl (z_m_usesSecond (sc_wpM (d + 1)) (x_m_in (d + 0)) I D K v ht hf)
abbrev S_m_empty (C : sc_CT) : Prop := ∀ (I : sc_I) (D : sc_R) (K : sc_RT) (h : K none (m_emp I) D), C 50 [.inr (3, 0)] I D K
theorem z_m_empty (C : sc_CT)  (I : sc_I) (D : sc_R) (K : sc_RT) (h : K none (m_emp I) D) : sc_wp C K (sc_t 50) 5000 (sc_t 50) (sc_al 0 [.inr (3, 0)]) [] I D := by
  repeat' (first | (show _ ∧ _; first | refine And.intro (Or.inl rfl) ?_ | refine And.intro (Or.inr rfl) ?_ | refine And.intro (sc_vi (by decide)) ?_ | refine br_t (by decide) ?_ | refine br_f (by decide) ?_ | refine And.intro (fun _ => ?_) (fun _ => ?_)))
  all_goals exact h
theorem x_m_empty (d : Nat) : S_m_empty (sc_wpM (d + 1)) := fun I D K h => sc_open (d := d) rfl (z_m_empty (sc_wpM (d))  I D K h)
abbrev S_m_move0 (C : sc_CT) : Prop := ∀ (I : sc_I) (D : sc_R) (K : sc_RT) (h : K none (m_move 0 I) D), C 56 [.inr (3, 0), .inl 0] I D K
theorem z_m_move0 (C : sc_CT)  (I : sc_I) (D : sc_R) (K : sc_RT) (h : K none (m_move 0 I) D) : sc_wp C K (sc_t 56) 5000 (sc_t 56) (sc_al 0 [.inr (3, 0), .inl 0]) [] I D := by
  repeat' (first | (show _ ∧ _; first | refine And.intro (Or.inl rfl) ?_ | refine And.intro (Or.inr rfl) ?_ | refine And.intro (sc_vi (by decide)) ?_ | refine br_t (by decide) ?_ | refine br_f (by decide) ?_ | refine And.intro (fun _ => ?_) (fun _ => ?_)))
  all_goals exact h
theorem x_m_move0 (d : Nat) : S_m_move0 (sc_wpM (d + 1)) := fun I D K h => sc_open (d := d) rfl (z_m_move0 (sc_wpM (d))  I D K h)
abbrev S_m_move1 (C : sc_CT) : Prop := ∀ (I : sc_I) (D : sc_R) (K : sc_RT) (h : K none (m_move 1 I) D), C 56 [.inr (3, 0), .inl 1] I D K
theorem z_m_move1 (C : sc_CT)  (I : sc_I) (D : sc_R) (K : sc_RT) (h : K none (m_move 1 I) D) : sc_wp C K (sc_t 56) 5000 (sc_t 56) (sc_al 0 [.inr (3, 0), .inl 1]) [] I D := by
  repeat' (first | (show _ ∧ _; first | refine And.intro (Or.inl rfl) ?_ | refine And.intro (Or.inr rfl) ?_ | refine And.intro (sc_vi (by decide)) ?_ | refine br_t (by decide) ?_ | refine br_f (by decide) ?_ | refine And.intro (fun _ => ?_) (fun _ => ?_)))
  all_goals exact h
theorem x_m_move1 (d : Nat) : S_m_move1 (sc_wpM (d + 1)) := fun I D K h => sc_open (d := d) rfl (z_m_move1 (sc_wpM (d))  I D K h)
abbrev S_m_move2 (C : sc_CT) : Prop := ∀ (I : sc_I) (D : sc_R) (K : sc_RT) (h : K none (m_move 2 I) D), C 56 [.inr (3, 0), .inl 2] I D K
theorem z_m_move2 (C : sc_CT)  (I : sc_I) (D : sc_R) (K : sc_RT) (h : K none (m_move 2 I) D) : sc_wp C K (sc_t 56) 5000 (sc_t 56) (sc_al 0 [.inr (3, 0), .inl 2]) [] I D := by
  repeat' (first | (show _ ∧ _; first | refine And.intro (Or.inl rfl) ?_ | refine And.intro (Or.inr rfl) ?_ | refine And.intro (sc_vi (by decide)) ?_ | refine br_t (by decide) ?_ | refine br_f (by decide) ?_ | refine And.intro (fun _ => ?_) (fun _ => ?_)))
  all_goals exact h
theorem x_m_move2 (d : Nat) : S_m_move2 (sc_wpM (d + 1)) := fun I D K h => sc_open (d := d) rfl (z_m_move2 (sc_wpM (d))  I D K h)
abbrev S_m_move3 (C : sc_CT) : Prop := ∀ (I : sc_I) (D : sc_R) (K : sc_RT) (h : K none (m_move 3 I) D), C 56 [.inr (3, 0), .inl 3] I D K
theorem z_m_move3 (C : sc_CT)  (I : sc_I) (D : sc_R) (K : sc_RT) (h : K none (m_move 3 I) D) : sc_wp C K (sc_t 56) 5000 (sc_t 56) (sc_al 0 [.inr (3, 0), .inl 3]) [] I D := by
  repeat' (first | (show _ ∧ _; first | refine And.intro (Or.inl rfl) ?_ | refine And.intro (Or.inr rfl) ?_ | refine And.intro (sc_vi (by decide)) ?_ | refine br_t (by decide) ?_ | refine br_f (by decide) ?_ | refine And.intro (fun _ => ?_) (fun _ => ?_)))
  all_goals exact h
theorem x_m_move3 (d : Nat) : S_m_move3 (sc_wpM (d + 1)) := fun I D K h => sc_open (d := d) rfl (z_m_move3 (sc_wpM (d))  I D K h)
