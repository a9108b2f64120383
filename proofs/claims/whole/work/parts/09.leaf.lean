theorem sc_open {d mid : Nat} {as : List sc_V} {I : sc_I} {D : sc_R} {K : sc_RT} (hle : Nat.ble as.length (sc_nL mid) = true) (h : sc_wp (sc_wpM d) K (sc_t mid) 5000 (sc_t mid) (sc_al 0 as) [] I D) : sc_wpM (d + 1) mid as I D K := by
  unfold sc_wpM
  rw [hle]
  exact h
theorem sc_vi {x : Int32} {n : Nat} (h : ¬ (x < 0 ∨ n ≤ x.toNatClampNeg)) : vp_in x n := h
def sc_wd (x : Int32) : Prop := x ≤ 11 ∨ x = 15 ∨ x = 16
def sc_br (x : Int32) : Prop := x = 13 ∨ x = 14
def sc_td (x : Int32) : Prop := x = 11 ∨ x = 12
def sc_ut (x : Int32) : Prop := x ≤ 8 ∨ x = 12 ∨ sc_br x
def sc_us (x : Int32) : Prop := x ≤ 9 ∨ x = 11 ∨ x = 16 ∨ sc_ut x
def sc_wc (x : Int32) : Int32 := if x = 7 then 3 else if x = 8 then 6 else 1
def sc_does (I : sc_I) (D : sc_R) (f : Nat) (q : Int32) : Prop := ¬ I 0 f 0 = 0 ∧ I 0 f 5 = 0 ∧ I 1 (D 0 f 1) 0 = q
def sc_wr (I : sc_I) (D : sc_R) (f : Nat) (r : Int32) : Prop := ¬ I 0 f 0 = 0 ∧ I 0 f 5 = 0 ∧ ¬ r = 0 ∧ sc_wd (I 1 (D 0 f 1) 0) ∧ I 1 (D 0 f 1) 1 = r
abbrev S_isBranch (C : sc_CT) : Prop := ∀ (I : sc_I) (D : sc_R) (K : sc_RT) (a : Nat) (ht : sc_br (I 1 a 0) → K (some (.inl 1)) I D) (hf : ¬ sc_br (I 1 a 0) → K (some (.inl 0)) I D), C 3 [.inr (1, a)] I D K
theorem z_isBranch (C : sc_CT)  (I : sc_I) (D : sc_R) (K : sc_RT) (a : Nat) (ht : sc_br (I 1 a 0) → K (some (.inl 1)) I D) (hf : ¬ sc_br (I 1 a 0) → K (some (.inl 0)) I D) : sc_wp C K (sc_t 3) 5000 (sc_t 3) (sc_al 0 [.inr (1, a)]) [] I D := by
  repeat' (first | (show _ ∧ _; first | refine And.intro (Or.inl rfl) ?_ | refine And.intro (Or.inr rfl) ?_ | refine And.intro (sc_vi (by decide)) ?_ | refine br_t (by decide) ?_ | refine br_f (by decide) ?_ | refine And.intro (fun _ => ?_) (fun _ => ?_)))
  all_goals first | exact ht (by unfold sc_br; grind) | exact hf (by unfold sc_br; grind)
theorem x_isBranch (d : Nat) : S_isBranch (sc_wpM (d + 1)) := fun I D K a ht hf => sc_open (d := d) rfl (z_isBranch (sc_wpM (d))  I D K a ht hf)
abbrev S_writesD (C : sc_CT) : Prop := ∀ (I : sc_I) (D : sc_R) (K : sc_RT) (a : Nat) (ht : sc_wd (I 1 a 0) → K (some (.inl 1)) I D) (hf : ¬ sc_wd (I 1 a 0) → K (some (.inl 0)) I D), C 1 [.inr (1, a)] I D K
theorem z_writesD (C : sc_CT)  (I : sc_I) (D : sc_R) (K : sc_RT) (a : Nat) (ht : sc_wd (I 1 a 0) → K (some (.inl 1)) I D) (hf : ¬ sc_wd (I 1 a 0) → K (some (.inl 0)) I D) : sc_wp C K (sc_t 1) 5000 (sc_t 1) (sc_al 0 [.inr (1, a)]) [] I D := by
  repeat' (first | (show _ ∧ _; first | refine And.intro (Or.inl rfl) ?_ | refine And.intro (Or.inr rfl) ?_ | refine And.intro (sc_vi (by decide)) ?_ | refine br_t (by decide) ?_ | refine br_f (by decide) ?_ | refine And.intro (fun _ => ?_) (fun _ => ?_)))
  all_goals first | exact ht (by unfold sc_wd; grind) | exact hf (by unfold sc_wd; grind)
theorem x_writesD (d : Nat) : S_writesD (sc_wpM (d + 1)) := fun I D K a ht hf => sc_open (d := d) rfl (z_writesD (sc_wpM (d))  I D K a ht hf)
abbrev S_touchesData (C : sc_CT) : Prop := ∀ (I : sc_I) (D : sc_R) (K : sc_RT) (a : Nat) (ht : sc_td (I 1 a 0) → K (some (.inl 1)) I D) (hf : ¬ sc_td (I 1 a 0) → K (some (.inl 0)) I D), C 6 [.inr (1, a)] I D K
theorem z_touchesData (C : sc_CT)  (I : sc_I) (D : sc_R) (K : sc_RT) (a : Nat) (ht : sc_td (I 1 a 0) → K (some (.inl 1)) I D) (hf : ¬ sc_td (I 1 a 0) → K (some (.inl 0)) I D) : sc_wp C K (sc_t 6) 5000 (sc_t 6) (sc_al 0 [.inr (1, a)]) [] I D := by
  repeat' (first | (show _ ∧ _; first | refine And.intro (Or.inl rfl) ?_ | refine And.intro (Or.inr rfl) ?_ | refine And.intro (sc_vi (by decide)) ?_ | refine br_t (by decide) ?_ | refine br_f (by decide) ?_ | refine And.intro (fun _ => ?_) (fun _ => ?_)))
  all_goals first | exact ht (by unfold sc_td; grind) | exact hf (by unfold sc_td; grind)
theorem x_touchesData (d : Nat) : S_touchesData (sc_wpM (d + 1)) := fun I D K a ht hf => sc_open (d := d) rfl (z_touchesData (sc_wpM (d))  I D K a ht hf)
abbrev S_usesT (C : sc_CT) : Prop := ∀ (I : sc_I) (D : sc_R) (K : sc_RT) (a : Nat) (ht : sc_ut (I 1 a 0) → K (some (.inl 1)) I D) (hf : ¬ sc_ut (I 1 a 0) → K (some (.inl 0)) I D), C 4 [.inr (1, a)] I D K
theorem z_usesT (C : sc_CT) (c1 : S_isBranch C) (I : sc_I) (D : sc_R) (K : sc_RT) (a : Nat) (ht : sc_ut (I 1 a 0) → K (some (.inl 1)) I D) (hf : ¬ sc_ut (I 1 a 0) → K (some (.inl 0)) I D) : sc_wp C K (sc_t 4) 5000 (sc_t 4) (sc_al 0 [.inr (1, a)]) [] I D := by
  repeat' (first | (show _ ∧ _; first | refine And.intro (Or.inl rfl) ?_ | refine And.intro (Or.inr rfl) ?_ | refine And.intro (sc_vi (by decide)) ?_ | refine br_t (by decide) ?_ | refine br_f (by decide) ?_ | refine And.intro (fun _ => ?_) (fun _ => ?_)) | refine c1 _ _ _ _ (fun _ => ?_) (fun _ => ?_))
  all_goals first | exact ht (by unfold sc_ut; grind) | exact hf (by unfold sc_ut; grind)
theorem x_usesT (d : Nat) : S_usesT (sc_wpM (d + 2)) := fun I D K a ht hf => sc_open (d := d + 1) rfl (z_usesT (sc_wpM (d + 1)) (x_isBranch (d + 0)) I D K a ht hf)
abbrev S_usesS (C : sc_CT) : Prop := ∀ (I : sc_I) (D : sc_R) (K : sc_RT) (a : Nat) (ht : sc_us (I 1 a 0) → K (some (.inl 1)) I D) (hf : ¬ sc_us (I 1 a 0) → K (some (.inl 0)) I D), C 5 [.inr (1, a)] I D K
theorem z_usesS (C : sc_CT) (c1 : S_usesT C) (I : sc_I) (D : sc_R) (K : sc_RT) (a : Nat) (ht : sc_us (I 1 a 0) → K (some (.inl 1)) I D) (hf : ¬ sc_us (I 1 a 0) → K (some (.inl 0)) I D) : sc_wp C K (sc_t 5) 5000 (sc_t 5) (sc_al 0 [.inr (1, a)]) [] I D := by
  repeat' (first | (show _ ∧ _; first | refine And.intro (Or.inl rfl) ?_ | refine And.intro (Or.inr rfl) ?_ | refine And.intro (sc_vi (by decide)) ?_ | refine br_t (by decide) ?_ | refine br_f (by decide) ?_ | refine And.intro (fun _ => ?_) (fun _ => ?_)) | refine c1 _ _ _ _ (fun _ => ?_) (fun _ => ?_))
  all_goals first | exact ht (by unfold sc_us; grind) | exact hf (by unfold sc_us; grind)
theorem x_usesS (d : Nat) : S_usesS (sc_wpM (d + 3)) := fun I D K a ht hf => sc_open (d := d + 2) rfl (z_usesS (sc_wpM (d + 2)) (x_usesT (d + 0)) I D K a ht hf)
abbrev S_workCycles (C : sc_CT) : Prop := ∀ (I : sc_I) (D : sc_R) (K : sc_RT) (a : Nat) (h : K (some (.inl (sc_wc (I 1 a 0)))) I D), C 7 [.inr (1, a)] I D K
theorem z_workCycles (C : sc_CT)  (I : sc_I) (D : sc_R) (K : sc_RT) (a : Nat) (h : K (some (.inl (sc_wc (I 1 a 0)))) I D) : sc_wp C K (sc_t 7) 5000 (sc_t 7) (sc_al 0 [.inr (1, a)]) [] I D := by
  refine And.intro (fun h1 => ?_) (fun h1 => ?_)
  · rw [sc_wc, if_pos h1] at h
    exact h
  · rw [sc_wc, if_neg h1] at h
    refine And.intro (fun h2 => ?_) (fun h2 => ?_)
    · rw [if_pos h2] at h
      exact h
    · rw [if_neg h2] at h
      exact h
theorem x_workCycles (d : Nat) : S_workCycles (sc_wpM (d + 1)) := fun I D K a h => sc_open (d := d) rfl (z_workCycles (sc_wpM (d))  I D K a h)
abbrev S_does (C : sc_CT) : Prop := ∀ (I : sc_I) (D : sc_R) (K : sc_RT) (f : Nat) (q : Int32) (ht : sc_does I D f q → K (some (.inl 1)) I D) (hf : ¬ sc_does I D f q → K (some (.inl 0)) I D), C 0 [.inr (0, f), .inl q] I D K
theorem z_does (C : sc_CT)  (I : sc_I) (D : sc_R) (K : sc_RT) (f : Nat) (q : Int32) (ht : sc_does I D f q → K (some (.inl 1)) I D) (hf : ¬ sc_does I D f q → K (some (.inl 0)) I D) : sc_wp C K (sc_t 0) 5000 (sc_t 0) (sc_al 0 [.inr (0, f), .inl q]) [] I D := by
  repeat' (first | (show _ ∧ _; first | refine And.intro (Or.inl rfl) ?_ | refine And.intro (Or.inr rfl) ?_ | refine And.intro (sc_vi (by decide)) ?_ | refine br_t (by decide) ?_ | refine br_f (by decide) ?_ | refine And.intro (fun _ => ?_) (fun _ => ?_)))
  all_goals first | exact ht ⟨by assumption, by assumption, by assumption⟩ | exact hf (fun z => by obtain ⟨z1, z2, z3⟩ := z; contradiction)
theorem x_does (d : Nat) : S_does (sc_wpM (d + 1)) := fun I D K f q ht hf => sc_open (d := d) rfl (z_does (sc_wpM (d))  I D K f q ht hf)
abbrev S_writes (C : sc_CT) : Prop := ∀ (I : sc_I) (D : sc_R) (K : sc_RT) (f : Nat) (q : Int32) (ht : sc_wr I D f q → K (some (.inl 1)) I D) (hf : ¬ sc_wr I D f q → K (some (.inl 0)) I D), C 2 [.inr (0, f), .inl q] I D K
theorem z_writes (C : sc_CT) (c1 : S_writesD C) (I : sc_I) (D : sc_R) (K : sc_RT) (f : Nat) (q : Int32) (ht : sc_wr I D f q → K (some (.inl 1)) I D) (hf : ¬ sc_wr I D f q → K (some (.inl 0)) I D) : sc_wp C K (sc_t 2) 5000 (sc_t 2) (sc_al 0 [.inr (0, f), .inl q]) [] I D := by
  repeat' (first | (show _ ∧ _; first | refine And.intro (Or.inl rfl) ?_ | refine And.intro (Or.inr rfl) ?_ | refine And.intro (sc_vi (by decide)) ?_ | refine br_t (by decide) ?_ | refine br_f (by decide) ?_ | refine And.intro (fun _ => ?_) (fun _ => ?_)) | refine c1 _ _ _ _ (fun _ => ?_) (fun _ => ?_))
  all_goals first | exact ht ⟨by assumption, by assumption, by assumption, by assumption, by assumption⟩ | exact hf (fun z => by obtain ⟨z1, z2, z3, z4, z5⟩ := z; contradiction)
theorem x_writes (d : Nat) : S_writes (sc_wpM (d + 2)) := fun I D K f q ht hf => sc_open (d := d + 1) rfl (z_writes (sc_wpM (d + 1)) (x_writesD (d + 0)) I D K f q ht hf)
abbrev S_max (C : sc_CT) : Prop := ∀ (I : sc_I) (D : sc_R) (K : sc_RT) (x y : Int32) (h1 : x < y → K (some (.inl y)) I D) (h2 : ¬ x < y → K (some (.inl x)) I D), C 70 [.inl x, .inl y] I D K
theorem z_max (C : sc_CT)  (I : sc_I) (D : sc_R) (K : sc_RT) (x y : Int32) (h1 : x < y → K (some (.inl y)) I D) (h2 : ¬ x < y → K (some (.inl x)) I D) : sc_wp C K (sc_t 70) 5000 (sc_t 70) (sc_al 0 [.inl x, .inl y]) [] I D := by
  repeat' (first | (show _ ∧ _; first | refine And.intro (Or.inl rfl) ?_ | refine And.intro (Or.inr rfl) ?_ | refine And.intro (sc_vi (by decide)) ?_ | refine br_t (by decide) ?_ | refine br_f (by decide) ?_ | refine And.intro (fun _ => ?_) (fun _ => ?_)))
  all_goals first | exact h1 (by assumption) | exact h2 (by assumption)
theorem x_max (d : Nat) : S_max (sc_wpM (d + 1)) := fun I D K x y h1 h2 => sc_open (d := d) rfl (z_max (sc_wpM (d))  I D K x y h1 h2)
abbrev S_min (C : sc_CT) : Prop := ∀ (I : sc_I) (D : sc_R) (K : sc_RT) (x y : Int32) (h1 : y < x → K (some (.inl y)) I D) (h2 : ¬ y < x → K (some (.inl x)) I D), C 71 [.inl x, .inl y] I D K
theorem z_min (C : sc_CT)  (I : sc_I) (D : sc_R) (K : sc_RT) (x y : Int32) (h1 : y < x → K (some (.inl y)) I D) (h2 : ¬ y < x → K (some (.inl x)) I D) : sc_wp C K (sc_t 71) 5000 (sc_t 71) (sc_al 0 [.inl x, .inl y]) [] I D := by
  repeat' (first | (show _ ∧ _; first | refine And.intro (Or.inl rfl) ?_ | refine And.intro (Or.inr rfl) ?_ | refine And.intro (sc_vi (by decide)) ?_ | refine br_t (by decide) ?_ | refine br_f (by decide) ?_ | refine And.intro (fun _ => ?_) (fun _ => ?_)))
  all_goals first | exact h1 (by assumption) | exact h2 (by assumption)
theorem x_min (d : Nat) : S_min (sc_wpM (d + 1)) := fun I D K x y h1 h2 => sc_open (d := d) rfl (z_min (sc_wpM (d))  I D K x y h1 h2)
abbrev S_isWord (C : sc_CT) : Prop := ∀ (I : sc_I) (D : sc_R) (K : sc_RT) (x : Int32) (h1 : (0 ≤ x ∧ x < 32) → K (some (.inl 1)) I D) (h2 : ¬ (0 ≤ x ∧ x < 32) → K (some (.inl 0)) I D), C 24 [.inl x] I D K
theorem z_isWord (C : sc_CT)  (I : sc_I) (D : sc_R) (K : sc_RT) (x : Int32) (h1 : (0 ≤ x ∧ x < 32) → K (some (.inl 1)) I D) (h2 : ¬ (0 ≤ x ∧ x < 32) → K (some (.inl 0)) I D) : sc_wp C K (sc_t 24) 5000 (sc_t 24) (sc_al 0 [.inl x]) [] I D := by
  repeat' (first | (show _ ∧ _; first | refine And.intro (Or.inl rfl) ?_ | refine And.intro (Or.inr rfl) ?_ | refine And.intro (sc_vi (by decide)) ?_ | refine br_t (by decide) ?_ | refine br_f (by decide) ?_ | refine And.intro (fun _ => ?_) (fun _ => ?_)))
  all_goals first | exact h1 (by grind) | exact h2 (by grind)
theorem x_isWord (d : Nat) : S_isWord (sc_wpM (d + 1)) := fun I D K x h1 h2 => sc_open (d := d) rfl (z_isWord (sc_wpM (d))  I D K x h1 h2)
