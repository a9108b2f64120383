theorem sc_open {d mid : Nat} {as : List sc_V} {I : sc_I} {D : sc_R} {K : sc_RT} (hle : Nat.ble as.length (sc_nL mid) = true) (h : sc_wp (sc_wpM d) K (sc_t mid) 400 (sc_t mid) (sc_al 0 as) [] I D) : sc_wpM (d + 1) mid as I D K := by
  unfold sc_wpM
  rw [hle]
  exact h
theorem sc_vi {x : Int32} {n : Nat} (h : ¬ (x < 0 ∨ n ≤ x.toNatClampNeg)) : vp_in x n := h
def sc_wd (x : Int32) : Prop := x ≤ 11 ∨ x = 15 ∨ x = 16
def sc_br (x : Int32) : Prop := x = 13 ∨ x = 14
def sc_td (x : Int32) : Prop := x = 11 ∨ x = 12
def sc_ut (x : Int32) : Prop := x ≤ 8 ∨ x = 12 ∨ sc_br x
def sc_us (x : Int32) : Prop := x ≤ 9 ∨ x = 11 ∨ x = 16 ∨ sc_ut x
def sc_wc (x : Int32) : Int32 := if x = 7 then 3 else if x = 8 then 6 else 1
section
variable {I : sc_I} {D : sc_R} {K : sc_RT}
theorem x_isBranch (d a : Nat) (ht : sc_br (I 1 a 0) → K (some (.inl 1)) I D) (hf : ¬ sc_br (I 1 a 0) → K (some (.inl 0)) I D) : sc_wpM (d + 1) 3 [.inr (1, a)] I D K := by
  refine sc_open (d := d) rfl ?_
  generalize sc_wpM (d) = C
  repeat' (first | (show _ ∧ _; first | refine And.intro (Or.inl rfl) ?_ | refine And.intro (Or.inr rfl) ?_ | refine And.intro (sc_vi (by decide)) ?_ | refine br_t (by decide) ?_ | refine br_f (by decide) ?_ | refine And.intro (fun _ => ?_) (fun _ => ?_)))
  all_goals first | exact ht (by unfold sc_br; grind) | exact hf (by unfold sc_br; grind)
theorem x_writesD (d a : Nat) (ht : sc_wd (I 1 a 0) → K (some (.inl 1)) I D) (hf : ¬ sc_wd (I 1 a 0) → K (some (.inl 0)) I D) : sc_wpM (d + 1) 1 [.inr (1, a)] I D K := by
  refine sc_open (d := d) rfl ?_
  generalize sc_wpM (d) = C
  repeat' (first | (show _ ∧ _; first | refine And.intro (Or.inl rfl) ?_ | refine And.intro (Or.inr rfl) ?_ | refine And.intro (sc_vi (by decide)) ?_ | refine br_t (by decide) ?_ | refine br_f (by decide) ?_ | refine And.intro (fun _ => ?_) (fun _ => ?_)))
  all_goals first | exact ht (by unfold sc_wd; grind) | exact hf (by unfold sc_wd; grind)
theorem x_touchesData (d a : Nat) (ht : sc_td (I 1 a 0) → K (some (.inl 1)) I D) (hf : ¬ sc_td (I 1 a 0) → K (some (.inl 0)) I D) : sc_wpM (d + 1) 6 [.inr (1, a)] I D K := by
  refine sc_open (d := d) rfl ?_
  generalize sc_wpM (d) = C
  repeat' (first | (show _ ∧ _; first | refine And.intro (Or.inl rfl) ?_ | refine And.intro (Or.inr rfl) ?_ | refine And.intro (sc_vi (by decide)) ?_ | refine br_t (by decide) ?_ | refine br_f (by decide) ?_ | refine And.intro (fun _ => ?_) (fun _ => ?_)))
  all_goals first | exact ht (by unfold sc_td; grind) | exact hf (by unfold sc_td; grind)
theorem x_usesT (d a : Nat) (ht : sc_ut (I 1 a 0) → K (some (.inl 1)) I D) (hf : ¬ sc_ut (I 1 a 0) → K (some (.inl 0)) I D) : sc_wpM (d + 2) 4 [.inr (1, a)] I D K := by
  have c1 := fun I D K => @x_isBranch I D K d
  refine sc_open (d := d + 1) rfl ?_
  generalize sc_wpM (d + 1) = C at c1 ⊢
  repeat' (first | (show _ ∧ _; first | refine And.intro (Or.inl rfl) ?_ | refine And.intro (Or.inr rfl) ?_ | refine And.intro (sc_vi (by decide)) ?_ | refine br_t (by decide) ?_ | refine br_f (by decide) ?_ | refine And.intro (fun _ => ?_) (fun _ => ?_)) | refine c1 _ _ _ _ (fun _ => ?_) (fun _ => ?_))
  all_goals first | exact ht (by unfold sc_ut; grind) | exact hf (by unfold sc_ut; grind)
theorem x_usesS (d a : Nat) (ht : sc_us (I 1 a 0) → K (some (.inl 1)) I D) (hf : ¬ sc_us (I 1 a 0) → K (some (.inl 0)) I D) : sc_wpM (d + 3) 5 [.inr (1, a)] I D K := by
  have c1 := fun I D K => @x_usesT I D K d
  refine sc_open (d := d + 2) rfl ?_
  generalize sc_wpM (d + 2) = C at c1 ⊢
  repeat' (first | (show _ ∧ _; first | refine And.intro (Or.inl rfl) ?_ | refine And.intro (Or.inr rfl) ?_ | refine And.intro (sc_vi (by decide)) ?_ | refine br_t (by decide) ?_ | refine br_f (by decide) ?_ | refine And.intro (fun _ => ?_) (fun _ => ?_)) | refine c1 _ _ _ _ (fun _ => ?_) (fun _ => ?_))
  all_goals first | exact ht (by unfold sc_us; grind) | exact hf (by unfold sc_us; grind)
theorem x_workCycles (d a : Nat) (h : K (some (.inl (sc_wc (I 1 a 0)))) I D) : sc_wpM (d + 1) 7 [.inr (1, a)] I D K := by
  refine sc_open (d := d) rfl ?_
  generalize sc_wpM (d) = C
  unfold sc_wc at h
  repeat' (first | (show _ ∧ _; first | refine And.intro (Or.inl rfl) ?_ | refine And.intro (Or.inr rfl) ?_ | refine And.intro (sc_vi (by decide)) ?_ | refine br_t (by decide) ?_ | refine br_f (by decide) ?_ | refine And.intro (fun _ => ?_) (fun _ => ?_)))
  all_goals (simp_all only [if_true, if_false]; try exact h)
def sc_does (I : sc_I) (D : sc_R) (f : Nat) (q : Int32) : Prop := ¬ I 0 f 0 = 0 ∧ I 0 f 5 = 0 ∧ I 1 (D 0 f 1) 0 = q
def sc_wr (I : sc_I) (D : sc_R) (f : Nat) (r : Int32) : Prop := ¬ I 0 f 0 = 0 ∧ I 0 f 5 = 0 ∧ ¬ r = 0 ∧ sc_wd (I 1 (D 0 f 1) 0) ∧ I 1 (D 0 f 1) 1 = r
theorem x_does (d f : Nat) (q : Int32) (ht : sc_does I D f q → K (some (.inl 1)) I D) (hf : ¬ sc_does I D f q → K (some (.inl 0)) I D) : sc_wpM (d + 1) 0 [.inr (0, f), .inl q] I D K := by
  refine sc_open (d := d) rfl ?_
  generalize sc_wpM (d) = C
  repeat' (first | (show _ ∧ _; first | refine And.intro (Or.inl rfl) ?_ | refine And.intro (Or.inr rfl) ?_ | refine And.intro (sc_vi (by decide)) ?_ | refine br_t (by decide) ?_ | refine br_f (by decide) ?_ | refine And.intro (fun _ => ?_) (fun _ => ?_)))
  all_goals first | exact ht (by unfold sc_does; grind) | exact hf (by unfold sc_does; grind)
theorem x_writes (d f : Nat) (q : Int32) (ht : sc_wr I D f q → K (some (.inl 1)) I D) (hf : ¬ sc_wr I D f q → K (some (.inl 0)) I D) : sc_wpM (d + 2) 2 [.inr (0, f), .inl q] I D K := by
  have c1 := fun I D K => @x_writesD I D K d
  refine sc_open (d := d + 1) rfl ?_
  generalize sc_wpM (d + 1) = C at c1 ⊢
  repeat' (first | (show _ ∧ _; first | refine And.intro (Or.inl rfl) ?_ | refine And.intro (Or.inr rfl) ?_ | refine And.intro (sc_vi (by decide)) ?_ | refine br_t (by decide) ?_ | refine br_f (by decide) ?_ | refine And.intro (fun _ => ?_) (fun _ => ?_)) | refine c1 _ _ _ _ (fun _ => ?_) (fun _ => ?_))
  all_goals first | exact ht (by unfold sc_wr; grind) | exact hf (by unfold sc_wr; grind)
theorem x_max (d : Nat) (x y : Int32) (h1 : x < y → K (some (.inl y)) I D) (h2 : ¬ x < y → K (some (.inl x)) I D) : sc_wpM (d + 1) 70 [.inl x, .inl y] I D K := by
  refine sc_open (d := d) rfl ?_
  generalize sc_wpM (d) = C
  repeat' (first | (show _ ∧ _; first | refine And.intro (Or.inl rfl) ?_ | refine And.intro (Or.inr rfl) ?_ | refine And.intro (sc_vi (by decide)) ?_ | refine br_t (by decide) ?_ | refine br_f (by decide) ?_ | refine And.intro (fun _ => ?_) (fun _ => ?_)))
  all_goals first | exact h1 (by assumption) | exact h2 (by assumption)
theorem x_min (d : Nat) (x y : Int32) (h1 : y < x → K (some (.inl y)) I D) (h2 : ¬ y < x → K (some (.inl x)) I D) : sc_wpM (d + 1) 71 [.inl x, .inl y] I D K := by
  refine sc_open (d := d) rfl ?_
  generalize sc_wpM (d) = C
  repeat' (first | (show _ ∧ _; first | refine And.intro (Or.inl rfl) ?_ | refine And.intro (Or.inr rfl) ?_ | refine And.intro (sc_vi (by decide)) ?_ | refine br_t (by decide) ?_ | refine br_f (by decide) ?_ | refine And.intro (fun _ => ?_) (fun _ => ?_)))
  all_goals first | exact h1 (by assumption) | exact h2 (by assumption)
theorem x_isWord (d : Nat) (x : Int32) (h1 : (0 ≤ x ∧ x < 32) → K (some (.inl 1)) I D) (h2 : ¬ (0 ≤ x ∧ x < 32) → K (some (.inl 0)) I D) : sc_wpM (d + 1) 24 [.inl x] I D K := by
  refine sc_open (d := d) rfl ?_
  generalize sc_wpM (d) = C
  repeat' (first | (show _ ∧ _; first | refine And.intro (Or.inl rfl) ?_ | refine And.intro (Or.inr rfl) ?_ | refine And.intro (sc_vi (by decide)) ?_ | refine br_t (by decide) ?_ | refine br_f (by decide) ?_ | refine And.intro (fun _ => ?_) (fun _ => ?_)))
  all_goals first | exact h1 (by grind) | exact h2 (by grind)
end
