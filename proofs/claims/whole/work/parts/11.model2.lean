abbrev m_wdD (x : Int32) : Prop := (0 ≤ x ∧ x ≤ 11) ∨ x = 15 ∨ x = 16
abbrev m_usD (x : Int32) : Prop := (0 ≤ x ∧ x ≤ 9) ∨ (11 ≤ x ∧ x ≤ 14) ∨ x = 16
abbrev m_utD (x : Int32) : Prop := (0 ≤ x ∧ x ≤ 8) ∨ (12 ≤ x ∧ x ≤ 14)
def m_lv (J : sc_I) : sc_I := if J 5 0 4 = 0 then J else if J 4 21 4 ≤ 0 then (if J 4 13 4 = 18 then m_hlt J else if m_wdD (J 4 13 4) ∧ ¬ J 4 14 4 = 0 then m_retW J else m_retN J) else m_flt J
abbrev m_end (J : sc_I) : Prop := ¬ J 5 0 4 = 0 ∧ (¬ J 4 21 4 ≤ 0 ∨ J 4 13 4 = 18)
def m_ld (J : sc_I) : sc_I := sc_u (m_move 3 J) 4 19 4 (J 4 9 (J 4 20 3).toNatClampNeg)
def m_sto (J : sc_I) : sc_I := sc_u (m_move 3 J) 4 9 (J 4 20 3).toNatClampNeg (J 4 19 3)
def m_rem (J : sc_I) : sc_I := if J 5 0 3 = 0 then J else if J 4 21 3 = 0 then (if J 4 13 3 = 11 then m_ld J else if J 4 13 3 = 12 then m_sto J else m_move 3 J) else m_move 3 J
abbrev m_ah (J : sc_I) (r : Int32) : Prop := ¬ J 5 0 4 = 0 ∧ J 4 21 4 = 0 ∧ m_wdD (J 4 13 4) ∧ J 4 14 4 = r ∧ ¬ r = 0
def m_rd (J : sc_I) (r : Int32) : Int32 := if m_ah J r then J 4 19 4 else J 4 10 r.toNatClampNeg
def m_rk (o x y : Int32) : Int32 := if o = 0 then x + y else if o = 1 then x - y else if o = 2 then x &&& y else if o = 3 then x ||| y else if o = 4 then x ^^^ y else if o = 5 then x <<< (y &&& 31 &&& 31) else if o = 6 then (if x < y then 1 else 0) else if o = 7 then x * y else if y = 0 then 0 else x / y
abbrev S_m_leave (C : sc_CT) : Prop := ∀ (I : sc_I) (D : sc_R) (K : sc_RT) (hd : vp_in (I 4 14 4) 16) (ht : m_end I → K (some (.inl 1)) (m_lv I) D) (hf : ¬ m_end I → K (some (.inl 0)) (m_lv I) D), C 57 [.inr (3, 0)] I D K
set_option maxRecDepth 100000 in
theorem z_m_leave (C : sc_CT) (c1 : S_m_empty C) (c2 : S_m_writes C) (I : sc_I) (D : sc_R) (K : sc_RT) (hd : vp_in (I 4 14 4) 16) (ht : m_end I → K (some (.inl 1)) (m_lv I) D) (hf : ¬ m_end I → K (some (.inl 0)) (m_lv I) D) : sc_wp C K (sc_t 57) 5000 (sc_t 57) (sc_al 0 [.inr (3, 0)]) [] I D := by
  unfold m_lv at ht hf
  by_cases h0 : I 5 0 4 = 0
  · rw [if_pos h0] at hf
    refine And.intro (sc_vi (by decide)) (br_t h0 (And.intro (Or.inl rfl) (hf (fun z => z.1 h0))))
  rw [if_neg h0] at ht hf
  refine And.intro (sc_vi (by decide)) (br_f h0 (And.intro (Or.inl rfl) (And.intro (sc_vi (by decide)) (And.intro (sc_vi (by decide)) ?_))))
  by_cases h1 : I 4 21 4 ≤ 0
  · rw [if_pos h1] at ht hf
    refine br_t h1 (And.intro (sc_vi (by decide)) ?_)
    by_cases h2 : I 4 13 4 = 18
    · rw [if_pos h2] at ht
      refine br_t h2 ?_
      repeat' (first | (show _ ∧ _; first | refine And.intro (Or.inl rfl) ?_ | refine And.intro (Or.inr rfl) ?_ | refine And.intro (sc_vi (by decide)) ?_ | refine br_t (by decide) ?_ | refine br_f (by decide) ?_ | refine And.intro (fun _ => ?_) (fun _ => ?_)) | refine c1 _ _ _ ?_ | refine c2 _ _ _ _ (fun _ => ?_) (fun _ => ?_))
      exact ht ⟨h0, Or.inr h2⟩
    · rw [if_neg h2] at hf
      refine br_f h2 ?_
      have hf := hf (fun z => z.2.elim (fun a => a h1) h2)
      have hk : (I 3 0 31 < 16 ∧ m_kept (I 3 0 31) = I 3 0 31 + 1 ∧ ¬ 16 ≤ I 3 0 31) ∨ (¬ I 3 0 31 < 16 ∧ m_kept (I 3 0 31) = 16 ∧ 16 ≤ I 3 0 31) := by
        by_cases hk : I 3 0 31 < 16
        · exact Or.inl ⟨hk, if_pos hk, by grind⟩
        · exact Or.inr ⟨hk, if_neg hk, by grind⟩
      refine And.intro (sc_vi (by decide)) (c2 _ _ _ _ (fun h3 => ?_) (fun h3 => ?_))
      · refine br_f (by decide) (And.intro (sc_vi (by decide)) ?_)
        by_cases h4 : I 4 14 4 = 0
        · refine br_t h4 ?_
          rw [if_neg (fun z => z.2 h4)] at hf
          rcases hk with ⟨-, ek, hk⟩ | ⟨-, ek, hk⟩
          · unfold m_retN at hf
            rw [ek] at hf
            repeat' (first | (show _ ∧ _; first | refine br_f hk ?_ | refine And.intro (Or.inl rfl) ?_ | refine And.intro (Or.inr rfl) ?_ | refine And.intro (sc_vi (by decide)) ?_ | refine br_t (by decide) ?_ | refine br_f (by decide) ?_ | refine And.intro (fun _ => ?_) (fun _ => ?_)) | refine c1 _ _ _ ?_ | refine c2 _ _ _ _ (fun _ => ?_) (fun _ => ?_))
            exact hf
          · unfold m_retN at hf
            rw [ek] at hf
            repeat' (first | (show _ ∧ _; first | refine br_t hk ?_ | refine And.intro (Or.inl rfl) ?_ | refine And.intro (Or.inr rfl) ?_ | refine And.intro (sc_vi (by decide)) ?_ | refine br_t (by decide) ?_ | refine br_f (by decide) ?_ | refine And.intro (fun _ => ?_) (fun _ => ?_)) | refine c1 _ _ _ ?_ | refine c2 _ _ _ _ (fun _ => ?_) (fun _ => ?_))
            exact hf
        · refine br_f h4 (And.intro (sc_vi (by decide)) (And.intro (sc_vi (by decide)) (And.intro hd ?_)))
          rw [if_pos ⟨h3, h4⟩] at hf
          rcases hk with ⟨-, ek, hk⟩ | ⟨-, ek, hk⟩
          · unfold m_retW at hf
            rw [ek] at hf
            repeat' (first | (show _ ∧ _; first | refine br_f hk ?_ | refine And.intro (Or.inl rfl) ?_ | refine And.intro (Or.inr rfl) ?_ | refine And.intro (sc_vi (by decide)) ?_ | refine br_t (by decide) ?_ | refine br_f (by decide) ?_ | refine And.intro (fun _ => ?_) (fun _ => ?_)) | refine c1 _ _ _ ?_ | refine c2 _ _ _ _ (fun _ => ?_) (fun _ => ?_))
            exact hf
          · unfold m_retW at hf
            rw [ek] at hf
            repeat' (first | (show _ ∧ _; first | refine br_t hk ?_ | refine And.intro (Or.inl rfl) ?_ | refine And.intro (Or.inr rfl) ?_ | refine And.intro (sc_vi (by decide)) ?_ | refine br_t (by decide) ?_ | refine br_f (by decide) ?_ | refine And.intro (fun _ => ?_) (fun _ => ?_)) | refine c1 _ _ _ ?_ | refine c2 _ _ _ _ (fun _ => ?_) (fun _ => ?_))
            exact hf
      · refine br_t (by decide) ?_
        rw [if_neg (fun z => h3 z.1)] at hf
        rcases hk with ⟨-, ek, hk⟩ | ⟨-, ek, hk⟩
        · unfold m_retN at hf
          rw [ek] at hf
          repeat' (first | (show _ ∧ _; first | refine br_f hk ?_ | refine And.intro (Or.inl rfl) ?_ | refine And.intro (Or.inr rfl) ?_ | refine And.intro (sc_vi (by decide)) ?_ | refine br_t (by decide) ?_ | refine br_f (by decide) ?_ | refine And.intro (fun _ => ?_) (fun _ => ?_)) | refine c1 _ _ _ ?_ | refine c2 _ _ _ _ (fun _ => ?_) (fun _ => ?_))
          exact hf
        · unfold m_retN at hf
          rw [ek] at hf
          repeat' (first | (show _ ∧ _; first | refine br_t hk ?_ | refine And.intro (Or.inl rfl) ?_ | refine And.intro (Or.inr rfl) ?_ | refine And.intro (sc_vi (by decide)) ?_ | refine br_t (by decide) ?_ | refine br_f (by decide) ?_ | refine And.intro (fun _ => ?_) (fun _ => ?_)) | refine c1 _ _ _ ?_ | refine c2 _ _ _ _ (fun _ => ?_) (fun _ => ?_))
          exact hf
  · rw [if_neg h1] at ht
    refine br_f h1 ?_
    repeat' (first | (show _ ∧ _; first | refine And.intro (Or.inl rfl) ?_ | refine And.intro (Or.inr rfl) ?_ | refine And.intro (sc_vi (by decide)) ?_ | refine br_t (by decide) ?_ | refine br_f (by decide) ?_ | refine And.intro (fun _ => ?_) (fun _ => ?_)) | refine c1 _ _ _ ?_ | refine c2 _ _ _ _ (fun _ => ?_) (fun _ => ?_))
    exact ht ⟨h0, Or.inl h1⟩
theorem x_m_leave (d : Nat) : S_m_leave (sc_wpM (d + 3)) := fun I D K hd ht hf => sc_open (d := d + 2) rfl (z_m_leave (sc_wpM (d + 2)) (x_m_empty (d + 1)) (x_m_writes (d + 0)) I D K hd ht hf)
abbrev S_m_remember (C : sc_CT) : Prop := ∀ (I : sc_I) (D : sc_R) (K : sc_RT) (ha : ¬ I 5 0 3 = 0 → I 4 21 3 = 0 → (I 4 13 3 = 11 ∨ I 4 13 3 = 12) → vp_in (I 4 20 3) 32) (h : K none (m_rem I) D), C 58 [.inr (3, 0)] I D K
theorem z_m_remember (C : sc_CT) (c1 : S_m_move3 C) (I : sc_I) (D : sc_R) (K : sc_RT) (ha : ¬ I 5 0 3 = 0 → I 4 21 3 = 0 → (I 4 13 3 = 11 ∨ I 4 13 3 = 12) → vp_in (I 4 20 3) 32) (h : K none (m_rem I) D) : sc_wp C K (sc_t 58) 5000 (sc_t 58) (sc_al 0 [.inr (3, 0)]) [] I D := by
  unfold m_rem at h
  by_cases h0 : I 5 0 3 = 0
  · rw [if_pos h0] at h
    exact And.intro (sc_vi (by decide)) (br_t h0 h)
  rw [if_neg h0] at h
  refine And.intro (sc_vi (by decide)) (br_f h0 (c1 _ _ _ ?_))
  refine And.intro (sc_vi (by decide)) ?_
  by_cases h1 : I 4 21 3 = 0
  · rw [if_pos h1] at h
    refine br_t h1 (And.intro (sc_vi (by decide)) ?_)
    by_cases h2 : I 4 13 3 = 11
    · rw [if_pos h2] at h
      refine br_t h2 (And.intro (sc_vi (by decide)) (And.intro (ha h0 h1 (Or.inl h2)) (And.intro (sc_vi (by decide)) (And.intro (sc_vi (by decide)) ?_))))
      refine br_t h1 (And.intro (sc_vi (by decide)) ?_)
      have h3 : ¬ I 4 13 3 = 12 := fun e => absurd (h2.symm.trans e) (by decide)
      exact br_f h3 h
    · rw [if_neg h2] at h
      refine br_f h2 (And.intro (sc_vi (by decide)) (br_t h1 (And.intro (sc_vi (by decide)) ?_)))
      by_cases h3 : I 4 13 3 = 12
      · rw [if_pos h3] at h
        exact br_t h3 (And.intro (sc_vi (by decide)) (And.intro (sc_vi (by decide)) (And.intro (ha h0 h1 (Or.inr h3)) h)))
      · rw [if_neg h3] at h
        exact br_f h3 h
  · rw [if_neg h1] at h
    exact br_f h1 (And.intro (sc_vi (by decide)) (br_f h1 h))
theorem x_m_remember (d : Nat) : S_m_remember (sc_wpM (d + 2)) := fun I D K ha h => sc_open (d := d + 1) rfl (z_m_remember (sc_wpM (d + 1)) (x_m_move3 (d + 0)) I D K ha h)
abbrev S_m_read (C : sc_CT) : Prop := ∀ (I : sc_I) (D : sc_R) (K : sc_RT) (r : Int32) (hr : vp_in r 16) (h : K (some (.inl (m_rd I r))) I D), C 59 [.inr (3, 0), .inl r] I D K
theorem z_m_read (C : sc_CT) (c1 : S_m_writes C) (I : sc_I) (D : sc_R) (K : sc_RT) (r : Int32) (hr : vp_in r 16) (h : K (some (.inl (m_rd I r))) I D) : sc_wp C K (sc_t 59) 5000 (sc_t 59) (sc_al 0 [.inr (3, 0), .inl r]) [] I D := by
  unfold m_rd at h
  by_cases ha : m_ah I r
  · rw [if_pos ha] at h
    obtain ⟨h0, h1, h2, h3, h4⟩ := ha
    repeat' (first | (show _ ∧ _; first | refine br_f h0 ?_ | refine br_t h1 ?_ | refine br_t h3 ?_ | refine br_f h4 ?_ | refine And.intro (Or.inl rfl) ?_ | refine And.intro (Or.inr rfl) ?_ | refine And.intro (sc_vi (by decide)) ?_ | refine br_t (by decide) ?_ | refine br_f (by decide) ?_ | refine And.intro (fun _ => ?_) (fun _ => ?_)) | refine c1 _ _ _ _ (fun _ => ?_) (fun _ => ?_))
    · exact h
    · exact absurd h2 (by assumption)
  · rw [if_neg ha] at h
    repeat' (first | (show _ ∧ _; first | refine And.intro hr ?_ | refine And.intro (Or.inl rfl) ?_ | refine And.intro (Or.inr rfl) ?_ | refine And.intro (sc_vi (by decide)) ?_ | refine br_t (by decide) ?_ | refine br_f (by decide) ?_ | refine And.intro (fun _ => ?_) (fun _ => ?_)) | refine c1 _ _ _ _ (fun _ => ?_) (fun _ => ?_))
    all_goals first | exact h | exact absurd ⟨by assumption, by assumption, by assumption, by assumption, by assumption⟩ ha
theorem x_m_read (d : Nat) : S_m_read (sc_wpM (d + 3)) := fun I D K r hr h => sc_open (d := d + 2) rfl (z_m_read (sc_wpM (d + 2)) (x_m_writes (d + 0)) I D K r hr h)
abbrev S_m_reckon (C : sc_CT) : Prop := ∀ (I : sc_I) (D : sc_R) (K : sc_RT) (o x y : Int32) (h : K (some (.inl (m_rk o x y))) I D), C 60 [.inl o, .inl x, .inl y] I D K
theorem z_m_reckon (C : sc_CT)  (I : sc_I) (D : sc_R) (K : sc_RT) (o x y : Int32) (h : K (some (.inl (m_rk o x y))) I D) : sc_wp C K (sc_t 60) 5000 (sc_t 60) (sc_al 0 [.inl o, .inl x, .inl y]) [] I D := by
  unfold m_rk at h
  refine And.intro (fun h0 => ?_) (fun h0 => ?_)
  · rw [if_pos h0] at h; exact h
  rw [if_neg h0] at h
  refine And.intro (fun h0 => ?_) (fun h0 => ?_)
  · rw [if_pos h0] at h; exact h
  rw [if_neg h0] at h
  refine And.intro (fun h0 => ?_) (fun h0 => ?_)
  · rw [if_pos h0] at h; exact h
  rw [if_neg h0] at h
  refine And.intro (fun h0 => ?_) (fun h0 => ?_)
  · rw [if_pos h0] at h; exact h
  rw [if_neg h0] at h
  refine And.intro (fun h0 => ?_) (fun h0 => ?_)
  · rw [if_pos h0] at h; exact h
  rw [if_neg h0] at h
  refine And.intro (fun h0 => ?_) (fun h0 => ?_)
  · rw [if_pos h0] at h; exact h
  rw [if_neg h0] at h
  refine And.intro (fun h0 => ?_) (fun h0 => ?_)
  · rw [if_pos h0] at h
    refine And.intro (fun h1 => ?_) (fun h1 => ?_)
    · rw [if_neg (by grind)] at h; exact h
    · rw [if_pos (by grind)] at h; exact h
  rw [if_neg h0] at h
  refine And.intro (fun h0 => ?_) (fun h0 => ?_)
  · rw [if_pos h0] at h; exact h
  rw [if_neg h0] at h
  refine And.intro (fun h1 => ?_) (fun h1 => ?_)
  · rw [if_pos h1] at h; exact h
  · rw [if_neg h1] at h; exact And.intro h1 h
theorem x_m_reckon (d : Nat) : S_m_reckon (sc_wpM (d + 1)) := fun I D K o x y h => sc_open (d := d) rfl (z_m_reckon (sc_wpM (d))  I D K o x y h)
def m_up (v : Int32) : Int32 := if 3 ≤ v then 3 else v + 1
def m_dn (v : Int32) : Int32 := if v ≤ 0 then 0 else v - 1
abbrev m_go (o x y : Int32) : Prop := (x = y ∧ o = 13) ∨ (¬ x = y ∧ ¬ o = 13)
def m_wkN (J : sc_I) : Int32 :=
  if J 4 13 2 = 13 ∨ J 4 13 2 = 14 then (if m_go (J 4 13 2) (m_rd J (J 4 15 2)) (m_rd J (J 4 16 2)) then J 4 12 2 + J 4 17 2 else J 4 12 2 + 1)
  else if J 4 13 2 = 15 then J 4 12 2 + J 4 17 2 else if J 4 13 2 = 16 then m_rd J (J 4 15 2) + J 4 17 2 else J 4 12 2 + 1
def m_wkS (J : sc_I) : sc_I :=
  if 8 < J 4 13 2 then
    (if J 4 13 2 = 9 then sc_u J 4 19 2 (m_rd J (J 4 15 2) + J 4 17 2)
    else if J 4 13 2 = 10 then sc_u J 4 19 2 (J 4 17 2)
    else if J 4 13 2 = 11 ∨ J 4 13 2 = 12 then sc_u (sc_u (sc_u J 4 20 2 (m_rd J (J 4 15 2) + J 4 17 2)) 4 21 2 (if 0 ≤ m_rd J (J 4 15 2) + J 4 17 2 ∧ m_rd J (J 4 15 2) + J 4 17 2 ≤ 31 then J 4 21 2 else 3)) 4 19 2 (m_rd J (J 4 16 2))
    else if J 4 13 2 = 13 ∨ J 4 13 2 = 14 then sc_u (sc_u J 4 11 (J 4 12 2 &&& 7).toNatClampNeg (if m_go (J 4 13 2) (m_rd J (J 4 15 2)) (m_rd J (J 4 16 2)) then m_up (J 4 11 (J 4 12 2 &&& 7).toNatClampNeg) else m_dn (J 4 11 (J 4 12 2 &&& 7).toNatClampNeg))) 4 19 2 0
    else if J 4 13 2 = 15 ∨ J 4 13 2 = 16 then sc_u J 4 19 2 (J 4 12 2 + 1)
    else if J 4 13 2 = 17 then sc_u (sc_u J 4 21 2 2) 4 19 2 0
    else sc_u J 4 19 2 0)
  else sc_u (sc_u J 4 21 2 (if J 4 13 2 = 8 ∧ m_rd J (J 4 16 2) = 0 then 4 else J 4 21 2)) 4 19 2 (m_rk (J 4 13 2) (m_rd J (J 4 15 2)) (m_rd J (J 4 16 2)))
theorem m_and7 (x : Int32) : vp_in (x &&& 7) 8 := pk_andIn x (m := 7) 3 (by decide) (by decide)
abbrev S_m_work (C : sc_CT) : Prop := ∀ (I : sc_I) (D : sc_R) (K : sc_RT) (hs : vp_in (I 4 15 2) 16) (ht : vp_in (I 4 16 2) 16) (h : K (some (.inl (m_wkN I))) (m_wkS I) D), C 61 [.inr (3, 0)] I D K
set_option maxRecDepth 100000 in
set_option maxHeartbeats 8000000 in
theorem z_m_work (C : sc_CT) (c1 : S_m_read C) (c2 : S_m_reckon C) (c3 : S_m_in C) (I : sc_I) (D : sc_R) (K : sc_RT) (hs : vp_in (I 4 15 2) 16) (ht : vp_in (I 4 16 2) 16) (h : K (some (.inl (m_wkN I))) (m_wkS I) D) : sc_wp C K (sc_t 61) 5000 (sc_t 61) (sc_al 0 [.inr (3, 0)]) [] I D := by
  unfold m_wkN m_wkS at h
  refine And.intro (sc_vi (by decide)) (And.intro (sc_vi (by decide)) (c1 _ _ _ _ hs ?_))
  refine And.intro (sc_vi (by decide)) (c1 _ _ _ _ ht ?_)
  refine And.intro (sc_vi (by decide)) (And.intro (sc_vi (by decide)) ?_)
  by_cases h8 : 8 < I 4 13 2
  · rw [if_pos h8] at h
    refine br_t h8 ?_
    by_cases h9 : I 4 13 2 = 9
    · rw [if_pos h9, if_neg (by rw [h9]; decide), if_neg (by rw [h9]; decide), if_neg (by rw [h9]; decide)] at h
      have h10 : ¬ I 4 13 2 = 10 := by rw [h9]; decide
      exact br_t h9 (br_f h10 (And.intro (sc_vi (by decide)) h))
    rw [if_neg h9] at h
    refine br_f h9 ?_
    by_cases h10 : I 4 13 2 = 10
    · rw [if_pos h10, if_neg (by rw [h10]; decide), if_neg (by rw [h10]; decide), if_neg (by rw [h10]; decide)] at h
      exact br_t h10 (br_t h10 (And.intro (sc_vi (by decide)) h))
    rw [if_neg h10] at h
    refine br_f h10 ?_
    by_cases h11 : I 4 13 2 = 11 ∨ I 4 13 2 = 12
    · rw [if_pos h11, if_neg (by rcases h11 with e | e <;> rw [e] <;> decide), if_neg (by rcases h11 with e | e <;> rw [e] <;> decide), if_neg (by rcases h11 with e | e <;> rw [e] <;> decide)] at h
      by_cases hin : 0 ≤ m_rd I (I 4 15 2) + I 4 17 2 ∧ m_rd I (I 4 15 2) + I 4 17 2 ≤ 31
      · rw [if_pos hin] at h
        rcases h11 with e | e
        · repeat' (first | (show _ ∧ _; first | refine br_t e ?_ | refine And.intro (Or.inl rfl) ?_ | refine And.intro (Or.inr rfl) ?_ | refine And.intro (sc_vi (by decide)) ?_ | refine br_t (by decide) ?_ | refine br_f (by decide) ?_ | refine And.intro (fun _ => ?_) (fun _ => ?_)) | refine c2 _ _ _ _ _ _ ?_ | refine c3 _ _ _ _ _ _ (fun _ => ?_) (fun _ => ?_))
          · exact h
          · exact absurd hin (by assumption)
        · have e2 : ¬ I 4 13 2 = 11 := by rw [e]; decide
          repeat' (first | (show _ ∧ _; first | refine br_t e ?_ | refine br_f e2 ?_ | refine And.intro (Or.inl rfl) ?_ | refine And.intro (Or.inr rfl) ?_ | refine And.intro (sc_vi (by decide)) ?_ | refine br_t (by decide) ?_ | refine br_f (by decide) ?_ | refine And.intro (fun _ => ?_) (fun _ => ?_)) | refine c2 _ _ _ _ _ _ ?_ | refine c3 _ _ _ _ _ _ (fun _ => ?_) (fun _ => ?_))
          · exact h
          · exact absurd hin (by assumption)
      · rw [if_neg hin] at h
        rcases h11 with e | e
        · repeat' (first | (show _ ∧ _; first | refine br_t e ?_ | refine And.intro (Or.inl rfl) ?_ | refine And.intro (Or.inr rfl) ?_ | refine And.intro (sc_vi (by decide)) ?_ | refine br_t (by decide) ?_ | refine br_f (by decide) ?_ | refine And.intro (fun _ => ?_) (fun _ => ?_)) | refine c2 _ _ _ _ _ _ ?_ | refine c3 _ _ _ _ _ _ (fun _ => ?_) (fun _ => ?_))
          · exact absurd (by assumption) hin
          · exact h
        · have e2 : ¬ I 4 13 2 = 11 := by rw [e]; decide
          repeat' (first | (show _ ∧ _; first | refine br_t e ?_ | refine br_f e2 ?_ | refine And.intro (Or.inl rfl) ?_ | refine And.intro (Or.inr rfl) ?_ | refine And.intro (sc_vi (by decide)) ?_ | refine br_t (by decide) ?_ | refine br_f (by decide) ?_ | refine And.intro (fun _ => ?_) (fun _ => ?_)) | refine c2 _ _ _ _ _ _ ?_ | refine c3 _ _ _ _ _ _ (fun _ => ?_) (fun _ => ?_))
          · exact absurd (by assumption) hin
          · exact h
    rw [if_neg h11] at h
    have h11a : ¬ I 4 13 2 = 11 := fun e => h11 (Or.inl e)
    have h11b : ¬ I 4 13 2 = 12 := fun e => h11 (Or.inr e)
    refine br_f h11a (br_f h11b ?_)
    by_cases h13 : I 4 13 2 = 13 ∨ I 4 13 2 = 14
    · rw [if_pos h13, if_pos h13] at h
      have hc : (3 ≤ I 4 11 (I 4 12 2 &&& 7).toNatClampNeg ∧ m_up (I 4 11 (I 4 12 2 &&& 7).toNatClampNeg) = 3) ∨ (¬ 3 ≤ I 4 11 (I 4 12 2 &&& 7).toNatClampNeg ∧ m_up (I 4 11 (I 4 12 2 &&& 7).toNatClampNeg) = I 4 11 (I 4 12 2 &&& 7).toNatClampNeg + 1) := by
        by_cases z : 3 ≤ I 4 11 (I 4 12 2 &&& 7).toNatClampNeg
        · exact Or.inl ⟨z, if_pos z⟩
        · exact Or.inr ⟨z, if_neg z⟩
      have hd : (I 4 11 (I 4 12 2 &&& 7).toNatClampNeg ≤ 0 ∧ m_dn (I 4 11 (I 4 12 2 &&& 7).toNatClampNeg) = 0) ∨ (¬ I 4 11 (I 4 12 2 &&& 7).toNatClampNeg ≤ 0 ∧ m_dn (I 4 11 (I 4 12 2 &&& 7).toNatClampNeg) = I 4 11 (I 4 12 2 &&& 7).toNatClampNeg - 1) := by
        by_cases z : I 4 11 (I 4 12 2 &&& 7).toNatClampNeg ≤ 0
        · exact Or.inl ⟨z, if_pos z⟩
        · exact Or.inr ⟨z, if_neg z⟩
      by_cases hxy : m_rd I (I 4 15 2) = m_rd I (I 4 16 2)
      · rcases h13 with e | e
        · rw [if_pos (Or.inl ⟨hxy, e⟩), if_pos (Or.inl ⟨hxy, e⟩)] at h
          rcases hc with ⟨k3, ec⟩ | ⟨k3, ec⟩
          · rw [ec] at h
            repeat' (first | (show _ ∧ _; first | refine br_t e ?_ | refine br_t hxy ?_ | refine And.intro (m_and7 _) ?_ | refine br_t k3 ?_ | refine And.intro (Or.inl rfl) ?_ | refine And.intro (Or.inr rfl) ?_ | refine And.intro (sc_vi (by decide)) ?_ | refine br_t (by decide) ?_ | refine br_f (by decide) ?_ | refine And.intro (fun _ => ?_) (fun _ => ?_)) | refine c2 _ _ _ _ _ _ ?_ | refine c3 _ _ _ _ _ _ (fun _ => ?_) (fun _ => ?_))
            exact h
          · rw [ec] at h
            repeat' (first | (show _ ∧ _; first | refine br_t e ?_ | refine br_t hxy ?_ | refine And.intro (m_and7 _) ?_ | refine br_f k3 ?_ | refine And.intro (Or.inl rfl) ?_ | refine And.intro (Or.inr rfl) ?_ | refine And.intro (sc_vi (by decide)) ?_ | refine br_t (by decide) ?_ | refine br_f (by decide) ?_ | refine And.intro (fun _ => ?_) (fun _ => ?_)) | refine c2 _ _ _ _ _ _ ?_ | refine c3 _ _ _ _ _ _ (fun _ => ?_) (fun _ => ?_))
            exact h
        · have e2 : ¬ I 4 13 2 = 13 := by rw [e]; decide
          rw [if_neg (fun z => z.elim (fun w => e2 w.2) (fun w => w.1 hxy)), if_neg (fun z => z.elim (fun w => e2 w.2) (fun w => w.1 hxy))] at h
          rcases hd with ⟨k3, ec⟩ | ⟨k3, ec⟩
          · rw [ec] at h
            repeat' (first | (show _ ∧ _; first | refine br_t e ?_ | refine br_f e2 ?_ | refine br_t hxy ?_ | refine And.intro (m_and7 _) ?_ | refine br_t k3 ?_ | refine And.intro (Or.inl rfl) ?_ | refine And.intro (Or.inr rfl) ?_ | refine And.intro (sc_vi (by decide)) ?_ | refine br_t (by decide) ?_ | refine br_f (by decide) ?_ | refine And.intro (fun _ => ?_) (fun _ => ?_)) | refine c2 _ _ _ _ _ _ ?_ | refine c3 _ _ _ _ _ _ (fun _ => ?_) (fun _ => ?_))
            exact h
          · rw [ec] at h
            repeat' (first | (show _ ∧ _; first | refine br_t e ?_ | refine br_f e2 ?_ | refine br_t hxy ?_ | refine And.intro (m_and7 _) ?_ | refine br_f k3 ?_ | refine And.intro (Or.inl rfl) ?_ | refine And.intro (Or.inr rfl) ?_ | refine And.intro (sc_vi (by decide)) ?_ | refine br_t (by decide) ?_ | refine br_f (by decide) ?_ | refine And.intro (fun _ => ?_) (fun _ => ?_)) | refine c2 _ _ _ _ _ _ ?_ | refine c3 _ _ _ _ _ _ (fun _ => ?_) (fun _ => ?_))
            exact h
      · rcases h13 with e | e
        · rw [if_neg (fun z => z.elim (fun w => hxy w.1) (fun w => w.2 e)), if_neg (fun z => z.elim (fun w => hxy w.1) (fun w => w.2 e))] at h
          rcases hd with ⟨k3, ec⟩ | ⟨k3, ec⟩
          · rw [ec] at h
            repeat' (first | (show _ ∧ _; first | refine br_t e ?_ | refine br_f hxy ?_ | refine And.intro (m_and7 _) ?_ | refine br_t k3 ?_ | refine And.intro (Or.inl rfl) ?_ | refine And.intro (Or.inr rfl) ?_ | refine And.intro (sc_vi (by decide)) ?_ | refine br_t (by decide) ?_ | refine br_f (by decide) ?_ | refine And.intro (fun _ => ?_) (fun _ => ?_)) | refine c2 _ _ _ _ _ _ ?_ | refine c3 _ _ _ _ _ _ (fun _ => ?_) (fun _ => ?_))
            exact h
          · rw [ec] at h
            repeat' (first | (show _ ∧ _; first | refine br_t e ?_ | refine br_f hxy ?_ | refine And.intro (m_and7 _) ?_ | refine br_f k3 ?_ | refine And.intro (Or.inl rfl) ?_ | refine And.intro (Or.inr rfl) ?_ | refine And.intro (sc_vi (by decide)) ?_ | refine br_t (by decide) ?_ | refine br_f (by decide) ?_ | refine And.intro (fun _ => ?_) (fun _ => ?_)) | refine c2 _ _ _ _ _ _ ?_ | refine c3 _ _ _ _ _ _ (fun _ => ?_) (fun _ => ?_))
            exact h
        · have e2 : ¬ I 4 13 2 = 13 := by rw [e]; decide
          rw [if_pos (Or.inr ⟨hxy, e2⟩), if_pos (Or.inr ⟨hxy, e2⟩)] at h
          rcases hc with ⟨k3, ec⟩ | ⟨k3, ec⟩
          · rw [ec] at h
            repeat' (first | (show _ ∧ _; first | refine br_t e ?_ | refine br_f e2 ?_ | refine br_f hxy ?_ | refine And.intro (m_and7 _) ?_ | refine br_t k3 ?_ | refine And.intro (Or.inl rfl) ?_ | refine And.intro (Or.inr rfl) ?_ | refine And.intro (sc_vi (by decide)) ?_ | refine br_t (by decide) ?_ | refine br_f (by decide) ?_ | refine And.intro (fun _ => ?_) (fun _ => ?_)) | refine c2 _ _ _ _ _ _ ?_ | refine c3 _ _ _ _ _ _ (fun _ => ?_) (fun _ => ?_))
            exact h
          · rw [ec] at h
            repeat' (first | (show _ ∧ _; first | refine br_t e ?_ | refine br_f e2 ?_ | refine br_f hxy ?_ | refine And.intro (m_and7 _) ?_ | refine br_f k3 ?_ | refine And.intro (Or.inl rfl) ?_ | refine And.intro (Or.inr rfl) ?_ | refine And.intro (sc_vi (by decide)) ?_ | refine br_t (by decide) ?_ | refine br_f (by decide) ?_ | refine And.intro (fun _ => ?_) (fun _ => ?_)) | refine c2 _ _ _ _ _ _ ?_ | refine c3 _ _ _ _ _ _ (fun _ => ?_) (fun _ => ?_))
            exact h
    rw [if_neg h13, if_neg h13] at h
    have h13a : ¬ I 4 13 2 = 13 := fun e => h13 (Or.inl e)
    have h13b : ¬ I 4 13 2 = 14 := fun e => h13 (Or.inr e)
    refine br_f h13a (br_f h13b ?_)
    by_cases h15 : I 4 13 2 = 15
    · rw [if_pos h15, if_pos (Or.inl h15)] at h
      exact br_t h15 (br_t h15 (And.intro (sc_vi (by decide)) h))
    rw [if_neg h15] at h
    refine br_f h15 ?_
    by_cases h16 : I 4 13 2 = 16
    · rw [if_pos h16, if_pos (Or.inr h16)] at h
      exact br_t h16 (br_f h15 (And.intro (sc_vi (by decide)) h))
    rw [if_neg h16, if_neg (fun z => z.elim h15 h16)] at h
    refine br_f h16 ?_
    by_cases h17 : I 4 13 2 = 17
    · rw [if_pos h17] at h
      exact br_t h17 (And.intro (sc_vi (by decide)) (And.intro (sc_vi (by decide)) h))
    · rw [if_neg h17] at h
      exact br_f h17 (And.intro (sc_vi (by decide)) h)
  · have z : ∀ n : Int32, 8 < n → ¬ I 4 13 2 = n := fun n hn e => h8 (e ▸ hn)
    rw [if_neg h8, if_neg (fun w => w.elim (z 13 (by decide)) (z 14 (by decide))), if_neg (z 15 (by decide)), if_neg (z 16 (by decide))] at h
    refine br_f h8 (c2 _ _ _ _ _ _ ?_)
    by_cases e8 : I 4 13 2 = 8
    · refine br_t e8 ?_
      by_cases ey : m_rd I (I 4 16 2) = 0
      · rw [if_pos ⟨e8, ey⟩] at h
        refine br_t ey ?_
        repeat' (first | (show _ ∧ _; first | refine And.intro (Or.inl rfl) ?_ | refine And.intro (Or.inr rfl) ?_ | refine And.intro (sc_vi (by decide)) ?_ | refine br_t (by decide) ?_ | refine br_f (by decide) ?_ | refine And.intro (fun _ => ?_) (fun _ => ?_)) | refine c2 _ _ _ _ _ _ ?_ | refine c3 _ _ _ _ _ _ (fun _ => ?_) (fun _ => ?_))
        exact h
      · rw [if_neg (fun w => ey w.2)] at h
        refine br_f ey ?_
        repeat' (first | (show _ ∧ _; first | refine And.intro (Or.inl rfl) ?_ | refine And.intro (Or.inr rfl) ?_ | refine And.intro (sc_vi (by decide)) ?_ | refine br_t (by decide) ?_ | refine br_f (by decide) ?_ | refine And.intro (fun _ => ?_) (fun _ => ?_)) | refine c2 _ _ _ _ _ _ ?_ | refine c3 _ _ _ _ _ _ (fun _ => ?_) (fun _ => ?_))
        exact h
    · rw [if_neg (fun w => e8 w.1)] at h
      refine br_f e8 ?_
      repeat' (first | (show _ ∧ _; first | refine And.intro (Or.inl rfl) ?_ | refine And.intro (Or.inr rfl) ?_ | refine And.intro (sc_vi (by decide)) ?_ | refine br_t (by decide) ?_ | refine br_f (by decide) ?_ | refine And.intro (fun _ => ?_) (fun _ => ?_)) | refine c2 _ _ _ _ _ _ ?_ | refine c3 _ _ _ _ _ _ (fun _ => ?_) (fun _ => ?_))
      exact h
theorem x_m_work (d : Nat) : S_m_work (sc_wpM (d + 4)) := fun I D K hs ht h => sc_open (d := d + 3) rfl (z_m_work (sc_wpM (d + 3)) (x_m_read (d + 0)) (x_m_reckon (d + 2)) (x_m_in (d + 2)) I D K hs ht h)
