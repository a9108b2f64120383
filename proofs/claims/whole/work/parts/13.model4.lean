def m_ldd (J : sc_I) : Int32 := if ¬ J 5 0 3 = 0 ∧ J 4 13 3 = 11 ∧ J 4 21 3 = 0 then J 4 14 3 else 0
def m_mv1 (J : sc_I) : sc_I := if J 5 0 2 = 0 ∧ ¬ J 5 0 1 = 0 then sc_u (m_move 1 J) 3 0 20 (sc_wc (J 4 13 1)) else J
def m_mv0 (J : sc_I) : sc_I := if J 5 0 1 = 0 ∧ ¬ J 5 0 0 = 0 then m_move 0 J else J
def m_ft0 (J : sc_I) : sc_I := if J 5 0 0 = 0 then m_ftc J else J
def m_tick (J : sc_I) : sc_I := sc_u J 3 0 26 (J 3 0 26 + 1)
def m_cyc (J : sc_I) : sc_I := if m_end (m_tick J) then m_lv (m_tick J) else m_ft0 (m_mv0 (m_mv1 (m_rch (m_ldd (m_tick J)) (m_rem (m_lv (m_tick J))))))
/-- what a cycle of the reference needs of its state -/
def m_ok (J : sc_I) : Prop := vp_in (J 4 14 4) 16 ∧ (∀ J', (J' = m_rem (m_lv (m_tick J))) → vp_in (J' 4 15 2) 16 ∧ vp_in (J' 4 16 2) 16) ∧ (∀ J', (J' = m_lv (m_tick J)) → ¬ J' 5 0 3 = 0 → J' 4 21 3 = 0 → (J' 4 13 3 = 11 ∨ J' 4 13 3 = 12) → vp_in (J' 4 20 3) 32)
abbrev S_m_cycle (C : sc_CT) : Prop := ∀ (I : sc_I) (D : sc_R) (K : sc_RT) (ho : m_ok I) (h : K none (m_cyc I) D), C 64 [.inr (3, 0)] I D K
set_option maxRecDepth 100000 in
set_option maxHeartbeats 4000000 in
theorem z_m_cycle (C : sc_CT) (c1 : S_m_leave C) (c2 : S_m_remember C) (c3 : S_m_reach C) (c4 : S_m_move1 C) (c5 : S_m_move0 C) (c6 : S_m_fetch C) (I : sc_I) (D : sc_R) (K : sc_RT) (ho : m_ok I) (h : K none (m_cyc I) D) : sc_wp C K (sc_t 64) 5000 (sc_t 64) (sc_al 0 [.inr (3, 0)]) [] I D := by
  obtain ⟨o1, o2, o3⟩ := ho
  have TL : ∀ (n : Nat) (q : Int32), q = m_ldd (m_tick I) → sc_wp C K (sc_t 64) (n + 200) (sc_sf (sc_t 64) 50) [(1, .inl q), (0, .inr (3, 0))] [] (m_tick I) D := by
    intro n q hq
    subst hq
    unfold m_cyc at h
    refine c1 _ _ _ o1 (fun a => br_f (by decide) ?_) (fun a => br_t (by decide) ?_)
    · rw [if_pos a] at h
      exact h
    rw [if_neg a] at h
    refine c2 _ _ _ (o3 _ rfl) (c3 _ _ _ _ (o2 _ rfl).1 (o2 _ rfl).2 ?_)
    generalize m_rch (m_ldd (m_tick I)) (m_rem (m_lv (m_tick I))) = J at h
    have T0 : ∀ (n : Nat) (J : sc_I), K none (m_ft0 J) D → sc_wp C K (sc_t 64) (n + 40) (sc_sf (sc_t 64) 149) [(1, .inl (m_ldd (m_tick I))), (0, .inr (3, 0))] [] J D := by
      intro n J h
      unfold m_ft0 at h
      refine And.intro (sc_vi (by decide)) ?_
      by_cases b : J 5 0 0 = 0
      · rw [if_pos b] at h
        exact br_t b (c6 _ _ _ h)
      · rw [if_neg b] at h
        exact br_f b h
    have T1 : ∀ (n : Nat) (J : sc_I), K none (m_ft0 (m_mv0 J)) D → sc_wp C K (sc_t 64) (n + 80) (sc_sf (sc_t 64) 126) [(1, .inl (m_ldd (m_tick I))), (0, .inr (3, 0))] [] J D := by
      intro n J h
      unfold m_mv0 at h
      refine And.intro (sc_vi (by decide)) ?_
      by_cases b : J 5 0 1 = 0
      · refine br_t b (And.intro (sc_vi (by decide)) ?_)
        by_cases b2 : J 5 0 0 = 0
        · rw [if_neg (fun z => z.2 b2)] at h
          exact br_t b2 (T0 _ _ h)
        · rw [if_pos ⟨b, b2⟩] at h
          exact br_f b2 (c5 _ _ _ (T0 _ _ h))
      · rw [if_neg (fun z => b z.1)] at h
        exact br_f b (T0 _ _ h)
    unfold m_mv1 at h
    refine And.intro (sc_vi (by decide)) ?_
    by_cases b : J 5 0 2 = 0
    · refine br_t b (And.intro (sc_vi (by decide)) ?_)
      by_cases b2 : J 5 0 1 = 0
      · rw [if_neg (fun z => z.2 b2)] at h
        exact br_t b2 (T1 _ _ h)
      · rw [if_pos ⟨b, b2⟩] at h
        refine br_f b2 (c4 _ _ _ (And.intro (sc_vi (by decide)) ?_))
        unfold sc_wc at h
        by_cases e7 : J 4 13 1 = 7
        · rw [if_pos e7] at h
          exact br_t e7 (T1 _ _ h)
        · rw [if_neg e7] at h
          refine br_f e7 (And.intro (sc_vi (by decide)) ?_)
          by_cases e8 : J 4 13 1 = 8
          · rw [if_pos e8] at h
            exact br_t e8 (T1 _ _ h)
          · rw [if_neg e8] at h
            exact br_f e8 (T1 _ _ h)
    · rw [if_neg (fun z => b z.1)] at h
      exact br_f b (T1 _ _ h)
  refine And.intro (sc_vi (by decide)) ?_
  by_cases b1 : I 5 0 3 = 0
  · exact br_t b1 (TL _ _ (by unfold m_ldd; rw [if_neg (fun z => z.1 b1)]))
  refine br_f b1 (And.intro (sc_vi (by decide)) ?_)
  by_cases b2 : I 4 13 3 = 11
  · refine br_t b2 (And.intro (sc_vi (by decide)) ?_)
    by_cases b3 : I 4 21 3 = 0
    · exact br_t b3 (And.intro (sc_vi (by decide)) (TL _ _ (by unfold m_ldd; rw [if_pos ⟨b1, b2, b3⟩]; rfl)))
    · exact br_f b3 (TL _ _ (by unfold m_ldd; rw [if_neg (fun z => b3 z.2.2)]))
  · exact br_f b2 (TL _ _ (by unfold m_ldd; rw [if_neg (fun z => b2 z.2.1)]))
theorem x_m_cycle (d : Nat) : S_m_cycle (sc_wpM (d + 6)) := fun I D K ho h => sc_open (d := d + 5) rfl (z_m_cycle (sc_wpM (d + 5)) (x_m_leave (d + 2)) (x_m_remember (d + 3)) (x_m_reach (d + 0)) (x_m_move1 (d + 4)) (x_m_move0 (d + 4)) (x_m_fetch (d + 3)) I D K ho h)
/-- so many cycles, from a state that has not halted; all states on the way are fit -/
def m_run : Nat → sc_I → sc_I
  | 0, J => J
  | n + 1, J => if J 3 0 25 = 0 then m_run n (m_cyc J) else J
def m_oks : Nat → sc_I → Prop
  | 0, _ => True
  | n + 1, J => J 3 0 25 = 0 → m_ok J ∧ m_oks n (m_cyc J)
abbrev S_m_cycles (C : sc_CT) : Prop := ∀ (I : sc_I) (D : sc_R) (K : sc_RT) (n : Int32) (h1 : (1 ≤ n ∧ n ≤ 300) → m_oks n.toNatClampNeg (sc_u I 3 0 0 0) ∧ K (some (.inl (m_run n.toNatClampNeg (sc_u I 3 0 0 0) 3 0 27 - I 3 0 27))) (m_run n.toNatClampNeg (sc_u I 3 0 0 0)) D) (h2 : ¬ (1 ≤ n ∧ n ≤ 300) → K (some (.inl 0)) (sc_u I 3 0 0 1) D), C 65 [.inr (3, 0), .inl n] I D K
set_option maxRecDepth 100000 in
set_option maxHeartbeats 4000000 in
theorem z_m_cycles (C : sc_CT) (c1 : S_m_out C) (c2 : S_m_cycle C) (I : sc_I) (D : sc_R) (K : sc_RT) (n : Int32) (h1 : (1 ≤ n ∧ n ≤ 300) → m_oks n.toNatClampNeg (sc_u I 3 0 0 0) ∧ K (some (.inl (m_run n.toNatClampNeg (sc_u I 3 0 0 0) 3 0 27 - I 3 0 27))) (m_run n.toNatClampNeg (sc_u I 3 0 0 0)) D) (h2 : ¬ (1 ≤ n ∧ n ≤ 300) → K (some (.inl 0)) (sc_u I 3 0 0 1) D) : sc_wp C K (sc_t 65) 5000 (sc_t 65) (sc_al 0 [.inr (3, 0), .inl n]) [] I D := by
  refine c1 _ _ _ _ _ _ (fun a => br_t (by decide) ?_) (fun a => br_f (by decide) (h2 a))
  obtain ⟨ho, h⟩ := h1 a
  have hn : n.toInt = (n.toNatClampNeg : Int) ∧ n.toNatClampNeg ≤ 300 := by
    have e1 := Int32.le_iff_toInt_le.mp a.1
    have e2 := Int32.le_iff_toInt_le.mp a.2
    rw [show (1 : Int32).toInt = 1 from rfl] at e1
    rw [show (300 : Int32).toInt = 300 from rfl] at e2
    have e3 : n.toNatClampNeg = n.toInt.toNat := rfl
    omega
  have L : ∀ (j : Nat) (f : Nat) (i : Nat) (x : Int32) (J : sc_I), 14 * j + 10 ≤ f → x = nI i → i + j = n.toNatClampNeg → m_oks j J → K (some (.inl (m_run j J 3 0 27 - sc_u I 3 0 0 0 3 0 27))) (m_run j J) D → sc_wp C K (sc_t 65) f (sc_sf (sc_t 65) 21) [(3, .inl x), (2, .inl (sc_u I 3 0 0 0 3 0 27)), (0, .inr (3, 0)), (1, .inl n)] [] J D := by
    intro j
    induction j with
    | zero =>
      intro f i x J hf hx hi _ h
      obtain ⟨f, rfl⟩ : ∃ f', f = f' + 10 := ⟨f - 10, by omega⟩
      have : n ≤ x := by
        rw [hx, Int32.le_iff_toInt_le, nI_toInt (by omega)]; omega
      exact br_t this h
    | succ j ih =>
      intro f i x J hf hx hi ho h
      have hlt : ¬ n ≤ x := by
        rw [hx, Int32.le_iff_toInt_le, nI_toInt (by omega)]; omega
      unfold m_run at h
      by_cases b : J 3 0 25 = 0
      · obtain ⟨f, rfl⟩ : ∃ f', f = f' + 10 := ⟨f - 10, by omega⟩
        rw [if_pos b] at h
        refine br_f hlt (br_t b (c2 _ _ _ (ho b).1 ?_))
        exact ih f (i + 1) (x + 1) (m_cyc J) (by omega) (by rw [hx, nI_1]) (by omega) (ho b).2 h
      · obtain ⟨f, rfl⟩ : ∃ f', f = f' + 12 := ⟨f - 12, by omega⟩
        rw [if_neg b] at h
        exact br_f hlt (br_f b h)
  exact L n.toNatClampNeg 4989 0 0 _ (by omega) rfl (by omega) ho h
theorem x_m_cycles (d : Nat) : S_m_cycles (sc_wpM (d + 7)) := fun I D K n h1 h2 => sc_open (d := d + 6) rfl (z_m_cycles (sc_wpM (d + 6)) (x_m_out (d + 5)) (x_m_cycle (d + 0)) I D K n h1 h2)
