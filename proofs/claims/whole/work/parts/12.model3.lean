def m_flush (nx : Int32) (J : sc_I) : sc_I := sc_u (sc_u (sc_u (sc_u J 3 0 29 (J 3 0 29 + 1)) 5 0 0 0) 5 0 1 0) 3 0 21 nx
def m_fin (J : sc_I) : sc_I := m_move 2 (if m_wkS J 4 21 2 = 0 ∧ ¬ m_wkN J = m_wkS J 4 18 2 then m_flush (m_wkN J) (m_wkS J) else m_wkS J)
abbrev m_wt (J : sc_I) (q : Int32) : Prop := ¬ q = 0 ∧ ((m_usD (J 4 13 2) ∧ J 4 15 2 = q) ∨ (m_utD (J 4 13 2) ∧ J 4 16 2 = q))
def m_rch (q : Int32) (J : sc_I) : sc_I := if J 5 0 2 = 0 then J else if m_wt J q then sc_u J 3 0 28 (J 3 0 28 + 1) else if J 3 0 20 - 1 ≤ 0 then m_fin (sc_u J 3 0 20 (J 3 0 20 - 1)) else sc_u (sc_u J 3 0 20 (J 3 0 20 - 1)) 3 0 28 (J 3 0 28 + 1)
abbrev S_m_reach (C : sc_CT) : Prop := ∀ (I : sc_I) (D : sc_R) (K : sc_RT) (q : Int32) (hs : vp_in (I 4 15 2) 16) (ht : vp_in (I 4 16 2) 16) (h : K none (m_rch q I) D), C 62 [.inr (3, 0), .inl q] I D K
set_option maxRecDepth 100000 in
set_option maxHeartbeats 4000000 in
theorem z_m_reach (C : sc_CT) (c1 : S_m_usesFirst C) (c2 : S_m_usesSecond C) (c3 : S_m_work C) (c4 : S_m_move2 C) (I : sc_I) (D : sc_R) (K : sc_RT) (q : Int32) (hs : vp_in (I 4 15 2) 16) (ht : vp_in (I 4 16 2) 16) (h : K none (m_rch q I) D) : sc_wp C K (sc_t 62) 5000 (sc_t 62) (sc_al 0 [.inr (3, 0), .inl q]) [] I D := by
  unfold m_rch at h
  by_cases h0 : I 5 0 2 = 0
  · rw [if_pos h0] at h
    exact And.intro (sc_vi (by decide)) (br_t h0 h)
  rw [if_neg h0] at h
  refine And.intro (sc_vi (by decide)) (br_f h0 (And.intro (sc_vi (by decide)) ?_))
  by_cases hw : m_wt I q
  · rw [if_pos hw] at h
    obtain ⟨hq, hu⟩ := hw
    refine br_f hq ?_
    rcases hu with ⟨u1, u2⟩ | ⟨u1, u2⟩
    · exact c1 _ _ _ _ (fun _ => br_f (by decide) (And.intro (sc_vi (by decide)) (br_t u2 (br_f (by decide) h)))) (fun w => absurd u1 w)
    · refine c1 _ _ _ _ (fun _ => br_f (by decide) (And.intro (sc_vi (by decide)) ?_)) (fun _ => br_t (by decide) ?_)
      · by_cases u3 : I 4 15 2 = q
        · exact br_t u3 (br_f (by decide) h)
        · exact br_f u3 (c2 _ _ _ _ (fun _ => br_f (by decide) (And.intro (sc_vi (by decide)) (br_t u2 (br_f (by decide) h)))) (fun w => absurd u1 w))
      · exact c2 _ _ _ _ (fun _ => br_f (by decide) (And.intro (sc_vi (by decide)) (br_t u2 (br_f (by decide) h)))) (fun w => absurd u1 w)
  · rw [if_neg hw] at h
    have B : ∀ n : Nat, sc_wp C K (sc_t 62) (n + 100) (sc_sf (sc_t 62) 59) [(2, .inl (I 4 13 (Int32.toNatClampNeg 2))), (0, .inr (3, 0)), (1, .inl q)] [] I D := by
      intro n
      refine br_t (by decide) ?_
      by_cases hl : I 3 0 20 - 1 ≤ 0
      · rw [if_pos hl] at h
        refine br_t hl (c3 _ _ _ hs ht ?_)
        unfold m_fin at h
        refine And.intro (sc_vi (by decide)) ?_
        by_cases hf : m_wkS (sc_u I 3 0 20 (I 3 0 20 - 1)) 4 21 2 = 0
        · refine br_t hf (And.intro (sc_vi (by decide)) ?_)
          by_cases hg : m_wkN (sc_u I 3 0 20 (I 3 0 20 - 1)) = m_wkS (sc_u I 3 0 20 (I 3 0 20 - 1)) 4 18 2
          · rw [if_neg (fun z => z.2 hg)] at h
            exact br_t hg (c4 _ _ _ h)
          · rw [if_pos ⟨hf, hg⟩] at h
            exact br_f hg (And.intro (Or.inl rfl) (And.intro (sc_vi (by decide)) (And.intro (Or.inl rfl) (And.intro (sc_vi (by decide)) (c4 _ _ _ h)))))
        · rw [if_neg (fun z => hf z.1)] at h
          exact br_f hf (c4 _ _ _ h)
      · rw [if_neg hl] at h
        exact br_f hl h
    by_cases hq : q = 0
    · exact br_t hq (B _)
    refine br_f hq ?_
    refine c1 _ _ _ _ (fun a => br_f (by decide) (And.intro (sc_vi (by decide)) (br_f (fun e => hw ⟨hq, Or.inl ⟨a, e⟩⟩) ?_))) (fun a => br_t (by decide) ?_)
    · exact c2 _ _ _ _ (fun b => br_f (by decide) (And.intro (sc_vi (by decide)) (br_f (fun e => hw ⟨hq, Or.inr ⟨b, e⟩⟩) (B _)))) (fun b => br_t (by decide) (B _))
    · exact c2 _ _ _ _ (fun b => br_f (by decide) (And.intro (sc_vi (by decide)) (br_f (fun e => hw ⟨hq, Or.inr ⟨b, e⟩⟩) (B _)))) (fun b => br_t (by decide) (B _))
theorem x_m_reach (d : Nat) : S_m_reach (sc_wpM (d + 5)) := fun I D K q hs ht h => sc_open (d := d + 4) rfl (z_m_reach (sc_wpM (d + 4)) (x_m_usesFirst (d + 2)) (x_m_usesSecond (d + 2)) (x_m_work (d + 0)) (x_m_move2 (d + 3)) I D K q hs ht h)
theorem m_vin {w : Int32} (h1 : 0 ≤ w) (h2 : w ≤ 63) : vp_in w 64 := by
  have a := Int32.le_iff_toInt_le.mp h1
  have b := Int32.le_iff_toInt_le.mp h2
  exact vp_in_iff.mpr ⟨a, Int.lt_of_le_of_lt b (by decide)⟩
def m_fk (nx : Int32) (J : sc_I) : sc_I := sc_u (sc_u (sc_u (sc_u (sc_u (sc_u (sc_u (sc_u (sc_u (sc_u J 5 0 0 1) 4 12 0 (J 3 0 21)) 4 13 0 (J 4 4 (J 3 0 21).toNatClampNeg)) 4 14 0 (J 4 5 (J 3 0 21).toNatClampNeg)) 4 15 0 (J 4 6 (J 3 0 21).toNatClampNeg)) 4 16 0 (J 4 7 (J 3 0 21).toNatClampNeg)) 4 17 0 (J 4 8 (J 3 0 21).toNatClampNeg)) 4 21 0 0) 3 0 21 nx) 4 18 0 nx
def m_fu (nx : Int32) (J : sc_I) : sc_I := sc_u (sc_u (sc_u (sc_u (sc_u (sc_u (sc_u (sc_u (sc_u (sc_u J 5 0 0 1) 4 12 0 (J 3 0 21)) 4 13 0 19) 4 14 0 0) 4 15 0 0) 4 16 0 0) 4 17 0 0) 4 21 0 1) 3 0 21 nx) 4 18 0 nx
abbrev m_gf (o : Int32) (J : sc_I) : Prop := o = 15 ∨ ((o = 13 ∨ o = 14) ∧ ¬ J 4 11 (J 3 0 21 &&& 7).toNatClampNeg ≤ 1)
def m_ftc (J : sc_I) : sc_I := if 0 ≤ J 3 0 21 ∧ J 3 0 21 ≤ 63 then (if m_gf (J 4 4 (J 3 0 21).toNatClampNeg) J then m_fk (J 3 0 21 + J 4 8 (J 3 0 21).toNatClampNeg) J else m_fk (J 3 0 21 + 1) J) else m_fu (J 3 0 21 + 1) J
abbrev S_m_fetch (C : sc_CT) : Prop := ∀ (I : sc_I) (D : sc_R) (K : sc_RT) (h : K none (m_ftc I) D), C 63 [.inr (3, 0)] I D K
set_option maxRecDepth 100000 in
set_option maxHeartbeats 4000000 in
theorem z_m_fetch (C : sc_CT) (c1 : S_m_in C) (I : sc_I) (D : sc_R) (K : sc_RT) (h : K none (m_ftc I) D) : sc_wp C K (sc_t 63) 5000 (sc_t 63) (sc_al 0 [.inr (3, 0)]) [] I D := by
  unfold m_ftc at h
  refine c1 _ _ _ _ _ _ (fun hk => ?_) (fun hk => ?_)
  · rw [if_pos hk] at h
    have hv := m_vin hk.1 hk.2
    refine And.intro (Or.inr rfl) (And.intro (sc_vi (by decide)) (And.intro (sc_vi (by decide)) (br_f (by decide) (And.intro hv (And.intro (sc_vi (by decide)) (br_f (by decide) (And.intro hv (And.intro (sc_vi (by decide)) (br_f (by decide) (And.intro hv (And.intro (sc_vi (by decide)) (br_f (by decide) (And.intro hv (And.intro (sc_vi (by decide)) (br_f (by decide) (And.intro hv (And.intro (sc_vi (by decide)) (br_f (by decide) (And.intro (sc_vi (by decide)) (And.intro (sc_vi (by decide)) (?_)))))))))))))))))))))
    by_cases hg : m_gf (I 4 4 (I 3 0 21).toNatClampNeg) I
    · rw [if_pos hg] at h
      by_cases g1 : I 4 4 (I 3 0 21).toNatClampNeg = 15
      · exact br_t g1 (br_f (by decide) (And.intro (sc_vi (by decide)) (And.intro (sc_vi (by decide)) (h))))
      · obtain ⟨g2, g4⟩ := hg.resolve_left g1
        by_cases g3 : I 4 4 (I 3 0 21).toNatClampNeg = 13
        · exact br_f g1 (br_t g3 (And.intro (m_and7 _) (br_f g4 (br_f (by decide) (And.intro (sc_vi (by decide)) (And.intro (sc_vi (by decide)) (h)))))))
        · have g5 := g2.resolve_left g3
          exact br_f g1 (br_f g3 (br_t g5 (And.intro (m_and7 _) (br_f g4 (br_f (by decide) (And.intro (sc_vi (by decide)) (And.intro (sc_vi (by decide)) (h))))))))
    · rw [if_neg hg] at h
      have g1 : ¬ I 4 4 (I 3 0 21).toNatClampNeg = 15 := fun e => hg (Or.inl e)
      by_cases g3 : I 4 4 (I 3 0 21).toNatClampNeg = 13
      · have g4 : I 4 11 (I 3 0 21 &&& 7).toNatClampNeg ≤ 1 := Classical.byContradiction (fun z => hg (Or.inr ⟨Or.inl g3, z⟩))
        exact br_f g1 (br_t g3 (And.intro (m_and7 _) (br_t g4 (br_t (by decide) (And.intro (sc_vi (by decide)) (h))))))
      · by_cases g5 : I 4 4 (I 3 0 21).toNatClampNeg = 14
        · have g4 : I 4 11 (I 3 0 21 &&& 7).toNatClampNeg ≤ 1 := Classical.byContradiction (fun z => hg (Or.inr ⟨Or.inr g5, z⟩))
          exact br_f g1 (br_f g3 (br_t g5 (And.intro (m_and7 _) (br_t g4 (br_t (by decide) (And.intro (sc_vi (by decide)) (h)))))))
        · exact br_f g1 (br_f g3 (br_f g5 (br_t (by decide) (And.intro (sc_vi (by decide)) (h)))))
  · rw [if_neg hk] at h
    have g1 : ¬ (19 : Int32) = 15 := by decide
    have g3 : ¬ (19 : Int32) = 13 := by decide
    have g5 : ¬ (19 : Int32) = 14 := by decide
    exact And.intro (Or.inr rfl) (And.intro (sc_vi (by decide)) (And.intro (sc_vi (by decide)) (br_t (by decide) (And.intro (sc_vi (by decide)) (br_t (by decide) (And.intro (sc_vi (by decide)) (br_t (by decide) (And.intro (sc_vi (by decide)) (br_t (by decide) (And.intro (sc_vi (by decide)) (br_t (by decide) (And.intro (sc_vi (by decide)) (br_t (by decide) (And.intro (sc_vi (by decide)) (And.intro (sc_vi (by decide)) (br_f g1 (br_f g3 (br_f g5 (br_t (by decide) (And.intro (sc_vi (by decide)) (h)))))))))))))))))))))
theorem x_m_fetch (d : Nat) : S_m_fetch (sc_wpM (d + 2)) := fun I D K h => sc_open (d := d + 1) rfl (z_m_fetch (sc_wpM (d + 1)) (x_m_in (d + 0)) I D K h)
