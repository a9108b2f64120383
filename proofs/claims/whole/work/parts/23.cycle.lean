theorem c_fo_0 {op n s t : Int32} (h1 : ¬ op = 17) (h2 : ¬ c_td op) (h3 : ¬ (op = 8 ∧ t = 0)) : c_fo op n s t = 0 := by
  unfold c_fo
  rw [if_neg h1, if_neg (fun z => h2 z.1), if_neg h3]
theorem r_8 {x : Int32} (h : r_O x) (h8 : ¬ 8 < x) : x = 0 ∨ x = 1 ∨ x = 2 ∨ x = 3 ∨ x = 4 ∨ x = 5 ∨ x = 6 ∨ x = 7 ∨ x = 8 := by
  obtain ⟨j, hj, rfl⟩ := r_O_or h
  clear h
  revert h8
  revert j
  decide
theorem r_19 {x : Int32} (h : r_O x) (h8 : 8 < x) (h : ¬ x = 9 ∧ ¬ x = 10 ∧ ¬ (x = 11 ∨ x = 12) ∧ ¬ (x = 13 ∨ x = 14) ∧ ¬ (x = 15 ∨ x = 16) ∧ ¬ x = 17) : x = 18 ∨ x = 19 := by
  rename_i h0
  obtain ⟨j, hj, rfl⟩ := r_O_or h0
  clear h0
  revert h8 h
  revert j
  decide
theorem r_31' {x : Int32} : (0 ≤ x ∧ x ≤ 31) ↔ (0 ≤ x ∧ x < 32) := by
  rw [Int32.lt_iff_toInt_lt, Int32.le_iff_toInt_le, Int32.le_iff_toInt_le, show (0 : Int32).toInt = 0 from rfl, show (31 : Int32).toInt = 31 from rfl, show (32 : Int32).toInt = 32 from rfl]
  omega
theorem m_wk_n {J : sc_I} (ho : r_O (J 4 13 2)) (hb : ¬ (J 4 13 2 = 13 ∨ J 4 13 2 = 14)) : ∃ a f v, m_wkS J = sc_u (sc_u (sc_u J 4 20 2 a) 4 21 2 f) 4 19 2 v ∧ (J 4 21 2 = 0 → f = c_fo (J 4 13 2) (J 4 17 2) (m_rd J (J 4 15 2)) (m_rd J (J 4 16 2))) ∧ (J 4 13 2 = 19 → f = J 4 21 2) ∧ (¬ J 4 13 2 = 11 → v = c_vo (J 4 13 2) (J 4 17 2) (J 4 12 2) (m_rd J (J 4 15 2)) (m_rd J (J 4 16 2))) ∧ ((J 4 13 2 = 11 ∨ J 4 13 2 = 12) → a = m_rd J (J 4 15 2) + J 4 17 2) := by
  unfold m_wkS
  have k : ∀ v, sc_u (sc_u (sc_u J 4 20 2 (J 4 20 2)) 4 21 2 (J 4 21 2)) 4 19 2 v = sc_u J 4 19 2 v := fun v => by rw [sc_u_id J 4 20 2, sc_u_id J 4 21 2]
  have k2 : ∀ f v, sc_u (sc_u (sc_u J 4 20 2 (J 4 20 2)) 4 21 2 f) 4 19 2 v = sc_u (sc_u J 4 21 2 f) 4 19 2 v := fun f v => by rw [sc_u_id J 4 20 2]
  by_cases h8 : 8 < J 4 13 2
  · rw [if_pos h8]
    by_cases h9 : J 4 13 2 = 9
    · rw [if_pos h9]
      refine ⟨J 4 20 2, J 4 21 2, _, (k _).symm, fun z => ?_, fun _ => rfl, fun _ => ?_, fun z => ?_⟩
      · rw [z, h9, c_fo_0 (by decide) (by decide) (fun z => absurd z.1 (by decide))]
      · rw [h9]; rfl
      · rw [h9] at z; exact absurd z (by decide)
    rw [if_neg h9]
    by_cases h10 : J 4 13 2 = 10
    · rw [if_pos h10]
      refine ⟨J 4 20 2, J 4 21 2, _, (k _).symm, fun z => ?_, fun _ => rfl, fun _ => ?_, fun z => ?_⟩
      · rw [z, h10, c_fo_0 (by decide) (by decide) (fun z => absurd z.1 (by decide))]
      · rw [h10]; rfl
      · rw [h10] at z; exact absurd z (by decide)
    rw [if_neg h10]
    by_cases h11 : J 4 13 2 = 11 ∨ J 4 13 2 = 12
    · rw [if_pos h11]
      refine ⟨_, _, _, rfl, fun z => ?_, fun z => ?_, fun z => ?_, fun _ => rfl⟩
      · have hd : c_td (J 4 13 2) := h11
        have h17 : ¬ J 4 13 2 = 17 := fun e => by rw [e] at h11; exact absurd h11 (by decide)
        have h8' : ¬ J 4 13 2 = 8 := fun e => by rw [e] at h11; exact absurd h11 (by decide)
        unfold c_fo
        rw [if_neg h17, z]
        by_cases hr : 0 ≤ m_rd J (J 4 15 2) + J 4 17 2 ∧ m_rd J (J 4 15 2) + J 4 17 2 ≤ 31
        · rw [if_pos hr, if_neg (fun y => y.2 (r_31'.mp hr)), if_neg (fun y => h8' y.1)]
        · rw [if_neg hr, if_pos ⟨hd, fun y => hr (r_31'.mpr y)⟩]
      · rw [z] at h11; exact absurd h11 (by decide)
      · have h12 := h11.resolve_left z
        rw [h12]; rfl
    rw [if_neg h11, if_neg hb]
    by_cases h15 : J 4 13 2 = 15 ∨ J 4 13 2 = 16
    · rw [if_pos h15]
      refine ⟨J 4 20 2, J 4 21 2, _, (k _).symm, fun z => ?_, fun _ => rfl, fun _ => ?_, fun z => ?_⟩
      · rw [z]
        rcases h15 with e | e <;> rw [e, c_fo_0 (by decide) (by decide) (fun z => absurd z.1 (by decide))]
      · rcases h15 with e | e <;> rw [e] <;> rfl
      · exact absurd z h11
    rw [if_neg h15]
    by_cases h17 : J 4 13 2 = 17
    · rw [if_pos h17]
      refine ⟨J 4 20 2, 2, 0, (k2 _ _).symm, fun z => ?_, fun z => ?_, fun _ => ?_, fun z => ?_⟩
      · rw [h17]; rfl
      · rw [h17] at z; exact absurd z (by decide)
      · rw [h17]; rfl
      · exact absurd z h11
    rw [if_neg h17]
    have h18 := r_19 ho h8 ⟨h9, h10, h11, hb, h15, h17⟩
    refine ⟨J 4 20 2, J 4 21 2, _, (k _).symm, fun z => ?_, fun _ => rfl, fun _ => ?_, fun z => ?_⟩
    · rw [z]
      rcases h18 with e | e <;> rw [e, c_fo_0 (by decide) (by decide) (fun z => absurd z.1 (by decide))]
    · rcases h18 with e | e <;> rw [e] <;> rfl
    · exact absurd z h11
  · rw [if_neg h8]
    have hs := r_8 ho h8
    refine ⟨J 4 20 2, _, _, (k2 _ _).symm, fun z => ?_, fun z => ?_, fun _ => ?_, fun z => ?_⟩
    · by_cases c : J 4 13 2 = 8 ∧ m_rd J (J 4 16 2) = 0
      · rw [if_pos c]
        unfold c_fo
        rw [if_neg (by rw [c.1]; decide), if_neg (fun y => absurd y.1 (by rw [c.1]; decide)), if_pos c]
      · rw [if_neg c, z, c_fo_0 (fun e => h8 (by rw [e]; decide)) (fun e => h8 (by rcases e with e | e <;> rw [e] <;> decide)) c]
    · exact absurd (show (8 : Int32) < J 4 13 2 by rw [z]; decide) h8
    · rcases hs with e | e | e | e | e | e | e | e | e <;> rw [e] <;> rfl
    · exact absurd (show (8 : Int32) < J 4 13 2 by rcases z with e | e <;> rw [e] <;> decide) h8
def c_N (op n pl s t : Int32) : Int32 := if c_go op s t then c_tg op n pl s else pl + 1
theorem r_go {op s t : Int32} (h : op = 13 ∨ op = 14) : m_go op s t ↔ c_go op s t := by
  rcases h with rfl | rfl
  · constructor
    · rintro (a | a)
      · exact Or.inl ⟨rfl, a.1⟩
      · exact absurd rfl a.2
    · rintro (a | a | a | a)
      · exact Or.inl ⟨a.2, rfl⟩
      · exact absurd a.1 (by decide)
      · exact absurd a (by decide)
      · exact absurd a (by decide)
  · constructor
    · rintro (a | a)
      · exact absurd a.2 (by decide)
      · exact Or.inr (Or.inl ⟨rfl, a.1⟩)
    · rintro (a | a | a | a)
      · exact absurd a.1 (by decide)
      · exact Or.inr ⟨a.2, by decide⟩
      · exact absurd a (by decide)
      · exact absurd a (by decide)
theorem r_nx (J : sc_I) : m_wkN J = c_N (J 4 13 2) (J 4 17 2) (J 4 12 2) (m_rd J (J 4 15 2)) (m_rd J (J 4 16 2)) := by
  unfold m_wkN c_N c_tg
  by_cases hb : J 4 13 2 = 13 ∨ J 4 13 2 = 14
  · have h16 : ¬ J 4 13 2 = 16 := fun e => by rw [e] at hb; exact absurd hb (by decide)
    rw [if_pos hb, if_neg h16]
    by_cases g : m_go (J 4 13 2) (m_rd J (J 4 15 2)) (m_rd J (J 4 16 2))
    · rw [if_pos g, if_pos ((r_go hb).mp g)]
    · rw [if_neg g, if_neg (fun z => g ((r_go hb).mpr z))]
  rw [if_neg hb]
  by_cases h15 : J 4 13 2 = 15
  · rw [if_pos h15, if_pos (Or.inr (Or.inr (Or.inl h15))), if_neg (by rw [h15]; decide)]
  rw [if_neg h15]
  by_cases h16 : J 4 13 2 = 16
  · rw [if_pos h16, if_pos (Or.inr (Or.inr (Or.inr h16))), if_pos h16]
  rw [if_neg h16, if_neg]
  rintro (a | a | a | a)
  · exact hb (Or.inl a.1)
  · exact hb (Or.inr a.1)
  · exact h15 a
  · exact h16 a
theorem r_Phm {N : Nat} {S J : sc_I} {nx nx' : Int32} (hR : r_P N S J) (h2 : J 5 0 2 = 1) (h3 : J 5 0 3 = 0) (hf : S 0 2 5 = 0) (en : nx = nx') : r_R N (c_mv 2 (c_hold nx S)) (m_move 2 (if J 4 21 2 = 0 ∧ ¬ nx' = J 4 18 2 then m_flush nx' J else J)) := by
  subst en
  obtain ⟨q1, q2, q3, q4, q5, q6, q7, q8, q9⟩ := hR.2.2.2.1.1.2.2.1.2.2 h2
  unfold c_hold
  by_cases c : nx = S 0 2 3
  · rw [if_pos c, if_neg (fun z => z.2 (c.trans q7))]
    exact r_Pmv hR h2 h3
  · rw [if_neg c, if_pos ⟨q8.symm.trans hf, fun z => c (z.trans q7.symm)⟩]
    exact r_Pmv (r_Pfl hR) h2 h3
theorem r_Pm0 {N : Nat} {S J : sc_I} {nx : Int32} (hR : r_P N S J) (h2 : J 5 0 2 = 1) (h3 : J 5 0 3 = 0) (hf : ¬ J 4 21 2 = 0) : r_R N (c_mv 2 S) (m_move 2 (if J 4 21 2 = 0 ∧ ¬ nx = J 4 18 2 then m_flush nx J else J)) := by
  rw [if_neg (fun z => hf z.1)]
  exact r_Pmv hR h2 h3
theorem r_fin {N : Nat} {S J : sc_I} {w l : Int32} (hR : r_R N S J) (h2 : J 5 0 2 = 1) (h3 : J 5 0 3 = 0) : r_R N (c_mv 2 (c_fin (sc_u S 0 2 4 w))) (m_fin (sc_u J 3 0 20 l)) := by
  obtain ⟨hs, ⟨a1, a2, a3⟩, hp, ⟨⟨t0, t1, t2, t3, t4⟩, b0, b1, b2, b3, b4⟩, ⟨e0, e1, e2, e3, e4⟩, hh⟩ := id hR
  obtain ⟨q1, q2, q3, q4, q5, q6, q7, q8, q9⟩ := t2.2.2 h2
  obtain ⟨g1, g2⟩ := e2 h2
  have es : c_fs (sc_u S 0 2 4 w) = m_rd (sc_u J 3 0 20 l) (J 4 15 2) := by
    have h := r_hd hR (r_Bv b2.2.2.1)
    rw [q4] at h
    show c_hd S (S 1 2 2) = m_rd J (J 4 15 2)
    rw [q4]
    exact h
  have et : c_ft (sc_u S 0 2 4 w) = m_rd (sc_u J 3 0 20 l) (J 4 16 2) := by
    have h := r_hd hR (r_Bv b2.2.2.2.1)
    rw [q5] at h
    show c_hd S (S 1 2 3) = m_rd J (J 4 16 2)
    rw [q5]
    exact h
  have hO : r_O (J 4 13 2) := q2 ▸ b2.1
  have en : c_nx (sc_u S 0 2 4 w) = m_wkN (sc_u J 3 0 20 l) := by
    rw [r_nx]
    show c_N (S 1 2 0) (S 1 2 4) (S 0 2 2) (c_fs (sc_u S 0 2 4 w)) (c_ft (sc_u S 0 2 4 w)) = _
    rw [q2, q6, q1, es, et]
    rfl
  have ef : c_fo (S 1 2 0) (S 1 2 4) (c_fs (sc_u S 0 2 4 w)) (c_ft (sc_u S 0 2 4 w)) = c_fo (J 4 13 2) (J 4 17 2) (m_rd (sc_u J 3 0 20 l) (J 4 15 2)) (m_rd (sc_u J 3 0 20 l) (J 4 16 2)) := by
    rw [q2, q6, es, et]
  have ev : c_vo (S 1 2 0) (S 1 2 4) (S 0 2 2) (c_fs (sc_u S 0 2 4 w)) (c_ft (sc_u S 0 2 4 w)) = c_vo (J 4 13 2) (J 4 17 2) (J 4 12 2) (m_rd (sc_u J 3 0 20 l) (J 4 15 2)) (m_rd (sc_u J 3 0 20 l) (J 4 16 2)) := by
    rw [q2, q6, q1, es, et]
  have kS : ∀ f, c_W S w f (S 0 2 7) (S 0 2 6) = sc_u (sc_u S 0 2 4 w) 0 2 5 f := by
    intro f
    have k1 : sc_u (sc_u (sc_u S 0 2 4 w) 0 2 5 f) 0 2 7 (S 0 2 7) = sc_u (sc_u S 0 2 4 w) 0 2 5 f := sc_u_id (sc_u (sc_u S 0 2 4 w) 0 2 5 f) 0 2 7
    show sc_u (sc_u (sc_u (sc_u S 0 2 4 w) 0 2 5 f) 0 2 7 (S 0 2 7)) 0 2 6 (S 0 2 6) = _
    rw [k1]
    exact sc_u_id (sc_u (sc_u S 0 2 4 w) 0 2 5 f) 0 2 6
  unfold m_fin
  by_cases hb : J 4 13 2 = 13 ∨ J 4 13 2 = 14
  · have hb' : c_br (S 1 2 0) := by rw [q2]; exact hb
    have hf : S 0 2 5 = 0 := Classical.byContradiction fun z => by
      have := g1 z
      rw [this] at hb'
      exact absurd hb' (by decide)
    have hfo : c_fo (S 1 2 0) (S 1 2 4) (c_fs (sc_u S 0 2 4 w)) (c_ft (sc_u S 0 2 4 w)) = 0 := by
      refine c_fo_0 (fun e => ?_) (fun e => ?_) (fun e => ?_)
      · rw [e] at hb'; exact absurd hb' (by decide)
      · rcases e with e | e <;> rw [e] at hb' <;> exact absurd hb' (by decide)
      · rw [e.1] at hb'; exact absurd hb' (by decide)
    have h11 : ¬ (S 1 2 0 = 11 ∨ S 1 2 0 = 12) := fun e => by
      rcases e with e | e <;> rw [e] at hb' <;> exact absurd hb' (by decide)
    have hj : J 4 21 2 = 0 := q8.symm.trans hf
    have hv : c_vo (S 1 2 0) (S 1 2 4) (S 0 2 2) (c_fs (sc_u S 0 2 4 w)) (c_ft (sc_u S 0 2 4 w)) = 0 := by
      rcases hb' with e | e <;> rw [e] <;> rfl
    have kc : (J 4 12 2 &&& 7).toNatClampNeg < 8 := r_lt (m_and7 _)
    obtain ⟨c1, c2, c3⟩ := a3 _ kc
    obtain ⟨l1, l2, l3, l4⟩ := r_cl c2 c3
    have eJ : m_wkS (sc_u J 3 0 20 l) = sc_u (m_W J l (J 4 20 2) 0 0) 4 11 (J 4 12 2 &&& 7).toNatClampNeg (if m_go (J 4 13 2) (m_rd (sc_u J 3 0 20 l) (J 4 15 2)) (m_rd (sc_u J 3 0 20 l) (J 4 16 2)) then m_up (J 4 11 (J 4 12 2 &&& 7).toNatClampNeg) else m_dn (J 4 11 (J 4 12 2 &&& 7).toNatClampNeg)) := by
      have k1 : sc_u (sc_u J 3 0 20 l) 4 20 2 (J 4 20 2) = sc_u J 3 0 20 l := sc_u_id (sc_u J 3 0 20 l) 4 20 2
      have k2 : sc_u (sc_u J 3 0 20 l) 4 21 2 0 = sc_u J 3 0 20 l := by
        have := sc_u_id (sc_u J 3 0 20 l) 4 21 2
        rw [show sc_u J 3 0 20 l 4 21 2 = 0 from hj] at this
        exact this
      have n1 : (8 : Int32) < J 4 13 2 := by rcases hb with e | e <;> rw [e] <;> decide
      have n2 : ¬ J 4 13 2 = 9 := fun e => by rw [e] at hb; exact absurd hb (by decide)
      have n3 : ¬ J 4 13 2 = 10 := fun e => by rw [e] at hb; exact absurd hb (by decide)
      have n4 : ¬ (J 4 13 2 = 11 ∨ J 4 13 2 = 12) := by rw [← q2]; exact h11
      unfold m_W
      rw [k1, k2, sc_u_comm _ (by decide)]
      unfold m_wkS
      rw [if_pos (show (8 : Int32) < sc_u J 3 0 20 l 4 13 2 from n1), if_neg (show ¬ sc_u J 3 0 20 l 4 13 2 = 9 from n2), if_neg (show ¬ sc_u J 3 0 20 l 4 13 2 = 10 from n3), if_neg (show ¬ (sc_u J 3 0 20 l 4 13 2 = 11 ∨ sc_u J 3 0 20 l 4 13 2 = 12) from n4), if_pos (show sc_u J 3 0 20 l 4 13 2 = 13 ∨ sc_u J 3 0 20 l 4 13 2 = 14 from hb)]
      rfl
    have hg : m_go (J 4 13 2) (m_rd (sc_u J 3 0 20 l) (J 4 15 2)) (m_rd (sc_u J 3 0 20 l) (J 4 16 2)) ↔ c_go (S 1 2 0) (c_fs (sc_u S 0 2 4 w)) (c_ft (sc_u S 0 2 4 w)) := by
      rw [es, et, q2]
      exact r_go hb
    have main : ∀ g c : Int32, c_cl (S 4 2 (J 4 12 2 &&& 7).toNatClampNeg + g) = c → (0 ≤ c ∧ c ≤ 3) → r_R N (c_mv 2 (c_hold (c_nx (sc_u S 0 2 4 w)) (c_ln (S 0 2 2) g (c_f2 (sc_u S 0 2 4 w))))) (m_move 2 (if sc_u (m_W J l (J 4 20 2) 0 0) 4 11 (J 4 12 2 &&& 7).toNatClampNeg c 4 21 2 = 0 ∧ ¬ m_wkN (sc_u J 3 0 20 l) = sc_u (m_W J l (J 4 20 2) 0 0) 4 11 (J 4 12 2 &&& 7).toNatClampNeg c 4 18 2 then m_flush (m_wkN (sc_u J 3 0 20 l)) (sc_u (m_W J l (J 4 20 2) 0 0) 4 11 (J 4 12 2 &&& 7).toNatClampNeg c) else sc_u (m_W J l (J 4 20 2) 0 0) 4 11 (J 4 12 2 &&& 7).toNatClampNeg c)) := by
      intro g c hc h0
      have eS : c_f2 (sc_u S 0 2 4 w) = c_W S w 0 0 (if c_td (S 1 2 0) then c_fs (sc_u S 0 2 4 w) + S 1 2 4 else 0) := by
        show c_W S w (c_fo (S 1 2 0) (S 1 2 4) (c_fs (sc_u S 0 2 4 w)) (c_ft (sc_u S 0 2 4 w))) (c_vo (S 1 2 0) (S 1 2 4) (S 0 2 2) (c_fs (sc_u S 0 2 4 w)) (c_ft (sc_u S 0 2 4 w))) _ = _
        rw [hfo, hv]
        rfl
      rw [eS]
      unfold c_ln
      rw [q1]
      refine r_Phm (r_Pct (r_PW hR h2 (by decide) (fun _ _ => rfl) (fun _ z => absurd z h11)) ?_ ?_) h2 h3 rfl en
      · exact hc
      · rw [← hc] at h0
        exact h0
    unfold c_fin
    rw [if_pos (show sc_u S 0 2 4 w 0 2 5 = 0 from hf), if_pos (show c_fo (sc_u S 0 2 4 w 1 2 0) (sc_u S 0 2 4 w 1 2 4) (c_fs (sc_u S 0 2 4 w)) (c_ft (sc_u S 0 2 4 w)) = 0 from hfo)]
    unfold c_f3
    rw [if_pos (show c_br (sc_u S 0 2 4 w 1 2 0) from hb'), eJ]
    by_cases hgo : c_go (S 1 2 0) (c_fs (sc_u S 0 2 4 w)) (c_ft (sc_u S 0 2 4 w))
    · rw [if_pos (hg.mpr hgo), if_pos (show c_go (sc_u S 0 2 4 w 1 2 0) _ _ from hgo)]
      exact main 1 _ (by rw [l1, c1]) (by rw [← c1, ← l1]; exact l3)
    · rw [if_neg (fun z => hgo (hg.mp z)), if_neg (show ¬ c_go (sc_u S 0 2 4 w 1 2 0) _ _ from hgo)]
      exact main (-1) _ (by rw [l2, c1]) (by rw [← c1, ← l2]; exact l4)
  · obtain ⟨a, f, v, e, f1, f2, f3, f4⟩ := m_wk_n (J := sc_u J 3 0 20 l) hO hb
    have hb' : ¬ c_br (S 1 2 0) := by rw [q2]; exact hb
    rw [e]
    unfold c_fin
    by_cases hf : S 0 2 5 = 0
    · have hj : J 4 21 2 = 0 := q8.symm.trans hf
      have ff : f = c_fo (S 1 2 0) (S 1 2 4) (c_fs (sc_u S 0 2 4 w)) (c_ft (sc_u S 0 2 4 w)) := (f1 hj).trans ef.symm
      have hf0 : 0 ≤ f := by rw [ff]; exact r_fo0 _ _ _ _
      rw [if_pos (show sc_u S 0 2 4 w 0 2 5 = 0 from hf)]
      by_cases hfo : f = 0
      · rw [if_pos (show c_fo (sc_u S 0 2 4 w 1 2 0) (sc_u S 0 2 4 w 1 2 4) (c_fs (sc_u S 0 2 4 w)) (c_ft (sc_u S 0 2 4 w)) = 0 from ff.symm.trans hfo)]
        unfold c_f3
        rw [if_neg (show ¬ c_br (sc_u S 0 2 4 w 1 2 0) from hb')]
        have eS : c_f2 (sc_u S 0 2 4 w) = c_W S w f (c_vo (S 1 2 0) (S 1 2 4) (S 0 2 2) (c_fs (sc_u S 0 2 4 w)) (c_ft (sc_u S 0 2 4 w))) (if c_td (S 1 2 0) then c_fs (sc_u S 0 2 4 w) + S 1 2 4 else 0) := by
          rw [ff]
          rfl
        rw [eS]
        refine r_Phm (r_PW hR h2 hf0 (fun _ z => ?_) (fun _ z => ?_)) h2 h3 hfo en
        · rw [ev]
          exact (f3 (fun y => z (q2.trans y))).symm
        · rw [if_pos (show c_td (S 1 2 0) from z), es, q6]
          have z' : J 4 13 2 = 11 ∨ J 4 13 2 = 12 := by rw [← q2]; exact z
          refine ⟨(f4 z').symm, ?_⟩
          have hz : c_fo (J 4 13 2) (J 4 17 2) (m_rd (sc_u J 3 0 20 l) (J 4 15 2)) (m_rd (sc_u J 3 0 20 l) (J 4 16 2)) = 0 := (f1 hj).symm.trans hfo
          apply Classical.byContradiction
          intro y
          unfold c_fo at hz
          rw [if_neg (fun e => by rw [e] at z'; exact absurd z' (by decide)), if_pos ⟨z', fun x => y (r_31'.mpr x)⟩] at hz
          exact absurd hz (by decide)
      · rw [if_neg (show ¬ c_fo (sc_u S 0 2 4 w 1 2 0) (sc_u S 0 2 4 w 1 2 4) (c_fs (sc_u S 0 2 4 w)) (c_ft (sc_u S 0 2 4 w)) = 0 from fun x => hfo (ff.trans x))]
        have eS : c_f1 (sc_u S 0 2 4 w) = c_W S w f (S 0 2 7) (S 0 2 6) := by
          rw [kS, ff]
          rfl
        rw [eS]
        exact r_Pm0 (r_PW hR h2 hf0 (fun y => absurd y hfo) (fun y => absurd y hfo)) h2 h3 hfo
    · rw [if_neg (show ¬ sc_u S 0 2 4 w 0 2 5 = 0 from hf)]
      have h19 : J 4 13 2 = 19 := q2.symm.trans (g1 hf)
      have ff : f = S 0 2 5 := (f2 h19).trans q8.symm
      have eS : sc_u S 0 2 4 w = c_W S w f (S 0 2 7) (S 0 2 6) := by
        rw [kS, ff]
        exact (sc_u_id (sc_u S 0 2 4 w) 0 2 5).symm
      have hn : ¬ f = 0 := fun y => hf (ff.symm.trans y)
      rw [eS]
      exact r_Pm0 (r_PW hR h2 (by rw [ff]; exact q9) (fun y => absurd y hn) (fun y => absurd y hn)) h2 h3 hn
theorem r_nl {N : Nat} {S J : sc_I} (hR : r_R N S J) (h2 : J 5 0 2 = 1) : c_nl S ↔ m_wt J (m_q J) := by
  obtain ⟨hs, ha, hp, ⟨⟨t0, t1, t2, t3, t4⟩, b0, b1, b2, b3, b4⟩, he, hh⟩ := id hR
  obtain ⟨q1, q2, q3, q4, q5, q6, q7, q8, q9⟩ := t2.2.2 h2
  have hO : r_O (J 4 13 2) := q2 ▸ b2.1
  by_cases h0 : J 5 0 4 = 0
  · have : m_q J = 0 := if_neg (fun z => z.1 h0)
    rw [this]
    exact ⟨fun z => absurd (t4.1.trans h0) z.1.1, fun z => absurd rfl z.1⟩
  · have h01 := r_01 t4.2.1 h0
    obtain ⟨p1, p2, p3, p4, p5, p6, p7, p8, p9⟩ := t4.2.2 h01
    by_cases c : J 4 13 4 = 11 ∧ J 4 21 4 = 0
    · have hq : m_q J = J 4 14 4 := if_pos ⟨h0, c⟩
      have h0' : ¬ S 0 4 0 = 0 := fun z => h0 (t4.1.symm.trans z)
      have hw : c_wd (S 1 4 0) := by rw [p2, c.1]; decide
      rw [hq, ← p3]
      constructor
      · rintro ⟨_, (z | z)⟩
        · refine ⟨by rw [z.2.2.2.2.2]; exact z.2.2.2.1, Or.inl ⟨(r_us hO).mp (q2 ▸ z.1), by rw [← q4]; exact z.2.2.2.2.2.symm⟩⟩
        · refine ⟨by rw [z.2.2.2.2.2]; exact z.2.2.2.1, Or.inr ⟨(r_ut hO).mp (q2 ▸ z.1), by rw [← q5]; exact z.2.2.2.2.2.symm⟩⟩
      · rintro ⟨y, (z | z)⟩
        · refine ⟨⟨h0', p8.trans c.2, p2.trans c.1⟩, Or.inl ⟨by rw [q2]; exact (r_us hO).mpr z.1, h0', p8.trans c.2, by rw [q4, z.2]; exact y, hw, by rw [q4, z.2]⟩⟩
        · refine ⟨⟨h0', p8.trans c.2, p2.trans c.1⟩, Or.inr ⟨by rw [q2]; exact (r_ut hO).mpr z.1, h0', p8.trans c.2, by rw [q5, z.2]; exact y, hw, by rw [q5, z.2]⟩⟩
    · have hq : m_q J = 0 := if_neg (fun z => c z.2)
      rw [hq]
      exact ⟨fun z => absurd ⟨p2.symm.trans z.1.2.2, p8.symm.trans z.1.2.1⟩ c, fun z => absurd rfl z.1⟩
theorem r_rch {N : Nat} {S J : sc_I} (hR : r_R N S J) (h3 : J 5 0 3 = 0) : r_R N (c_rch S) (m_rch (m_q J) J) := by
  obtain ⟨⟨s1, s2, s3, s4, s5, s6, s7, s8, s9, s10⟩, ha, hp, ⟨⟨t0, t1, t2, t3, t4⟩, b0, b1, b2, b3, b4⟩, ⟨e0, e1, e2, e3, e4⟩, hh⟩ := id hR
  unfold c_rch m_rch
  by_cases h0 : J 5 0 2 = 0
  · rw [if_pos h0, if_pos (t2.1.trans h0)]
    exact hR
  have h2 := r_01 t2.2.1 h0
  rw [if_neg h0, if_neg (fun z => h0 (t2.1.symm.trans z))]
  by_cases hn : m_wt J (m_q J)
  · rw [if_pos hn, if_pos ((r_nl hR h2).mpr hn)]
    exact ⟨⟨s1, s2, s3, s4, s5, s6, congrArg (· + 1) s7, s8, s9, s10⟩, ha, hp, ⟨⟨t0, t1, t2, t3, t4⟩, b0, b1, b2, b3, b4⟩, ⟨e0, e1, e2, e3, e4⟩, hh⟩
  rw [if_neg hn, if_neg (fun z => hn ((r_nl hR h2).mp z))]
  obtain ⟨g1, g2, g3, g4⟩ := e2 h2
  obtain ⟨w1, w2⟩ := r_work (r_wcs (S 1 2 0)) g2 g3
  by_cases hl : sc_wc (S 1 2 0) ≤ S 0 2 4 + 1
  · rw [if_pos hl, if_pos (show J 3 0 20 - 1 ≤ 0 by rw [g4]; exact w1.mpr hl)]
    exact r_fin hR h2 h3
  · rw [if_neg hl, if_neg (show ¬ J 3 0 20 - 1 ≤ 0 by rw [g4]; exact fun z => hl (w1.mp z))]
    obtain ⟨w3, w4, w5⟩ := w2 hl
    exact ⟨⟨s1, s2, s3, s4, s5, s6, congrArg (· + 1) s7, s8, s9, s10⟩, ha, hp, ⟨⟨t0, t1, t2, t3, t4⟩, b0, b1, b2, b3, b4⟩, ⟨e0, e1, fun _ => ⟨g1, w3, w4, by
      show J 3 0 20 - 1 = sc_wc (S 1 2 0) - (S 0 2 4 + 1)
      rw [g4, w5]⟩, e3, e4⟩, hh⟩
