theorem sc_u_id {α : Type} (I : Nat → Nat → Nat → α) (k i s : Nat) : sc_u I k i s (I k i s) = I := by
  funext a b c
  by_cases h : a = k ∧ b = i
  · obtain ⟨rfl, rfl⟩ := h
    rw [sc_u_at]
    by_cases e : c = s
    · rw [e, va_up_self]
    · rw [va_up_ne _ _ e]
  · rw [sc_u_row _ _ _ _ _ h]
theorem sc_u_comm {α : Type} (I : Nat → Nat → Nat → α) {k i s k' i' s' : Nat} {v w : α} (h : ¬ (k = k' ∧ i = i')) : sc_u (sc_u I k i s v) k' i' s' w = sc_u (sc_u I k' i' s' w) k i s v := by
  funext a b
  by_cases h1 : a = k' ∧ b = i'
  · obtain ⟨rfl, rfl⟩ := h1
    rw [sc_u_at, sc_u_row _ _ _ _ _ (fun e => h ⟨e.1.symm, e.2.symm⟩), sc_u_row _ _ _ _ _ (fun e => h ⟨e.1.symm, e.2.symm⟩), sc_u_at]
  · rw [sc_u_row _ _ _ _ _ h1]
    by_cases h2 : a = k ∧ b = i
    · obtain ⟨rfl, rfl⟩ := h2
      rw [sc_u_at, sc_u_at, sc_u_row _ _ _ _ _ h1]
    · rw [sc_u_row _ _ _ _ _ h2, sc_u_row _ _ _ _ _ h2, sc_u_row _ _ _ _ _ h1]
theorem r_z {A : Prop} : (0 : Int32) = 1 → A := fun h => absurd h (by decide)
theorem r_n0 {x : Int32} {A : Prop} (h : x = 0) : x = 1 → A := fun e => absurd (h.symm.trans e) (by decide)
theorem r_lt {x : Int32} {n : Nat} (h : vp_in x n) : x.toNatClampNeg < n := Nat.not_le.mp (fun z => h (Or.inr z))
theorem r_31 {x : Int32} (h : 0 ≤ x ∧ x ≤ 31) : vp_in x 32 := m_vr h (by decide) (by decide)
theorem r_63 {x : Int32} (h : 0 ≤ x ∧ x ≤ 63) : vp_in x 64 := m_vr h (by decide) (by decide)
/-- what a load ahead writes -/
def m_q (J : sc_I) : Int32 := if ¬ J 5 0 4 = 0 ∧ J 4 13 4 = 11 ∧ J 4 21 4 = 0 then J 4 14 4 else 0
theorem m_q_lv {J : sc_I} (h : ¬ m_end J) : m_ldd (m_lv J) = m_ldd J := by
  unfold m_lv
  by_cases h0 : J 5 0 4 = 0
  · rw [if_pos h0]
  · have h1 : J 4 21 4 ≤ 0 := Classical.byContradiction fun z => h ⟨h0, Or.inl z⟩
    have h2 : ¬ J 4 13 4 = 18 := fun z => h ⟨h0, Or.inr z⟩
    rw [if_neg h0, if_pos h1, if_neg h2]
    split <;> rfl
theorem m_q_rem {J : sc_I} (h : J 5 0 4 = 0) : m_q (m_rem J) = m_ldd J := by
  unfold m_rem
  by_cases h0 : J 5 0 3 = 0
  · rw [if_pos h0]
    unfold m_q m_ldd
    rw [if_neg (fun z => z.1 h), if_neg (fun z => z.1 h0)]
  · rw [if_neg h0]
    have e : ∀ X : sc_I, X 5 0 4 = 1 → X 4 13 4 = J 4 13 3 → X 4 21 4 = J 4 21 3 → X 4 14 4 = J 4 14 3 → m_q X = m_ldd J := by
      intro X x1 x2 x3 x4
      unfold m_q m_ldd
      rw [x1, x2, x3, x4]
      by_cases c : J 4 13 3 = 11 ∧ J 4 21 3 = 0
      · rw [if_pos ⟨by decide, c⟩, if_pos ⟨h0, c⟩]
      · rw [if_neg (fun z => c z.2), if_neg (fun z => c z.2)]
    split
    · split
      · exact e _ rfl rfl rfl rfl
      · split
        · exact e _ rfl rfl rfl rfl
        · exact e _ rfl rfl rfl rfl
    · exact e _ rfl rfl rfl rfl
/-- a flight passes REMEMBERED -/
theorem r_mem {N : Nat} {S J : sc_I} (hR : r_R N S J) (h4 : J 5 0 4 = 0) : r_R N (c_mem S) (m_rem J) ∧ m_rem J 5 0 3 = 0 := by
  obtain ⟨hs, ⟨a1, a2, a3⟩, hp, ⟨⟨t0, t1, t2, t3, t4⟩, b0, b1, b2, b3, b4⟩, ⟨e0, e1, e2, e3, e4⟩, hh⟩ := id hR
  have h4' : S 0 4 0 = 0 := t4.1.trans h4
  by_cases h0 : J 5 0 3 = 0
  · have h0' : S 0 3 0 = 0 := t3.1.trans h0
    unfold c_mem c_mv m_rem
    rw [if_neg (fun z : c_do S 3 11 => z.1 h0'), if_neg (fun z : c_do S 3 12 => z.1 h0'), if_pos (show S 0 (3 + 1) 0 = 0 from h4'), if_pos h0]
    exact ⟨⟨hs, ⟨a1, a2, a3⟩, hp, ⟨⟨t0, t1, t2, ⟨h4'.trans h0.symm, Or.inl h0, r_n0 h0⟩, ⟨h0'.trans h4.symm, Or.inl h4, r_n0 h4⟩⟩, b0, b1, b2, ⟨b4.1, b4.2.1, b4.2.2.1, b4.2.2.2.1, b3.2.2.2.2⟩, ⟨b3.1, b3.2.1, b3.2.2.1, b3.2.2.2.1, b4.2.2.2.2⟩⟩, ⟨e0, e1, e2, r_n0 h0, r_n0 h4⟩, hh⟩, h0⟩
  have h01 : J 5 0 3 = 1 := r_01 t3.2.1 h0
  have h01' : S 0 3 0 = 1 := t3.1.trans h01
  have h0' : ¬ S 0 3 0 = 0 := fun z => h0 (t3.1.symm.trans z)
  obtain ⟨q1, q2, q3, q4, q5, q6, q7, q8, q9⟩ := t3.2.2 h01
  unfold m_rem
  rw [if_neg h0]
  have bd3 : ∀ {f : Nat → Int32}, r_O (S 1 4 0) ∧ r_B (S 1 4 1) ∧ r_B (S 1 4 2) ∧ r_B (S 1 4 3) ∧ r_B (J 4 14 3) ∧ r_B (J 4 15 3) ∧ r_B (J 4 16 3) := ⟨b4.1, b4.2.1, b4.2.2.1, b4.2.2.2.1, b3.2.2.2.2⟩
  have bd4 : r_O (S 1 3 0) ∧ r_B (S 1 3 1) ∧ r_B (S 1 3 2) ∧ r_B (S 1 3 3) ∧ r_B (J 4 14 3) ∧ r_B (J 4 15 3) ∧ r_B (J 4 16 3) := b3
  by_cases hf : S 0 3 5 = 0
  · have hf' : J 4 21 3 = 0 := q8.symm.trans hf
    obtain ⟨ev, ea⟩ := e3 h01 hf
    rw [if_pos hf']
    by_cases o1 : S 1 3 0 = 11
    · have o1' : J 4 13 3 = 11 := q2.symm.trans o1
      obtain ⟨g1, g2⟩ := ea (Or.inl o1)
      unfold c_mem c_mv
      rw [if_pos (show c_do S 3 11 from ⟨h0', hf, o1⟩), if_pos (show sc_u S 0 3 7 _ 0 (3 + 1) 0 = 0 from h4'), if_pos o1']
      exact ⟨⟨hs, ⟨a1, a2, a3⟩, hp, ⟨⟨t0, t1, t2, ⟨h4', Or.inl rfl, r_z⟩, ⟨h01', Or.inr rfl, fun _ => ⟨q1, q2, q3, q4, q5, q6, q7, q8, q9⟩⟩⟩, b0, b1, b2, ⟨b4.1, b4.2.1, b4.2.2.1, b4.2.2.2.1, b3.2.2.2.2⟩, b3⟩, ⟨e0, e1, e2, r_z, fun _ _ => by
        show S 4 0 (S 0 3 6).toNatClampNeg = J 4 9 (J 4 20 3).toNatClampNeg
        rw [← g1]
        exact a2 _ (r_lt (r_31 g2))⟩, hh⟩, rfl⟩
    · have o1' : ¬ J 4 13 3 = 11 := fun z => o1 (q2.trans z)
      by_cases o2 : S 1 3 0 = 12
      · have o2' : J 4 13 3 = 12 := q2.symm.trans o2
        obtain ⟨g1, g2⟩ := ea (Or.inr o2)
        unfold c_mem c_mv
        rw [if_neg (fun z : c_do S 3 11 => o1 z.2.2), if_pos (show c_do S 3 12 from ⟨h0', hf, o2⟩), if_pos (show sc_u S 4 0 _ _ 0 (3 + 1) 0 = 0 from h4'), if_neg o1', if_pos o2']
        refine ⟨⟨hs, ⟨a1, ?_, a3⟩, hp, ⟨⟨t0, t1, t2, ⟨h4', Or.inl rfl, r_z⟩, ⟨h01', Or.inr rfl, fun _ => ⟨q1, q2, q3, q4, q5, q6, q7, q8, q9⟩⟩⟩, b0, b1, b2, ⟨b4.1, b4.2.1, b4.2.2.1, b4.2.2.2.1, b3.2.2.2.2⟩, b3⟩, ⟨e0, e1, e2, r_z, fun _ _ => ev o1⟩, hh⟩, rfl⟩
        intro x hx
        show sc_u S 4 0 _ _ 4 0 x = sc_u (m_move 3 J) 4 9 _ _ 4 9 x
        rw [sc_u_at, sc_u_at, g1]
        exact r_up_row (B := m_move 3 J 4 9) a2 (ev o1) x hx
      · have o2' : ¬ J 4 13 3 = 12 := fun z => o2 (q2.trans z)
        unfold c_mem c_mv
        rw [if_neg (fun z : c_do S 3 11 => o1 z.2.2), if_neg (fun z : c_do S 3 12 => o2 z.2.2), if_pos (show S 0 (3 + 1) 0 = 0 from h4'), if_neg o1', if_neg o2']
        exact ⟨⟨hs, ⟨a1, a2, a3⟩, hp, ⟨⟨t0, t1, t2, ⟨h4', Or.inl rfl, r_z⟩, ⟨h01', Or.inr rfl, fun _ => ⟨q1, q2, q3, q4, q5, q6, q7, q8, q9⟩⟩⟩, b0, b1, b2, ⟨b4.1, b4.2.1, b4.2.2.1, b4.2.2.2.1, b3.2.2.2.2⟩, b3⟩, ⟨e0, e1, e2, r_z, fun _ _ => ev o1⟩, hh⟩, rfl⟩
  · have hf' : ¬ J 4 21 3 = 0 := fun z => hf (q8.trans z)
    unfold c_mem c_mv
    rw [if_neg (fun z : c_do S 3 11 => hf z.2.1), if_neg (fun z : c_do S 3 12 => hf z.2.1), if_pos (show S 0 (3 + 1) 0 = 0 from h4'), if_neg hf']
    exact ⟨⟨hs, ⟨a1, a2, a3⟩, hp, ⟨⟨t0, t1, t2, ⟨h4', Or.inl rfl, r_z⟩, ⟨h01', Or.inr rfl, fun _ => ⟨q1, q2, q3, q4, q5, q6, q7, q8, q9⟩⟩⟩, b0, b1, b2, ⟨b4.1, b4.2.1, b4.2.2.1, b4.2.2.2.1, b3.2.2.2.2⟩, b3⟩, ⟨e0, e1, e2, r_z, fun _ z => absurd z hf⟩, hh⟩, rfl⟩
theorem r_wc (x : Int32) : (0 : Int32) < sc_wc x := by
  unfold sc_wc
  split
  · decide
  · split <;> decide
theorem r_mv1 {N : Nat} {S J : sc_I} (hR : r_R N S J) : r_R N (c_mv 1 S) (m_mv1 J) := by
  obtain ⟨hs, ha, hp, ⟨⟨t0, t1, t2, t3, t4⟩, b0, b1, b2, b3, b4⟩, ⟨e0, e1, e2, e3, e4⟩, hh⟩ := id hR
  unfold c_mv m_mv1
  by_cases h2 : J 5 0 2 = 0
  · have h2' : S 0 2 0 = 0 := t2.1.trans h2
    rw [if_pos (show S 0 (1 + 1) 0 = 0 from h2')]
    by_cases h1 : J 5 0 1 = 0
    · have h1' : S 0 1 0 = 0 := t1.1.trans h1
      rw [if_neg (fun z => z.2 h1)]
      exact ⟨hs, ha, hp, ⟨⟨t0, ⟨h2'.trans h1.symm, Or.inl h1, r_n0 h1⟩, ⟨h1'.trans h2.symm, Or.inl h2, r_n0 h2⟩, t3, t4⟩, b0, ⟨b2.1, b2.2.1, b2.2.2.1, b2.2.2.2.1, b1.2.2.2.2⟩, ⟨b1.1, b1.2.1, b1.2.2.1, b1.2.2.2.1, b2.2.2.2.2⟩, b3, b4⟩, ⟨e0, r_n0 h1, r_n0 h2, e3, e4⟩, hh⟩
    · have h11 : J 5 0 1 = 1 := r_01 t1.2.1 h1
      obtain ⟨q1, q2, q3, q4, q5, q6, q7, q8, q9⟩ := t1.2.2 h11
      obtain ⟨g1, g2⟩ := e1 h11
      rw [if_pos ⟨h2, h1⟩]
      refine ⟨hs, ha, hp, ⟨⟨t0, ⟨h2', Or.inl rfl, r_z⟩, ⟨t1.1.trans h11, Or.inr rfl, fun _ => ⟨q1, q2, q3, q4, q5, q6, q7, q8, q9⟩⟩, t3, t4⟩, b0, ⟨b2.1, b2.2.1, b2.2.2.1, b2.2.2.2.1, b1.2.2.2.2⟩, b1, b3, b4⟩, ⟨e0, r_z, fun _ => ⟨g2, ?_, ?_, ?_⟩, e3, e4⟩, hh⟩
      · show 0 ≤ S 0 1 4
        rw [g1]; decide
      · show S 0 1 4 < sc_wc (S 1 1 0)
        rw [g1]; exact r_wc _
      · show sc_wc (J 4 13 1) = sc_wc (S 1 1 0) - S 0 1 4
        rw [g1, q2, Int32.sub_zero]
  · rw [if_neg (show ¬ S 0 (1 + 1) 0 = 0 from fun z => h2 (t2.1.symm.trans z)), if_neg (fun z => h2 z.1)]
    exact hR
theorem r_mv0 {N : Nat} {S J : sc_I} (hR : r_R N S J) : r_R N (c_mv 0 S) (m_mv0 J) := by
  obtain ⟨hs, ha, hp, ⟨⟨t0, t1, t2, t3, t4⟩, b0, b1, b2, b3, b4⟩, ⟨e0, e1, e2, e3, e4⟩, hh⟩ := id hR
  unfold c_mv m_mv0
  by_cases h2 : J 5 0 1 = 0
  · have h2' : S 0 1 0 = 0 := t1.1.trans h2
    rw [if_pos (show S 0 (0 + 1) 0 = 0 from h2')]
    by_cases h1 : J 5 0 0 = 0
    · have h1' : S 0 0 0 = 0 := t0.1.trans h1
      rw [if_neg (fun z => z.2 h1)]
      exact ⟨hs, ha, hp, ⟨⟨⟨h2'.trans h1.symm, Or.inl h1, r_n0 h1⟩, ⟨h1'.trans h2.symm, Or.inl h2, r_n0 h2⟩, t2, t3, t4⟩, ⟨b1.1, b1.2.1, b1.2.2.1, b1.2.2.2.1, b0.2.2.2.2⟩, ⟨b0.1, b0.2.1, b0.2.2.1, b0.2.2.2.1, b1.2.2.2.2⟩, b2, b3, b4⟩, ⟨r_n0 h1, r_n0 h2, e2, e3, e4⟩, hh⟩
    · have h11 : J 5 0 0 = 1 := r_01 t0.2.1 h1
      obtain ⟨q1, q2, q3, q4, q5, q6, q7, q8, q9⟩ := t0.2.2 h11
      rw [if_pos ⟨h2, h1⟩]
      exact ⟨hs, ha, hp, ⟨⟨⟨h2', Or.inl rfl, r_z⟩, ⟨t0.1.trans h11, Or.inr rfl, fun _ => ⟨q1, q2, q3, q4, q5, q6, q7, q8, q9⟩⟩, t2, t3, t4⟩, ⟨b1.1, b1.2.1, b1.2.2.1, b1.2.2.2.1, b0.2.2.2.2⟩, b0, b2, b3, b4⟩, ⟨r_z, fun _ => e0 h11, e2, e3, e4⟩, hh⟩
  · rw [if_neg (show ¬ S 0 (0 + 1) 0 = 0 from fun z => h2 (t1.1.symm.trans z)), if_neg (fun z => h2 z.1)]
    exact hR
theorem r_le00 : (0 : Int32) ≤ 0 := by decide
theorem r_le01 : (0 : Int32) ≤ 1 := by decide
theorem r_B0 : r_B 0 := ⟨by decide, by decide⟩
theorem r_fd {w : Int32} : c_fd w ↔ (0 ≤ w ∧ w ≤ 63) := by
  unfold c_fd
  rw [Int32.lt_iff_toInt_lt, Int32.le_iff_toInt_le, Int32.le_iff_toInt_le, Int32.le_iff_toInt_le, show (0 : Int32).toInt = 0 from rfl, show (63 : Int32).toInt = 63 from rfl, show (64 : Int32).toInt = 64 from rfl]
  omega
theorem r_lt2 {w : Int32} : w < 2 ↔ w ≤ 1 := by
  rw [Int32.lt_iff_toInt_lt, Int32.le_iff_toInt_le, show (2 : Int32).toInt = 2 from rfl, show (1 : Int32).toInt = 1 from rfl]
  omega
theorem r_ft {N : Nat} {S J : sc_I} (hR : r_R N S J) : r_R N (c_ft0 S) (m_ft0 J) := by
  obtain ⟨⟨s1, s2, s3, s4, s5, s6, s7, s8, s9, s10⟩, ha, hp, ⟨⟨t0, t1, t2, t3, t4⟩, b0, b1, b2, b3, b4⟩, ⟨e0, e1, e2, e3, e4⟩, hh⟩ := id hR
  unfold c_ft0 m_ft0
  by_cases h0 : J 5 0 0 = 0
  · rw [if_pos h0, if_pos (t0.1.trans h0)]
    unfold m_ftc
    by_cases hw : 0 ≤ J 3 0 21 ∧ J 3 0 21 ≤ 63
    · rw [if_pos hw, if_pos (show c_fd (S 2 0 7) by rw [s1]; exact r_fd.mpr hw)]
      have hlt := r_lt (r_63 hw)
      obtain ⟨⟨p0, p1, p2, p3, p4⟩, p5, p6, p7, p8⟩ := hp.1 _ hlt
      have ec : S 4 2 (J 3 0 21 &&& 7).toNatClampNeg = J 4 11 (J 3 0 21 &&& 7).toNatClampNeg := (ha.2.2 _ (r_lt (m_and7 _))).1
      have key : ∀ nx, c_gn S (S 7 (S 2 0 7).toNatClampNeg 0) (S 7 (S 2 0 7).toNatClampNeg 4) (S 2 0 7) = nx → r_R N (c_fx (S 2 0 7).toNatClampNeg 0 S) (m_fk nx J) := by
        intro nx en
        unfold c_fx
        rw [en]
        rw [← s1] at p0 p1 p2 p3 p4 p5 p6 p7 p8
        unfold m_fk
        rw [← s1]
        have b : r_bd (sc_u (sc_u (c_fw (S 2 0 7).toNatClampNeg 0 S) 0 0 3 nx) 2 0 7 nx) (sc_u (sc_u (sc_u (sc_u (sc_u (sc_u (sc_u (sc_u (sc_u (sc_u J 5 0 0 1) 4 12 0 (S 2 0 7)) 4 13 0 (J 4 4 (S 2 0 7).toNatClampNeg)) 4 14 0 (J 4 5 (S 2 0 7).toNatClampNeg)) 4 15 0 (J 4 6 (S 2 0 7).toNatClampNeg)) 4 16 0 (J 4 7 (S 2 0 7).toNatClampNeg)) 4 17 0 (J 4 8 (S 2 0 7).toNatClampNeg)) 4 21 0 0) 3 0 21 nx) 4 18 0 nx) 0 :=
          ⟨(by rw [← p0] at p5; exact p5), (by rw [← p1] at p6; exact p6), (by rw [← p2] at p7; exact p7), (by rw [← p3] at p8; exact p8), p6, p7, p8⟩
        exact ⟨⟨rfl, s2, s3, s4, s5, s6, s7, s8, s9, s10⟩, ha, hp, ⟨⟨⟨rfl, Or.inr rfl, fun _ => ⟨rfl, p0, p1, p2, p3, p4, rfl, rfl, r_le00⟩⟩, t1, t2, t3, t4⟩, b, b1, b2, b3, b4⟩, ⟨fun _ => ⟨rfl, fun z => absurd rfl z⟩, e1, e2, e3, e4⟩, hh⟩
      by_cases hg : m_gf (J 4 4 (J 3 0 21).toNatClampNeg) J
      · rw [if_pos hg]
        refine key _ ?_
        unfold c_gn
        rw [s1, p0, p4, ec, if_pos]
        rcases hg with g | g
        · exact Or.inl g
        · exact Or.inr ⟨g.1, fun z => g.2 (r_lt2.mp z)⟩
      · rw [if_neg hg]
        refine key _ ?_
        unfold c_gn
        rw [s1, p0, p4, ec, if_neg]
        rintro (g | g)
        · exact hg (Or.inl g)
        · exact hg (Or.inr ⟨g.1, fun z => g.2 (r_lt2.mpr z)⟩)
    · rw [if_neg hw, if_neg (show ¬ c_fd (S 2 0 7) by rw [s1]; exact fun z => hw (r_fd.mp z))]
      obtain ⟨_, n0, n1, n2, n3, n4⟩ := id hp
      have en : c_gn S (S 7 64 0) (S 7 64 4) (S 2 0 7) = J 3 0 21 + 1 := by
        unfold c_gn
        rw [n0, s1, if_neg]
        rintro (g | g)
        · exact absurd g (by decide)
        · exact absurd g.1 (by decide)
      unfold c_fx m_fu
      rw [en]
      exact ⟨⟨rfl, s2, s3, s4, s5, s6, s7, s8, s9, s10⟩, ha, hp, ⟨⟨⟨rfl, Or.inr rfl, fun _ => ⟨s1, n0, n1, n2, n3, n4, rfl, rfl, r_le01⟩⟩, t1, t2, t3, t4⟩, ⟨(by show r_O (S 7 64 0); rw [n0]; exact ⟨by decide, by decide⟩), (by show r_B (S 7 64 1); rw [n1]; exact ⟨by decide, by decide⟩), (by show r_B (S 7 64 2); rw [n2]; exact ⟨by decide, by decide⟩), (by show r_B (S 7 64 3); rw [n3]; exact ⟨by decide, by decide⟩), r_B0, r_B0, r_B0⟩, b1, b2, b3, b4⟩, ⟨fun _ => ⟨rfl, fun _ => n0⟩, e1, e2, e3, e4⟩, hh⟩
  · rw [if_neg h0, if_neg (fun z => h0 (t0.1.symm.trans z))]
    exact hR
