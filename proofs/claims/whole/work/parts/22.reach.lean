theorem r_O_or {x : Int32} (h : r_O x) : ∃ j : Nat, j < 20 ∧ x = nI j := vp_in_of (n := 20) (m_vr h (by decide) (by decide)) (by decide)
theorem r_us {x : Int32} (h : r_O x) : c_us x ↔ m_usD x := by
  obtain ⟨j, hj, rfl⟩ := r_O_or h
  clear h
  revert j
  decide
theorem r_ut {x : Int32} (h : r_O x) : c_ut x ↔ m_utD x := by
  obtain ⟨j, hj, rfl⟩ := r_O_or h
  clear h
  revert j
  decide
theorem r_wcs (x : Int32) : sc_wc x = 1 ∨ sc_wc x = 3 ∨ sc_wc x = 6 := by
  unfold sc_wc
  split
  · exact Or.inr (Or.inl rfl)
  · split
    · exact Or.inr (Or.inr rfl)
    · exact Or.inl rfl
theorem r_work {w k : Int32} (hw : w = 1 ∨ w = 3 ∨ w = 6) (h0 : 0 ≤ k) (h1 : k < w) : (w - k - 1 ≤ 0 ↔ w ≤ k + 1) ∧ (¬ w ≤ k + 1 → 0 ≤ k + 1 ∧ k + 1 < w ∧ w - k - 1 = w - (k + 1)) := by
  have hk : vp_in k 6 := by
    apply vp_in_iff.mpr
    have a := Int32.le_iff_toInt_le.mp h0
    have b := Int32.lt_iff_toInt_lt.mp h1
    rw [show (0 : Int32).toInt = 0 from rfl] at a
    refine ⟨a, ?_⟩
    rcases hw with rfl | rfl | rfl
    · have : (1 : Int32).toInt = 1 := rfl
      omega
    · have : (3 : Int32).toInt = 3 := rfl
      omega
    · have : (6 : Int32).toInt = 6 := rfl
      omega
  obtain ⟨j, hj, rfl⟩ := vp_in_of hk (by decide)
  clear hk
  have hj' : j = 0 ∨ j = 1 ∨ j = 2 ∨ j = 3 ∨ j = 4 ∨ j = 5 := by omega
  clear hj
  rcases hw with rfl | rfl | rfl <;> rcases hj' with rfl | rfl | rfl | rfl | rfl | rfl <;> revert h0 h1 <;> decide
/-- before the move out of REACHED -/
def r_p2 (S J : sc_I) : Prop := J 5 0 2 = 1 → S 0 2 5 = 0 → (¬ S 1 2 0 = 11 → S 0 2 7 = J 4 19 2) ∧ ((S 1 2 0 = 11 ∨ S 1 2 0 = 12) → S 0 2 6 = J 4 20 2 ∧ 0 ≤ S 0 2 6 ∧ S 0 2 6 ≤ 31)
def r_P (N : Nat) (S J : sc_I) : Prop := r_sc S J ∧ r_ar S J ∧ r_pg S J ∧ r_5 S J ∧ (r_e0 S J 0 ∧ r_e0 S J 1 ∧ r_p2 S J ∧ r_e4 S J) ∧ r_h N S J
abbrev m_W (J : sc_I) (l a f v : Int32) : sc_I := sc_u (sc_u (sc_u (sc_u J 3 0 20 l) 4 20 2 a) 4 21 2 f) 4 19 2 v
abbrev c_W (S : sc_I) (w f v a : Int32) : sc_I := sc_u (sc_u (sc_u (sc_u S 0 2 4 w) 0 2 5 f) 0 2 7 v) 0 2 6 a
theorem r_PW {N : Nat} {S J : sc_I} {l w f a v a' v' : Int32} (hR : r_R N S J) (h2 : J 5 0 2 = 1) (hf : 0 ≤ f) (hv : f = 0 → ¬ S 1 2 0 = 11 → v = v') (ha : f = 0 → (S 1 2 0 = 11 ∨ S 1 2 0 = 12) → a = a' ∧ 0 ≤ a ∧ a ≤ 31) : r_P N (c_W S w f v a) (m_W J l a' f v') := by
  obtain ⟨hs, har, hp, ⟨⟨t0, t1, t2, t3, t4⟩, b0, b1, b2, b3, b4⟩, ⟨e0, e1, e2, e3, e4⟩, hh⟩ := id hR
  obtain ⟨q1, q2, q3, q4, q5, q6, q7, q8, q9⟩ := t2.2.2 h2
  exact ⟨hs, har, hp, ⟨⟨t0, t1, ⟨t2.1, t2.2.1, fun _ => ⟨q1, q2, q3, q4, q5, q6, q7, rfl, hf⟩⟩, t3, t4⟩, b0, b1, b2, b3, b4⟩, ⟨e0, e1, fun _ z => ⟨hv z, ha z⟩, e4⟩, hh⟩
theorem r_Pfl {N : Nat} {S J : sc_I} {nx : Int32} (hR : r_P N S J) : r_P N (sc_u (c_em2 (sc_u S 2 0 15 (S 2 0 15 + 1))) 2 0 7 nx) (m_flush nx J) := by
  obtain ⟨⟨s1, s2, s3, s4, s5, s6, s7, s8, s9, s10⟩, har, hp, ⟨⟨t0, t1, t2, t3, t4⟩, b0, b1, b2, b3, b4⟩, ⟨e0, e1, e2, e4⟩, hh⟩ := id hR
  exact ⟨⟨rfl, s2, s3, s4, s5, s6, s7, congrArg (· + 1) s8, s9, s10⟩, har, hp, ⟨⟨⟨rfl, Or.inl rfl, r_z⟩, ⟨rfl, Or.inl rfl, r_z⟩, t2, t3, t4⟩, b0, b1, b2, b3, b4⟩, ⟨r_z, r_z, e2, e4⟩, hh⟩
theorem r_Pct {N k : Nat} {S J : sc_I} {c c' : Int32} (hR : r_P N S J) (hc : c = c') (h0 : 0 ≤ c ∧ c ≤ 3) : r_P N (sc_u S 4 2 k c) (sc_u J 4 11 k c') := by
  subst hc
  obtain ⟨hs, ⟨a1, a2, a3⟩, hp, ⟨⟨t0, t1, t2, t3, t4⟩, b0, b1, b2, b3, b4⟩, ⟨e0, e1, e2, e4⟩, hh⟩ := id hR
  refine ⟨hs, ⟨a1, a2, ?_⟩, hp, ⟨⟨t0, t1, t2, t3, t4⟩, b0, b1, b2, b3, b4⟩, ⟨e0, e1, e2, e4⟩, hh⟩
  intro x hx
  rw [sc_u_at, sc_u_at]
  by_cases e : x = k
  · rw [e, va_up_self, va_up_self]
    exact ⟨rfl, h0⟩
  · rw [va_up_ne _ _ e, va_up_ne _ _ e]
    exact a3 x hx
theorem r_Pmv {N : Nat} {S J : sc_I} (hR : r_P N S J) (h2 : J 5 0 2 = 1) (h3 : J 5 0 3 = 0) : r_R N (c_mv 2 S) (m_move 2 J) := by
  obtain ⟨hs, har, hp, ⟨⟨t0, t1, t2, t3, t4⟩, b0, b1, b2, b3, b4⟩, ⟨e0, e1, e2, e4⟩, hh⟩ := id hR
  have h3' : S 0 3 0 = 0 := t3.1.trans h3
  unfold c_mv
  rw [if_pos (show S 0 (2 + 1) 0 = 0 from h3')]
  exact ⟨hs, har, hp, ⟨⟨t0, t1, ⟨h3', Or.inl rfl, r_z⟩, ⟨t2.1.trans h2, Or.inr rfl, fun _ => t2.2.2 h2⟩, t4⟩, b0, b1, ⟨b3.1, b3.2.1, b3.2.2.1, b3.2.2.2.1, b2.2.2.2.2⟩, b2, b4⟩, ⟨e0, e1, r_z, fun _ => e2 h2, e4⟩, hh⟩
theorem r_cl {v : Int32} (h0 : 0 ≤ v) (h1 : v ≤ 3) : c_cl (v + 1) = m_up v ∧ c_cl (v + -1) = m_dn v ∧ (0 ≤ c_cl (v + 1) ∧ c_cl (v + 1) ≤ 3) ∧ (0 ≤ c_cl (v + -1) ∧ c_cl (v + -1) ≤ 3) := by
  obtain ⟨j, hj, rfl⟩ := vp_in_of (n := 4) (m_vr ⟨h0, h1⟩ (by decide) (by decide)) (by decide)
  clear h0 h1
  revert j
  decide
theorem r_fo0 (op n s t : Int32) : 0 ≤ c_fo op n s t := by
  unfold c_fo
  split
  · decide
  · split
    · decide
    · split <;> decide
theorem r_hd {N : Nat} {S J : sc_I} (hR : r_R N S J) {r : Int32} (hr : vp_in r 16) : c_hd S r = m_rd J r := by
  obtain ⟨hs, ⟨a1, a2, a3⟩, hp, ⟨⟨t0, t1, t2, t3, t4⟩, b0, b1, b2, b3, b4⟩, ⟨e0, e1, e2, e3, e4⟩, hh⟩ := id hR
  unfold c_hd m_rd
  by_cases h0 : J 5 0 4 = 0
  · rw [if_neg (fun z => z.1 (t4.1.trans h0)), if_neg (fun z => z.1 h0)]
    exact a1 _ (r_lt hr)
  · have h01 := r_01 t4.2.1 h0
    obtain ⟨q1, q2, q3, q4, q5, q6, q7, q8, q9⟩ := t4.2.2 h01
    by_cases c : c_wr S 4 r
    · rw [if_pos c, if_pos]
      · exact e4 h01 c.2.1
      · exact ⟨h0, q8.symm.trans c.2.1, by rw [← q2]; exact (r_wd b4.1).mp c.2.2.2.1, q3.symm.trans c.2.2.2.2, c.2.2.1⟩
    · rw [if_neg c, if_neg]
      · exact a1 _ (r_lt hr)
      · intro z
        exact c ⟨fun y => h0 (t4.1.symm.trans y), q8.trans z.2.1, z.2.2.2.2, by rw [q2]; exact (r_wd (q2 ▸ b4.1)).mpr z.2.2.1, q3.trans z.2.2.2.1⟩
