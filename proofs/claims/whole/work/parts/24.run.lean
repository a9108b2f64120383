theorem r_up {N M : Nat} {S J : sc_I} (h : r_R N S J) (hN : N ≤ M) : r_R M S J := by
  obtain ⟨h1, h2, h3, h4, h5, h0, n, hn, h6⟩ := h
  exact ⟨h1, h2, h3, h4, h5, h0, n, by omega, h6⟩
theorem r_a3 {N : Nat} {S J : sc_I} (h : r_R N S J) : ((c_do S 3 11 ∨ c_do S 3 12) → vp_in (S 0 3 6) 32) ∧ (¬ J 5 0 3 = 0 → J 4 21 3 = 0 → (J 4 13 3 = 11 ∨ J 4 13 3 = 12) → vp_in (J 4 20 3) 32) := by
  obtain ⟨hs, ha, hp, ⟨⟨t0, t1, t2, t3, t4⟩, hb⟩, ⟨e0, e1, e2, e3, e4⟩, hh⟩ := id h
  have key : ¬ J 5 0 3 = 0 → S 0 3 5 = 0 → (S 1 3 0 = 11 ∨ S 1 3 0 = 12) → S 0 3 6 = J 4 20 3 ∧ vp_in (S 0 3 6) 32 := by
    intro h0 hf ho
    obtain ⟨g1, g2⟩ := (e3 (r_01 t3.2.1 h0) hf).2 ho
    exact ⟨g1, r_31 g2⟩
  constructor
  · rintro (z | z)
    · exact (key (fun y => z.1 (t3.1.trans y)) z.2.1 (Or.inl z.2.2)).2
    · exact (key (fun y => z.1 (t3.1.trans y)) z.2.1 (Or.inr z.2.2)).2
  · intro h0 hf ho
    obtain ⟨q1, q2, q3, q4, q5, q6, q7, q8, q9⟩ := t3.2.2 (r_01 t3.2.1 h0)
    obtain ⟨g1, g2⟩ := key h0 (q8.trans hf) (by rw [q2]; exact ho)
    rw [← g1]
    exact g2
theorem c_mem_2 (S : sc_I) : c_mem S 1 2 2 = S 1 2 2 ∧ c_mem S 1 2 3 = S 1 2 3 := by
  unfold c_mem c_mv
  split
  · split <;> exact ⟨rfl, rfl⟩
  · split
    · split <;> exact ⟨rfl, rfl⟩
    · split <;> exact ⟨rfl, rfl⟩
theorem m_rem_2 (J : sc_I) : m_rem J 4 15 2 = J 4 15 2 ∧ m_rem J 4 16 2 = J 4 16 2 := by
  unfold m_rem
  split
  · exact ⟨rfl, rfl⟩
  · split
    · split
      · exact ⟨rfl, rfl⟩
      · split <;> exact ⟨rfl, rfl⟩
    · exact ⟨rfl, rfl⟩
theorem r_rmv {N : Nat} {S J : sc_I} (hR : r_R N S J) (hN : N < 2 ^ 30) : vp_in (c_rm (S 2 0 13)) 16 := by
  obtain ⟨h1, h2, h3, h4, h5, h0, n, hn, h6, h7⟩ := hR
  rw [h0, h6, r_rm (by omega)]
  exact vp_in_nI (Nat.mod_lt _ (by decide)) (by decide)
/-- a cycle -/
theorem r_cyc {N : Nat} {S J : sc_I} (hR : r_R N S J) (hN : N < 2 ^ 30) : c_ok S ∧ m_ok J ∧ r_R (N + 1) (c_cyc S) (m_cyc J) := by
  have hT := r_tick hR
  obtain ⟨he, hL, h4⟩ := r_lv hT hN
  have hb := hR.2.2.2.1.2.2.2.2.2
  have hb2 := hL.2.2.2.1.2.2.2.1
  refine ⟨⟨r_Bv hb.2.1, r_rmv hR hN, (r_a3 hL).1, ?_, ?_⟩, ⟨r_Bv hb.2.2.2.2.1, ?_, ?_⟩, ?_⟩
  · rw [(c_mem_2 _).1]
    exact r_Bv hb2.2.2.1
  · rw [(c_mem_2 _).2]
    exact r_Bv hb2.2.2.2.1
  · rintro J' rfl
    rw [(m_rem_2 _).1, (m_rem_2 _).2]
    exact ⟨r_Bv hb2.2.2.2.2.2.1, r_Bv hb2.2.2.2.2.2.2⟩
  · rintro J' rfl
    exact (r_a3 hL).2
  · unfold c_cyc m_cyc
    by_cases c : m_end (m_tick J)
    · rw [if_pos c, if_pos (he.mpr c)]
      exact hL
    · rw [if_neg c, if_neg (fun z => c (he.mp z))]
      obtain ⟨hM, h3⟩ := r_mem hL (h4 c)
      have hq := (m_q_rem (h4 c)).trans (m_q_lv c)
      rw [← hq]
      exact r_ft (r_mv0 (r_mv1 (r_rch hM h3)))
/-- cycles -/
theorem r_run : ∀ (n N : Nat) (S J : sc_I), r_R N S J → N + n < 2 ^ 30 → c_oks n S ∧ m_oks n J ∧ r_R (N + n) (c_run n S) (m_run n J) := by
  intro n
  induction n with
  | zero => exact fun N S J hR _ => ⟨trivial, trivial, hR⟩
  | succ n ih =>
    intro N S J hR hN
    have e : S 2 0 11 = J 3 0 25 := hR.1.2.2.2.2.1
    unfold c_oks m_oks c_run m_run
    by_cases c : J 3 0 25 = 0
    · obtain ⟨h1, h2, h3⟩ := r_cyc hR (by omega)
      obtain ⟨i1, i2, i3⟩ := ih (N + 1) _ _ h3 (by omega)
      rw [if_pos c, if_pos (e.trans c)]
      refine ⟨fun _ => ⟨h1, i1⟩, fun _ => ⟨h2, i2⟩, ?_⟩
      rw [show N + (n + 1) = N + 1 + n by omega]
      exact i3
    · rw [if_neg c, if_neg (fun z => c (e.symm.trans z))]
      exact ⟨fun z => absurd (e.symm.trans z) c, fun z => absurd z c, r_up hR (by omega)⟩
/-! the other calls -/
theorem r_thr {N : Nat} {S J : sc_I} {v : Int32} (hR : r_R N S J) : r_R N S (sc_u J 3 0 0 v) := by
  obtain ⟨h1, h2, h3, ⟨⟨t0, t1, t2, t3, t4⟩, b0, b1, b2, b3, b4⟩, ⟨e0, e1, e2, e3, e4⟩, h6⟩ := hR
  exact ⟨h1, h2, h3, ⟨⟨t0, t1, t2, t3, t4⟩, b0, b1, b2, b3, b4⟩, ⟨e0, e1, e2, e3, e4⟩, h6⟩
theorem r_poke {N k : Nat} {S J : sc_I} {v : Int32} (hR : r_R N S J) : r_R N (sc_u S 4 0 k v) (sc_u J 4 9 k v) := by
  obtain ⟨h1, ⟨a1, a2, a3⟩, h3, ⟨⟨t0, t1, t2, t3, t4⟩, b0, b1, b2, b3, b4⟩, ⟨e0, e1, e2, e3, e4⟩, h6⟩ := hR
  refine ⟨h1, ⟨a1, ?_, a3⟩, h3, ⟨⟨t0, t1, t2, t3, t4⟩, b0, b1, b2, b3, b4⟩, ⟨e0, e1, e2, e3, e4⟩, h6⟩
  rw [sc_u_at, sc_u_at]
  exact r_up_row a2 rfl
theorem r_set {N k : Nat} {S J : sc_I} {v : Int32} (hR : r_R N S J) : r_R N (sc_u S 4 1 k v) (sc_u J 4 10 k v) := by
  obtain ⟨h1, ⟨a1, a2, a3⟩, h3, ⟨⟨t0, t1, t2, t3, t4⟩, b0, b1, b2, b3, b4⟩, ⟨e0, e1, e2, e3, e4⟩, h6⟩ := hR
  refine ⟨h1, ⟨?_, a2, a3⟩, h3, ⟨⟨t0, t1, t2, t3, t4⟩, b0, b1, b2, b3, b4⟩, ⟨e0, e1, e2, e3, e4⟩, h6⟩
  rw [sc_u_at, sc_u_at]
  exact r_up_row a1 rfl
theorem r_handler {N : Nat} {S J : sc_I} {v : Int32} (hR : r_R N S J) : r_R N (sc_u S 2 0 8 v) (sc_u J 3 0 22 v) := by
  obtain ⟨⟨s1, s2, s3, s4, s5, s6, s7, s8, s9, s10⟩, h2, h3, ⟨⟨t0, t1, t2, t3, t4⟩, b0, b1, b2, b3, b4⟩, ⟨e0, e1, e2, e3, e4⟩, h6⟩ := hR
  exact ⟨⟨s1, rfl, s3, s4, s5, s6, s7, s8, s9, s10⟩, h2, h3, ⟨⟨t0, t1, t2, t3, t4⟩, b0, b1, b2, b3, b4⟩, ⟨e0, e1, e2, e3, e4⟩, h6⟩
theorem r_start {N : Nat} {S J : sc_I} {v : Int32} (hR : r_R N S J) : r_R N (sc_u (sc_u (c_em5 S) 2 0 7 v) 2 0 11 0) (sc_u (sc_u (m_emp J) 3 0 21 v) 3 0 25 0) := by
  obtain ⟨⟨s1, s2, s3, s4, s5, s6, s7, s8, s9, s10⟩, h2, h3, ⟨⟨t0, t1, t2, t3, t4⟩, b0, b1, b2, b3, b4⟩, ⟨e0, e1, e2, e3, e4⟩, h6⟩ := hR
  exact ⟨⟨rfl, s2, s3, s4, rfl, s6, s7, s8, s9, Or.inl rfl⟩, h2, h3, ⟨⟨⟨rfl, Or.inl rfl, r_z⟩, ⟨rfl, Or.inl rfl, r_z⟩, ⟨rfl, Or.inl rfl, r_z⟩, ⟨rfl, Or.inl rfl, r_z⟩, ⟨rfl, Or.inl rfl, r_z⟩⟩, b0, b1, b2, b3, b4⟩, ⟨r_z, r_z, r_z, r_z, r_z⟩, h6⟩
/-- another instruction at place p -/
def c_put (p : Nat) (f : Nat → Int32) (S : sc_I) : sc_I := fun k i => bif (Nat.beq k 7 && Nat.beq i p) then f else S k i
theorem r_put {N : Nat} {S J : sc_I} {p o d s t n : Int32} {f : Nat → Int32} (hR : r_R N S J) (hp : 0 ≤ p ∧ p ≤ 63) (hk : m_pok o d s t n) (f0 : f 0 = o) (f1 : f 1 = d) (f2 : f 2 = s) (f3 : f 3 = t) (f4 : f 4 = n) : r_R N (c_put p.toNatClampNeg f S) (m_pt p o d s t n J) := by
  obtain ⟨h1, h2, ⟨h3, n0, n1, n2, n3, n4⟩, ⟨⟨t0, t1, t2, t3, t4⟩, b0, b1, b2, b3, b4⟩, ⟨e0, e1, e2, e3, e4⟩, h6⟩ := hR
  have hlt := r_lt (r_63 hp)
  have e64 : c_put p.toNatClampNeg f S 7 64 = S 7 64 := by
    unfold c_put
    rw [sc_beq_ne (show 64 ≠ p.toNatClampNeg by omega)]
    rfl
  refine ⟨h1, h2, ⟨?_, ?_⟩, ⟨⟨t0, t1, t2, t3, t4⟩, b0, b1, b2, b3, b4⟩, ⟨e0, e1, e2, e3, e4⟩, h6⟩
  · intro q hq
    have x4 : m_pt p o d s t n J 4 4 q = va_up (J 4 4) p.toNatClampNeg o q := congrFun (sc_u_at J 4 4 p.toNatClampNeg o) q
    have x5 : m_pt p o d s t n J 4 5 q = va_up (J 4 5) p.toNatClampNeg d q := congrFun (sc_u_at J 4 5 p.toNatClampNeg d) q
    have x6 : m_pt p o d s t n J 4 6 q = va_up (J 4 6) p.toNatClampNeg s q := congrFun (sc_u_at J 4 6 p.toNatClampNeg s) q
    have x7 : m_pt p o d s t n J 4 7 q = va_up (J 4 7) p.toNatClampNeg t q := congrFun (sc_u_at J 4 7 p.toNatClampNeg t) q
    have x8 : m_pt p o d s t n J 4 8 q = va_up (J 4 8) p.toNatClampNeg n q := congrFun (sc_u_at J 4 8 p.toNatClampNeg n) q
    rw [x4, x5, x6, x7, x8]
    by_cases e : q = p.toNatClampNeg
    · have ef : c_put p.toNatClampNeg f S 7 q = f := by
        unfold c_put
        rw [e, Nat.beq_refl, Nat.beq_refl]
        rfl
      rw [ef, e, va_up_self, va_up_self, va_up_self, va_up_self, va_up_self]
      exact ⟨⟨f0, f1, f2, f3, f4⟩, hk.1, hk.2.1, hk.2.2.1, hk.2.2.2.1⟩
    · have ef : c_put p.toNatClampNeg f S 7 q = S 7 q := by
        unfold c_put
        rw [sc_beq_ne e]
        rfl
      rw [ef, va_up_ne _ _ e, va_up_ne _ _ e, va_up_ne _ _ e, va_up_ne _ _ e, va_up_ne _ _ e]
      exact h3 q hq
  · rw [e64]
    exact ⟨n0, n1, n2, n3, n4⟩
/-! what is read -/
theorem r_peek {N : Nat} {S J : sc_I} {w : Int32} (hR : r_R N S J) (h : 0 ≤ w ∧ w ≤ 31) : S 4 0 w.toNatClampNeg = J 4 9 w.toNatClampNeg := hR.2.1.2.1 _ (r_lt (r_31 h))
theorem r_register {N : Nat} {S J : sc_I} {w : Int32} (hR : r_R N S J) (h : 0 ≤ w ∧ w ≤ 15) : S 4 1 w.toNatClampNeg = J 4 10 w.toNatClampNeg := hR.2.1.1 _ (r_lt (m_vr h (by decide) (by decide)))
theorem r_counter {N : Nat} {S J : sc_I} {w : Int32} (hR : r_R N S J) (h : 0 ≤ w ∧ w ≤ 7) : S 4 2 w.toNatClampNeg = J 4 11 w.toNatClampNeg := (hR.2.1.2.2 _ (r_lt (m_vr h (by decide) (by decide)))).1
theorem r_count {N : Nat} {S J : sc_I} {w : Int32} (hR : r_R N S J) : c_cnt w S = m_cnt w J := by
  obtain ⟨⟨s1, s2, s3, s4, s5, s6, s7, s8, s9, s10⟩, h2, h3, h4, h5, h0, h6⟩ := hR
  unfold c_cnt m_cnt
  rw [s6, h0, s7, s8, s9, s1, s3, s4, s5]
theorem r_stage {N : Nat} {S J : sc_I} {w : Int32} (hR : r_R N S J) (h : 0 ≤ w ∧ w ≤ 4) : S 0 w.toNatClampNeg 0 = J 5 0 w.toNatClampNeg ∧ (¬ J 5 0 w.toNatClampNeg = 0 → S 0 w.toNatClampNeg 2 = J 4 12 w.toNatClampNeg) := by
  have hl : w.toNatClampNeg < 5 := r_lt (m_vr h (by decide) (by decide))
  obtain ⟨t0, t1, t2, t3, t4⟩ := hR.2.2.2.1.1
  generalize w.toNatClampNeg = i at *
  have hj : i = 0 ∨ i = 1 ∨ i = 2 ∨ i = 3 ∨ i = 4 := by omega
  rcases hj with rfl | rfl | rfl | rfl | rfl
  · exact ⟨t0.1, fun z => (t0.2.2 (r_01 t0.2.1 z)).1⟩
  · exact ⟨t1.1, fun z => (t1.2.2 (r_01 t1.2.1 z)).1⟩
  · exact ⟨t2.1, fun z => (t2.2.2 (r_01 t2.2.1 z)).1⟩
  · exact ⟨t3.1, fun z => (t3.2.2 (r_01 t3.2.1 z)).1⟩
  · exact ⟨t4.1, fun z => (t4.2.2 (r_01 t4.2.1 z)).1⟩
