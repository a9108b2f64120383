/-! the class' state S and the reference's state J -/
def r_B (x : Int32) : Prop := 0 ≤ x ∧ x ≤ 15
def r_O (x : Int32) : Prop := 0 ≤ x ∧ x ≤ 19
def r_sc (S J : sc_I) : Prop := S 2 0 7 = J 3 0 21 ∧ S 2 0 8 = J 3 0 22 ∧ S 2 0 9 = J 3 0 23 ∧ S 2 0 10 = J 3 0 24 ∧ S 2 0 11 = J 3 0 25 ∧ S 2 0 12 = J 3 0 26 ∧ S 2 0 14 = J 3 0 28 ∧ S 2 0 15 = J 3 0 29 ∧ S 2 0 16 = J 3 0 30 ∧ (J 3 0 25 = 0 ∨ J 3 0 25 = 1)
def r_ar (S J : sc_I) : Prop := (∀ x, x < 16 → S 4 1 x = J 4 10 x) ∧ (∀ x, x < 32 → S 4 0 x = J 4 9 x) ∧ (∀ x, x < 8 → S 4 2 x = J 4 11 x ∧ 0 ≤ S 4 2 x ∧ S 4 2 x ≤ 3)
def r_pg (S J : sc_I) : Prop := (∀ p, p < 64 → (S 7 p 0 = J 4 4 p ∧ S 7 p 1 = J 4 5 p ∧ S 7 p 2 = J 4 6 p ∧ S 7 p 3 = J 4 7 p ∧ S 7 p 4 = J 4 8 p) ∧ r_O (J 4 4 p) ∧ r_B (J 4 5 p) ∧ r_B (J 4 6 p) ∧ r_B (J 4 7 p)) ∧ S 7 64 0 = 19 ∧ S 7 64 1 = 0 ∧ S 7 64 2 = 0 ∧ S 7 64 3 = 0 ∧ S 7 64 4 = 0
def r_st (S J : sc_I) (i : Nat) : Prop := S 0 i 0 = J 5 0 i ∧ (J 5 0 i = 0 ∨ J 5 0 i = 1) ∧ (J 5 0 i = 1 → S 0 i 2 = J 4 12 i ∧ S 1 i 0 = J 4 13 i ∧ S 1 i 1 = J 4 14 i ∧ S 1 i 2 = J 4 15 i ∧ S 1 i 3 = J 4 16 i ∧ S 1 i 4 = J 4 17 i ∧ S 0 i 3 = J 4 18 i ∧ S 0 i 5 = J 4 21 i ∧ 0 ≤ S 0 i 5)
def r_bd (S J : sc_I) (i : Nat) : Prop := r_O (S 1 i 0) ∧ r_B (S 1 i 1) ∧ r_B (S 1 i 2) ∧ r_B (S 1 i 3) ∧ r_B (J 4 14 i) ∧ r_B (J 4 15 i) ∧ r_B (J 4 16 i)
def r_5 (S J : sc_I) : Prop := (r_st S J 0 ∧ r_st S J 1 ∧ r_st S J 2 ∧ r_st S J 3 ∧ r_st S J 4) ∧ r_bd S J 0 ∧ r_bd S J 1 ∧ r_bd S J 2 ∧ r_bd S J 3 ∧ r_bd S J 4
def r_e0 (S J : sc_I) (i : Nat) : Prop := J 5 0 i = 1 → S 0 i 4 = 0 ∧ (¬ S 0 i 5 = 0 → S 1 i 0 = 19)
def r_e2 (S J : sc_I) : Prop := J 5 0 2 = 1 → (¬ S 0 2 5 = 0 → S 1 2 0 = 19) ∧ 0 ≤ S 0 2 4 ∧ S 0 2 4 < sc_wc (S 1 2 0) ∧ J 3 0 20 = sc_wc (S 1 2 0) - S 0 2 4
def r_e3 (S J : sc_I) : Prop := J 5 0 3 = 1 → S 0 3 5 = 0 → (¬ S 1 3 0 = 11 → S 0 3 7 = J 4 19 3) ∧ ((S 1 3 0 = 11 ∨ S 1 3 0 = 12) → S 0 3 6 = J 4 20 3 ∧ 0 ≤ S 0 3 6 ∧ S 0 3 6 ≤ 31)
def r_e4 (S J : sc_I) : Prop := J 5 0 4 = 1 → S 0 4 5 = 0 → S 0 4 7 = J 4 19 4
def r_e (S J : sc_I) : Prop := r_e0 S J 0 ∧ r_e0 S J 1 ∧ r_e2 S J ∧ r_e3 S J ∧ r_e4 S J
def r_h (N : Nat) (S J : sc_I) : Prop := S 2 0 13 = J 3 0 27 ∧ ∃ n : Nat, n ≤ N ∧ J 3 0 27 = nI n ∧ J 3 0 31 = nI (min n 16) ∧ ∀ i, i < 16 → i < n → S 4 3 ((n - 1 - i) % 16) = J 4 22 i
def r_R (N : Nat) (S J : sc_I) : Prop := r_sc S J ∧ r_ar S J ∧ r_pg S J ∧ r_5 S J ∧ r_e S J ∧ r_h N S J
theorem r_tick {N : Nat} {S J : sc_I} (h : r_R N S J) : r_R N (c_tick S) (m_tick J) := by
  obtain ⟨⟨s1, s2, s3, s4, s5, s6, s7, s8, s9, s10⟩, ha, hp, h5, he, hh⟩ := h
  exact ⟨⟨s1, s2, s3, s4, s5, congrArg (· + 1) s6, s7, s8, s9, s10⟩, ha, hp, h5, he, hh⟩
theorem r_h_up {N : Nat} {S J : sc_I} (h : r_h N S J) : r_h (N + 1) S J := by
  obtain ⟨h0, n, h1, h2⟩ := h
  exact ⟨h0, n, by omega, h2⟩
theorem r_up_row {A B : Nat → Int32} {k n : Nat} {v w : Int32} (h : ∀ x, x < n → A x = B x) (hv : v = w) : ∀ x, x < n → va_up A k v x = va_up B k w x := by
  intro x hx
  unfold va_up
  rw [h x hx, hv]
theorem r_sh (J : sc_I) : ∀ k, k < 15 → m_shift J 4 22 (k + 1) = J 4 22 k := by
  intro k hk
  match k, hk with
  | 0, _ => rfl
  | 1, _ => rfl
  | 2, _ => rfl
  | 3, _ => rfl
  | 4, _ => rfl
  | 5, _ => rfl
  | 6, _ => rfl
  | 7, _ => rfl
  | 8, _ => rfl
  | 9, _ => rfl
  | 10, _ => rfl
  | 11, _ => rfl
  | 12, _ => rfl
  | 13, _ => rfl
  | 14, _ => rfl
theorem r_rm {n : Nat} (h : n < 2 ^ 31) : c_rm (nI n) = nI (n % 16) := pk_rem (d := 16) h (by decide) (by decide)
theorem r_kept {n : Nat} : m_kept (nI (min n 16)) = nI (min (n + 1) 16) := by
  unfold m_kept
  by_cases h : n < 16
  · rw [Nat.min_eq_left (by omega), Nat.min_eq_left (by omega), if_pos (show nI n < 16 from nI_lt (b := 16) h (by decide)), nI_1]
  · rw [Nat.min_eq_right (by omega), Nat.min_eq_right (by omega)]
    rfl
/-- the history, one more -/
theorem r_hist {n : Nat} {A B : Nat → Int32} {v : Int32} {M : Nat → Int32} (h : ∀ i, i < 16 → i < n → A ((n - 1 - i) % 16) = B i) (h0 : M 0 = v) (hs : ∀ k, k < 15 → M (k + 1) = B k) : ∀ i, i < 16 → i < n + 1 → va_up A (n % 16) v ((n + 1 - 1 - i) % 16) = M i := by
  intro i hi hn
  cases i with
  | zero =>
    rw [h0, show (n + 1 - 1 - 0) % 16 = n % 16 by omega, va_up_self]
  | succ k =>
    rw [hs k (by omega), va_up_ne _ _ (by omega), ← h k (by omega) (by omega)]
    congr 1
    omega
theorem r_Bv {x : Int32} (h : r_B x) : vp_in x 16 := m_vr h (by decide) (by decide)
theorem r_01 {x : Int32} (h : x = 0 ∨ x = 1) (h0 : ¬ x = 0) : x = 1 := h.resolve_left h0
theorem r_wd {x : Int32} (h : r_O x) : c_wd x ↔ m_wdD x := by
  have := h.1
  unfold c_wd m_wdD
  constructor
  · rintro (a | a)
    · exact Or.inl ⟨this, a⟩
    · exact Or.inr a
  · rintro (a | a)
    · exact Or.inl a.2
    · exact Or.inr a
/-- a flight leaves WRITTEN -/
theorem r_lv {N : Nat} {S J : sc_I} (hR : r_R N S J) (hN : N < 2 ^ 30) : (c_end S ↔ m_end J) ∧ r_R (N + 1) (c_lv S) (m_lv J) ∧ (¬ m_end J → m_lv J 5 0 4 = 0) := by
  obtain ⟨⟨s1, s2, s3, s4, s5, s6, s7, s8, s9, s10⟩, ⟨a1, a2, a3⟩, hp, ⟨⟨t0, t1, t2, t3, t4⟩, b0, b1, b2, b3, b4⟩, ⟨e0, e1, e2, e3, e4⟩, hh⟩ := id hR
  by_cases h0 : J 5 0 4 = 0
  · have h0' : S 0 4 0 = 0 := t4.1.trans h0
    refine ⟨⟨fun z => absurd h0' z.1, fun z => absurd h0 z.1⟩, ?_, fun _ => ?_⟩
    · unfold c_lv m_lv
      rw [if_pos h0, if_pos h0']
      exact ⟨hR.1, hR.2.1, hR.2.2.1, hR.2.2.2.1, hR.2.2.2.2.1, r_h_up hh⟩
    · unfold m_lv
      rw [if_pos h0]
      exact h0
  have h01 : J 5 0 4 = 1 := r_01 t4.2.1 h0
  have h0' : ¬ S 0 4 0 = 0 := fun z => h0 (t4.1.symm.trans z)
  obtain ⟨q1, q2, q3, q4, q5, q6, q7, q8, q9⟩ := t4.2.2 h01
  by_cases hf : S 0 4 5 = 0
  · have hf' : J 4 21 4 ≤ 0 := by rw [← q8, hf]; decide
    by_cases hl : S 1 4 0 = 18
    · have hl' : J 4 13 4 = 18 := q2.symm.trans hl
      refine ⟨⟨fun _ => ⟨h0, Or.inr hl'⟩, fun _ => ⟨h0', Or.inr hl⟩⟩, ?_, fun z => absurd ⟨h0, Or.inr hl'⟩ z⟩
      unfold c_lv m_lv
      rw [if_neg h0, if_neg h0', if_pos hf, if_pos hf', if_pos hl, if_pos hl']
      have z : ∀ {A : Prop}, ((0 : Int32) = 1 → A) := fun h => absurd h (by decide)
      exact ⟨⟨s1, s2, s3, s4, rfl, s6, s7, s8, s9, Or.inr rfl⟩, ⟨a1, a2, a3⟩, hp, ⟨⟨⟨rfl, Or.inl rfl, z⟩, ⟨rfl, Or.inl rfl, z⟩, ⟨rfl, Or.inl rfl, z⟩, ⟨rfl, Or.inl rfl, z⟩, ⟨rfl, Or.inl rfl, z⟩⟩, b0, b1, b2, b3, b4⟩, ⟨z, z, z, z, z⟩, r_h_up hh⟩
    · have hl' : ¬ J 4 13 4 = 18 := fun z => hl (q2.trans z)
      refine ⟨⟨fun w => absurd w.2 (fun y => y.elim (fun x => x hf) hl), fun w => absurd w.2 (fun y => y.elim (fun x => x hf') hl')⟩, ?_, fun _ => ?_⟩
      · obtain ⟨hh0, n, n1, n2, n3, n4⟩ := hh
        have enc : (c_rm (S 2 0 13)).toNatClampNeg = n % 16 := by
          rw [hh0, n2, r_rm (by omega), nI_clamp (by omega)]
        have z : ∀ {A : Prop}, ((0 : Int32) = 1 → A) := fun h => absurd h (by decide)
        have eh : ∀ i, i < 16 → i < n + 1 → va_up (S 4 3) (n % 16) (S 0 4 2) ((n + 1 - 1 - i) % 16) = va_up (m_shift J 4 22) 0 (J 4 12 4) i := r_hist n4 (by rw [va_up_self, q1]) (fun k hk => by rw [va_up_ne _ _ (by omega)]; exact r_sh J k hk)
        unfold c_lv m_lv
        rw [if_neg h0, if_neg h0', if_pos hf, if_pos hf', if_neg hl, if_neg hl']
        unfold c_ret c_reg
        by_cases hw : c_wr S 4 (S 1 4 1)
        · have hw' : m_wdD (J 4 13 4) ∧ ¬ J 4 14 4 = 0 := by
            rw [← q2, ← q3]
            exact ⟨(r_wd b4.1).mp hw.2.2.2.1, hw.2.2.1⟩
          rw [if_pos hw, if_pos hw', enc]
          refine ⟨⟨s1, s2, s3, s4, s5, s6, s7, s8, s9, s10⟩, ⟨?_, a2, a3⟩, hp, ⟨⟨t0, t1, t2, t3, ⟨rfl, Or.inl rfl, z⟩⟩, b0, b1, b2, b3, b4⟩, ⟨e0, e1, e2, e3, z⟩, congrArg (· + 1) hh0, n + 1, by omega, ?_, ?_, ?_⟩
          · intro x hx
            show sc_u S 4 1 _ _ 4 1 x = sc_u (sc_u J 5 0 4 0) 4 10 _ _ 4 10 x
            rw [sc_u_at, sc_u_at, q3]
            exact r_up_row a1 (e4 h01 hf) x hx
          · show J 3 0 27 + 1 = nI (n + 1)
            rw [n2, nI_1]
          · show m_kept (J 3 0 31) = _
            rw [n3, r_kept]
          · intro i hi hin
            show sc_u (sc_u S 4 1 _ _) 4 3 (n % 16) (S 0 4 2) 4 3 _ = sc_u (m_shift _) 4 22 0 _ 4 22 i
            rw [sc_u_at, sc_u_at]
            exact eh i hi hin
        · have hw' : ¬ (m_wdD (J 4 13 4) ∧ ¬ J 4 14 4 = 0) := by
            rw [← q2, ← q3]
            exact fun y => hw ⟨h0', hf, y.2, (r_wd b4.1).mpr y.1, rfl⟩
          rw [if_neg hw, if_neg hw', enc]
          refine ⟨⟨s1, s2, s3, s4, s5, s6, s7, s8, s9, s10⟩, ⟨a1, a2, a3⟩, hp, ⟨⟨t0, t1, t2, t3, ⟨rfl, Or.inl rfl, z⟩⟩, b0, b1, b2, b3, b4⟩, ⟨e0, e1, e2, e3, z⟩, congrArg (· + 1) hh0, n + 1, by omega, ?_, ?_, ?_⟩
          · show J 3 0 27 + 1 = nI (n + 1)
            rw [n2, nI_1]
          · show m_kept (J 3 0 31) = _
            rw [n3, r_kept]
          · intro i hi hin
            show sc_u S 4 3 (n % 16) (S 0 4 2) 4 3 _ = sc_u (m_shift _) 4 22 0 _ 4 22 i
            rw [sc_u_at, sc_u_at]
            exact eh i hi hin
      · unfold m_lv
        rw [if_neg h0, if_pos hf', if_neg hl']
        split <;> rfl
  · have hf' : ¬ J 4 21 4 ≤ 0 := by
      rw [← q8]
      intro w
      exact hf (Int32.le_antisymm w q9)
    refine ⟨⟨fun _ => ⟨h0, Or.inl hf'⟩, fun _ => ⟨h0', Or.inl hf⟩⟩, ?_, fun z => absurd ⟨h0, Or.inl hf'⟩ z⟩
    unfold c_lv m_lv
    rw [if_neg h0, if_neg h0', if_neg hf, if_neg hf']
    have z : ∀ {A : Prop}, ((0 : Int32) = 1 → A) := fun h => absurd h (by decide)
    exact ⟨⟨s2, s2, q8, q1, s5, s6, s7, s8, congrArg (· + 1) s9, s10⟩, ⟨a1, a2, a3⟩, hp, ⟨⟨⟨rfl, Or.inl rfl, z⟩, ⟨rfl, Or.inl rfl, z⟩, ⟨rfl, Or.inl rfl, z⟩, ⟨rfl, Or.inl rfl, z⟩, ⟨rfl, Or.inl rfl, z⟩⟩, b0, b1, b2, b3, b4⟩, ⟨z, z, z, z, z⟩, r_h_up hh⟩
