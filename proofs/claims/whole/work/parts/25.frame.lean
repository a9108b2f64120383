theorem r_nsub {a b : Nat} (h : b ≤ a) : nI a - nI b = nI (a - b) := by
  have e : nI a = nI (a - b) + nI b := by rw [nI_add, Nat.sub_add_cancel h]
  rw [e, Int32.add_sub_cancel]
theorem r_m16 {n : Nat} (hn : n < 2 ^ 30) : c_m16 (nI n) = nI (min n 16) := by
  unfold c_m16
  by_cases c : 16 < n
  · rw [if_pos (show (16 : Int32) < nI n from nI_lt (a := 16) c (by omega)), Nat.min_eq_right (by omega)]
    rfl
  · rw [if_neg (show ¬ (16 : Int32) < nI n from nI_nlt (b := 16) (a := n) |> fun h => fun z => by
      have := Int32.lt_iff_toInt_lt.mp z
      rw [nI_toInt (by omega), show (16 : Int32).toInt = 16 from rfl] at this
      omega), Nat.min_eq_left (by omega)]
theorem r_retired {N : Nat} {S J : sc_I} {w : Int32} (hR : r_R N S J) (hN : N < 2 ^ 30) : ((0 ≤ w ∧ w ≤ J 3 0 31 - 1) ↔ (0 ≤ w ∧ w < c_m16 (S 2 0 13))) ∧ ((0 ≤ w ∧ w ≤ J 3 0 31 - 1) → vp_in w 16 ∧ vp_in (c_rm (S 2 0 13 - 1 - w)) 16 ∧ S 4 3 (c_rm (S 2 0 13 - 1 - w)).toNatClampNeg = J 4 22 w.toNatClampNeg) := by
  obtain ⟨h1, h2, h3, h4, h5, h0, n, hn, h6, h7, h8⟩ := hR
  have em : c_m16 (S 2 0 13) = nI (min n 16) := by rw [h0, h6, r_m16 (by omega)]
  have hm : min n 16 ≤ 16 := Nat.min_le_right _ _
  have hm2 : min n 16 ≤ n := Nat.min_le_left _ _
  have eq : (0 ≤ w ∧ w ≤ J 3 0 31 - 1) ↔ (0 ≤ w ∧ w < c_m16 (S 2 0 13)) := by
    rw [em, h7, Int32.le_iff_toInt_le, Int32.le_iff_toInt_le, Int32.lt_iff_toInt_lt, show (nI (min n 16) - 1).toInt = _ from pk_sub_toInt (b := 1) (by omega) (by decide), nI_toInt (by omega), show (0 : Int32).toInt = 0 from rfl]
    omega
  refine ⟨eq, fun h => ?_⟩
  have h' := eq.mp h
  rw [em] at h'
  have hv : vp_in w (min n 16) := by
    apply vp_in_iff.mpr
    have a := Int32.le_iff_toInt_le.mp h'.1
    have b := Int32.lt_iff_toInt_lt.mp h'.2
    rw [nI_toInt (by omega)] at b
    exact ⟨a, b⟩
  obtain ⟨j, hj, rfl⟩ := vp_in_of hv (by omega)
  have es : S 2 0 13 - 1 - nI j = nI (n - 1 - j) := by
    rw [h0, h6, show nI n - 1 = nI (n - 1) from r_nsub (b := 1) (by omega), r_nsub (by omega)]
  rw [es, r_rm (by omega), nI_clamp (by omega), nI_clamp (by omega)]
  exact ⟨vp_in_nI (by omega) (by decide), vp_in_nI (by omega) (by decide), h8 j (by omega) (by omega)⟩
/-! the reference's part of a state and the class' part -/
def m_F (J X : sc_I) : Prop := ∀ k i, ¬ c_mp k i → X k i = J k i
theorem m_F.r (J : sc_I) : m_F J J := fun _ _ _ => rfl
theorem m_F.t {J X Y : sc_I} (a : m_F J X) (b : m_F X Y) : m_F J Y := fun k i h => (b k i h).trans (a k i h)
theorem m_F.u3 {J X : sc_I} {s : Nat} {v : Int32} (a : m_F J X) : m_F J (sc_u X 3 0 s v) := fun k i h => (sc_u_row _ _ _ _ _ (fun e => h (Or.inl e.1))).trans (a k i h)
theorem m_F.u5 {J X : sc_I} {s : Nat} {v : Int32} (a : m_F J X) : m_F J (sc_u X 5 0 s v) := fun k i h => (sc_u_row _ _ _ _ _ (fun e => h (Or.inr (Or.inl e.1)))).trans (a k i h)
theorem m_F.u4 {J X : sc_I} {r s : Nat} {v : Int32} (a : m_F J X) (hr : 4 ≤ r) : m_F J (sc_u X 4 r s v) := fun k i h => (sc_u_row _ _ _ _ _ (fun e => h (Or.inr (Or.inr ⟨e.1, by omega⟩)))).trans (a k i h)
theorem m_F_emp (J : sc_I) : m_F J (m_emp J) := (m_F.r J).u5.u5.u5.u5.u5
theorem m_F_row {r i : Nat} (J : sc_I) (hr : 4 ≤ r) : m_F J (m_row r i J) := (m_F.r J).u4 hr
theorem m_F_move (i : Nat) (J : sc_I) : m_F J (m_move i J) := by
  unfold m_move
  refine m_F.t ?_ (m_F_row _ (by decide))
  refine m_F.t ?_ (m_F_row _ (by decide))
  refine m_F.t ?_ (m_F_row _ (by decide))
  refine m_F.t ?_ (m_F_row _ (by decide))
  refine m_F.t ?_ (m_F_row _ (by decide))
  refine m_F.t ?_ (m_F_row _ (by decide))
  refine m_F.t ?_ (m_F_row _ (by decide))
  refine m_F.t ?_ (m_F_row _ (by decide))
  refine m_F.t ?_ (m_F_row _ (by decide))
  refine m_F.t ?_ (m_F_row _ (by decide))
  exact (m_F.r J).u5.u5
theorem m_F_sh (k : Int32) (J : sc_I) : m_F J (m_sh k J) := (m_F.r J).u4 (by decide)
theorem m_F_shift (J : sc_I) : m_F J (m_shift J) := by
  unfold m_shift
  repeat (first | exact m_F_sh _ J | refine m_F.t ?_ (m_F_sh _ _))
theorem m_F_note (k : Int32) (J : sc_I) : m_F J (m_note k J) := ((m_F.r J).u3.t (m_F_shift _)).u4 (by decide) |>.u3
theorem m_F_lv (J : sc_I) : m_F J (m_lv J) := by
  unfold m_lv
  split
  · exact m_F.r J
  · split
    · split
      · exact (m_F.r J).u5.u3.t (m_F_emp _)
      · split
        · exact ((m_F.r J).u5.u4 (by decide)).t (m_F_note _ _)
        · exact (m_F.r J).u5.t (m_F_note _ _)
    · exact (m_F.r J).u5.u3.u3.u3.u3.t (m_F_emp _)
theorem m_F_rem (J : sc_I) : m_F J (m_rem J) := by
  unfold m_rem
  split
  · exact m_F.r J
  · split
    · split
      · exact (m_F_move 3 J).u4 (by decide)
      · split
        · exact (m_F_move 3 J).u4 (by decide)
        · exact m_F_move 3 J
    · exact m_F_move 3 J
theorem m_F_wk (J : sc_I) : m_F J (m_wkS J) := by
  unfold m_wkS
  split
  · split
    · exact (m_F.r J).u4 (by decide)
    · split
      · exact (m_F.r J).u4 (by decide)
      · split
        · exact (((m_F.r J).u4 (by decide)).u4 (by decide)).u4 (by decide)
        · split
          · exact ((m_F.r J).u4 (by decide)).u4 (by decide)
          · split
            · exact (m_F.r J).u4 (by decide)
            · split
              · exact ((m_F.r J).u4 (by decide)).u4 (by decide)
              · exact (m_F.r J).u4 (by decide)
  · exact ((m_F.r J).u4 (by decide)).u4 (by decide)
theorem m_F_fin (J : sc_I) : m_F J (m_fin J) := by
  unfold m_fin
  refine m_F.t ?_ (m_F_move 2 _)
  split
  · exact (m_F_wk J).u3.u5.u5.u3
  · exact m_F_wk J
theorem m_F_rch (q : Int32) (J : sc_I) : m_F J (m_rch q J) := by
  unfold m_rch
  split
  · exact m_F.r J
  · split
    · exact (m_F.r J).u3
    · split
      · exact (m_F.r J).u3.t (m_F_fin _)
      · exact (m_F.r J).u3.u3
theorem m_F_fk (nx : Int32) (J : sc_I) : m_F J (m_fk nx J) := by
  unfold m_fk
  exact ((((((((((m_F.r J).u5.u4 (by decide)).u4 (by decide)).u4 (by decide)).u4 (by decide)).u4 (by decide)).u4 (by decide)).u4 (by decide)).u3).u4 (by decide))
theorem m_F_fu (nx : Int32) (J : sc_I) : m_F J (m_fu nx J) := by
  unfold m_fu
  exact ((((((((((m_F.r J).u5.u4 (by decide)).u4 (by decide)).u4 (by decide)).u4 (by decide)).u4 (by decide)).u4 (by decide)).u4 (by decide)).u3).u4 (by decide))
theorem m_F_cyc (J : sc_I) : m_F J (m_cyc J) := by
  have hT : m_F J (m_tick J) := (m_F.r J).u3
  unfold m_cyc
  split
  · exact hT.t (m_F_lv _)
  · refine m_F.t ((((hT.t (m_F_lv _)).t (m_F_rem _)).t (m_F_rch (m_ldd (m_tick J)) _))) ?_
    generalize m_rch _ _ = X
    have h1 : m_F X (m_mv1 X) := by
      unfold m_mv1
      split
      · exact (m_F_move 1 X).u3
      · exact m_F.r X
    have h2 : ∀ Y, m_F Y (m_mv0 Y) := by
      intro Y
      unfold m_mv0
      split
      · exact m_F_move 0 Y
      · exact m_F.r Y
    have h3 : ∀ Y, m_F Y (m_ft0 Y) := by
      intro Y
      unfold m_ft0 m_ftc
      split
      · split
        · split
          · exact m_F_fk _ Y
          · exact m_F_fk _ Y
        · exact m_F_fu _ Y
      · exact m_F.r Y
    exact (h1.t (h2 _)).t (h3 _)
theorem m_F_run : ∀ (n : Nat) (J : sc_I), m_F J (m_run n J) := by
  intro n
  induction n with
  | zero => exact fun J => m_F.r J
  | succ n ih =>
    intro J
    unfold m_run
    split
    · exact (m_F_cyc J).t (ih _)
    · exact m_F.r J
theorem m_F_pt (p o d s t n : Int32) (J : sc_I) : m_F J (m_pt p o d s t n J) := (((((m_F.r J).u4 (by decide)).u4 (by decide)).u4 (by decide)).u4 (by decide)).u4 (by decide)
/-- the class' view stays when only the reference's part changes -/
theorem c_AB.f {I I' : sc_I} {D : sc_R} {S : sc_I} (h : c_AB I D S) (hf : m_F I I') : c_AB I' D S := by
  obtain ⟨h1, h2, h3, h4, h5, h6, h7⟩ := h
  have n0 : ∀ i, ¬ c_mp 0 i := fun i z => by unfold c_mp at z; omega
  have n1 : ∀ i, ¬ c_mp 1 i := fun i z => by unfold c_mp at z; omega
  have n2 : ∀ i, ¬ c_mp 2 i := fun i z => by unfold c_mp at z; omega
  have n4 : ∀ i, i < 4 → ¬ c_mp 4 i := fun i hi z => by unfold c_mp at z; omega
  exact ⟨h1, fun i hi => (hf 0 _ (n0 _)).trans (h2 i hi), fun i hi => (hf 1 _ (n1 _)).trans (h3 i hi), fun i hi => (hf 1 _ (n1 _)).trans (h4 i hi), (hf 1 _ (n1 _)).trans h5, (hf 2 _ (n2 _)).trans h6, fun j hj => (hf 4 _ (n4 _ hj)).trans (h7 j hj)⟩
/-- the relation reads only the reference's part -/
def m_pr (J : sc_I) : sc_I := fun k i => bif (Nat.beq k 3 || (Nat.beq k 5 || (Nat.beq k 4 && Nat.ble 4 i))) then J k i else fun _ => 0
theorem m_pr_R {N : Nat} {S J : sc_I} (hR : r_R N S J) : r_R N S (m_pr J) := by
  obtain ⟨h1, h2, h3, ⟨⟨t0, t1, t2, t3, t4⟩, b0, b1, b2, b3, b4⟩, ⟨e0, e1, e2, e3, e4⟩, h6⟩ := hR
  exact ⟨h1, h2, h3, ⟨⟨t0, t1, t2, t3, t4⟩, b0, b1, b2, b3, b4⟩, ⟨e0, e1, e2, e3, e4⟩, h6⟩
theorem m_pr_R' {N : Nat} {S J : sc_I} (hR : r_R N S (m_pr J)) : r_R N S J := by
  obtain ⟨h1, h2, h3, ⟨⟨t0, t1, t2, t3, t4⟩, b0, b1, b2, b3, b4⟩, ⟨e0, e1, e2, e3, e4⟩, h6⟩ := hR
  exact ⟨h1, h2, h3, ⟨⟨t0, t1, t2, t3, t4⟩, b0, b1, b2, b3, b4⟩, ⟨e0, e1, e2, e3, e4⟩, h6⟩
theorem r_MS {N : Nat} {S I I' : sc_I} (hR : r_R N S I) (h : c_MS I I') : r_R N S I' := by
  have e : m_pr I' = m_pr I := by
    funext k i
    unfold m_pr
    cases hb : (Nat.beq k 3 || (Nat.beq k 5 || (Nat.beq k 4 && Nat.ble 4 i)))
    · rfl
    · have hm : c_mp k i := by
        rw [Bool.or_eq_true, Bool.or_eq_true, Bool.and_eq_true] at hb
        rcases hb with z | z | z
        · exact Or.inl (Nat.eq_of_beq_eq_true z)
        · exact Or.inr (Or.inl (Nat.eq_of_beq_eq_true z))
        · exact Or.inr (Or.inr ⟨Nat.eq_of_beq_eq_true z.1, Nat.le_of_ble_eq_true z.2⟩)
      exact h k i hm
  exact m_pr_R' (e ▸ m_pr_R hR)
