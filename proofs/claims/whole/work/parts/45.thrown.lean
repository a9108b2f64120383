/-! the cycles leave 'thrown' as it was -/
def m_T (J X : sc_I) : Prop := X 3 0 0 = J 3 0 0
theorem m_T.r (J : sc_I) : m_T J J := rfl
theorem m_T.t {J X Y : sc_I} (a : m_T J X) (b : m_T X Y) : m_T J Y := Eq.trans b a
theorem m_T.u3 {J X : sc_I} {s : Nat} {v : Int32} (a : m_T J X) (hs : s ≠ 0 := by decide) : m_T J (sc_u X 3 0 s v) := by
  unfold m_T at *
  rw [sc_u_at, va_up_ne _ _ (fun e => hs e.symm), a]
theorem m_T.u5 {J X : sc_I} {s : Nat} {v : Int32} (a : m_T J X) : m_T J (sc_u X 5 0 s v) := by
  unfold m_T at *
  rw [sc_u_row _ _ _ _ _ (fun e => absurd e.1 (by decide)), a]
theorem m_T.u4 {J X : sc_I} {r s : Nat} {v : Int32} (a : m_T J X) (_ : 4 ≤ r) : m_T J (sc_u X 4 r s v) := by
  unfold m_T at *
  rw [sc_u_row _ _ _ _ _ (fun e => absurd e.1 (by decide)), a]
theorem m_T_emp (J : sc_I) : m_T J (m_emp J) := (m_T.r J).u5.u5.u5.u5.u5
theorem m_T_row {r i : Nat} (J : sc_I) (hr : 4 ≤ r) : m_T J (m_row r i J) := (m_T.r J).u4 hr
theorem m_T_move (i : Nat) (J : sc_I) : m_T J (m_move i J) := by
  unfold m_move
  refine m_T.t ?_ (m_T_row _ (by decide))
  refine m_T.t ?_ (m_T_row _ (by decide))
  refine m_T.t ?_ (m_T_row _ (by decide))
  refine m_T.t ?_ (m_T_row _ (by decide))
  refine m_T.t ?_ (m_T_row _ (by decide))
  refine m_T.t ?_ (m_T_row _ (by decide))
  refine m_T.t ?_ (m_T_row _ (by decide))
  refine m_T.t ?_ (m_T_row _ (by decide))
  refine m_T.t ?_ (m_T_row _ (by decide))
  refine m_T.t ?_ (m_T_row _ (by decide))
  exact (m_T.r J).u5.u5
theorem m_T_sh (k : Int32) (J : sc_I) : m_T J (m_sh k J) := (m_T.r J).u4 (by decide)
theorem m_T_shift (J : sc_I) : m_T J (m_shift J) := by
  unfold m_shift
  repeat (first | exact m_T_sh _ J | refine m_T.t ?_ (m_T_sh _ _))
theorem m_T_note (k : Int32) (J : sc_I) : m_T J (m_note k J) := ((m_T.r J).u3.t (m_T_shift _)).u4 (by decide) |>.u3
theorem m_T_lv (J : sc_I) : m_T J (m_lv J) := by
  unfold m_lv
  split
  · exact m_T.r J
  · split
    · split
      · exact (m_T.r J).u5.u3.t (m_T_emp _)
      · split
        · exact ((m_T.r J).u5.u4 (by decide)).t (m_T_note _ _)
        · exact (m_T.r J).u5.t (m_T_note _ _)
    · exact (m_T.r J).u5.u3.u3.u3.u3.t (m_T_emp _)
theorem m_T_rem (J : sc_I) : m_T J (m_rem J) := by
  unfold m_rem
  split
  · exact m_T.r J
  · split
    · split
      · exact (m_T_move 3 J).u4 (by decide)
      · split
        · exact (m_T_move 3 J).u4 (by decide)
        · exact m_T_move 3 J
    · exact m_T_move 3 J
theorem m_T_wk (J : sc_I) : m_T J (m_wkS J) := by
  unfold m_wkS
  split
  · split
    · exact (m_T.r J).u4 (by decide)
    · split
      · exact (m_T.r J).u4 (by decide)
      · split
        · exact (((m_T.r J).u4 (by decide)).u4 (by decide)).u4 (by decide)
        · split
          · exact ((m_T.r J).u4 (by decide)).u4 (by decide)
          · split
            · exact (m_T.r J).u4 (by decide)
            · split
              · exact ((m_T.r J).u4 (by decide)).u4 (by decide)
              · exact (m_T.r J).u4 (by decide)
  · exact ((m_T.r J).u4 (by decide)).u4 (by decide)
theorem m_T_fin (J : sc_I) : m_T J (m_fin J) := by
  unfold m_fin
  refine m_T.t ?_ (m_T_move 2 _)
  split
  · exact (m_T_wk J).u3.u5.u5.u3
  · exact m_T_wk J
theorem m_T_rch (q : Int32) (J : sc_I) : m_T J (m_rch q J) := by
  unfold m_rch
  split
  · exact m_T.r J
  · split
    · exact (m_T.r J).u3
    · split
      · exact (m_T.r J).u3.t (m_T_fin _)
      · exact (m_T.r J).u3.u3
theorem m_T_fk (nx : Int32) (J : sc_I) : m_T J (m_fk nx J) := by
  unfold m_fk
  exact ((((((((((m_T.r J).u5.u4 (by decide)).u4 (by decide)).u4 (by decide)).u4 (by decide)).u4 (by decide)).u4 (by decide)).u4 (by decide)).u3).u4 (by decide))
theorem m_T_fu (nx : Int32) (J : sc_I) : m_T J (m_fu nx J) := by
  unfold m_fu
  exact ((((((((((m_T.r J).u5.u4 (by decide)).u4 (by decide)).u4 (by decide)).u4 (by decide)).u4 (by decide)).u4 (by decide)).u4 (by decide)).u3).u4 (by decide))
theorem m_T_cyc (J : sc_I) : m_T J (m_cyc J) := by
  have hT : m_T J (m_tick J) := (m_T.r J).u3
  unfold m_cyc
  split
  · exact hT.t (m_T_lv _)
  · refine m_T.t ((((hT.t (m_T_lv _)).t (m_T_rem _)).t (m_T_rch (m_ldd (m_tick J)) _))) ?_
    generalize m_rch _ _ = X
    have h1 : m_T X (m_mv1 X) := by
      unfold m_mv1
      split
      · exact (m_T_move 1 X).u3
      · exact m_T.r X
    have h2 : ∀ Y, m_T Y (m_mv0 Y) := by
      intro Y
      unfold m_mv0
      split
      · exact m_T_move 0 Y
      · exact m_T.r Y
    have h3 : ∀ Y, m_T Y (m_ft0 Y) := by
      intro Y
      unfold m_ft0 m_ftc
      split
      · split
        · split
          · exact m_T_fk _ Y
          · exact m_T_fk _ Y
        · exact m_T_fu _ Y
      · exact m_T.r Y
    exact (h1.t (h2 _)).t (h3 _)
theorem m_T_run : ∀ (n : Nat) (J : sc_I), m_T J (m_run n J) := by
  intro n
  induction n with
  | zero => exact fun J => m_T.r J
  | succ n ih =>
    intro J
    unfold m_run
    split
    · exact (m_T_cyc J).t (ih _)
    · exact m_T.r J
