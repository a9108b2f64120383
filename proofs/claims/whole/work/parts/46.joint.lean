/-! a call on both: what the class' wrapper and the reference do, side by side -/
theorem st_ok2 {LP : List Nat} (ws : List Int32) : ∀ v ∈ (Sum.inr (2, 0) :: ws.map Sum.inl : List sc_V), sc_ok LP v := fun v hv => by
  rcases List.mem_cons.mp hv with rfl | hv
  · rfl
  · obtain ⟨a, -, rfl⟩ := List.mem_map.mp hv
    trivial
theorem st_ok3 {LP : List Nat} (ws : List Int32) : ∀ v ∈ (Sum.inr (3, 0) :: ws.map Sum.inl : List sc_V), sc_ok LP v := fun v hv => by
  rcases List.mem_cons.mp hv with rfl | hv
  · rfl
  · obtain ⟨a, -, rfl⟩ := List.mem_map.mp hv
    trivial
theorem st_lt {w a b : Int32} (h : a.toInt = b.toInt + 1) : (0 ≤ w ∧ w < a) ↔ (0 ≤ w ∧ w ≤ b) := by
  rw [Int32.lt_iff_toInt_lt, Int32.le_iff_toInt_le (x := w) (y := b)]
  constructor
  · rintro ⟨h1, h2⟩
    exact ⟨h1, by omega⟩
  · rintro ⟨h1, h2⟩
    exact ⟨h1, by omega⟩
theorem st_MS (I : sc_I) : c_MS I I := fun _ _ _ => rfl
theorem r_mono {N M : Nat} {S J : sc_I} (h : N ≤ M) (hR : r_R N S J) : r_R M S J := by
  obtain ⟨h1, h2, h3, h4, h5, h6, n, h7, h8⟩ := hR
  exact ⟨h1, h2, h3, h4, h5, h6, n, Nat.le_trans h7 h, h8⟩
def st_K (I S' : sc_I) (kr a : Int32) : lx_KT := fun r o' I' D' => r = kr ∧ (kr = 0 → o' 0 = a.toInt64) ∧ c_AM I I' D' S'
def st_K0 (I S' : sc_I) (kr : Int32) : lx_KT := fun r _ I' D' => r = kr ∧ c_AM I I' D' S'
def st_Q (N : Nat) (S' : sc_I) (kr a : Int32) (D' : sc_R) : sc_RT := fun r I'' D'' => (∃ b, r = some (.inl b) ∧ (kr = 0 → b = a)) ∧ D'' = D' ∧ I'' 3 0 0 = kr ∧ c_AB I'' D' S' ∧ r_R (N + 300) S' I''
def st_Q0 (N : Nat) (S' : sc_I) (kr : Int32) (D' : sc_R) : sc_RT := fun r I'' D'' => r = none ∧ D'' = D' ∧ I'' 3 0 0 = kr ∧ c_AB I'' D' S' ∧ r_R (N + 300) S' I''
theorem st_upd {o : Nat → Int64} {x : Int64} : vp_updL o 0 x 0 = x := pk_uLs
section
variable {l : Launch} {dC : Nat → ClassId} {dI : Nat → Nat → Nat} {ad : Nat → Nat} {cA : Nat → ClassId} {LP : List Nat} {o : Nat → Int64} {A : Nat → Prop} {k : Nat → Nat} {I : sc_I} {D : sc_R} {S : sc_I} {N : Nat}
theorem st_poke (hl : l.stackTraces = false) (hD : ∀ I D, va_D A (sc_w ad cA LP o I D)) (hv : sc_vd LP D) (hA : c_AB I D S) (hR : r_R N S I) (_ : N + 300 < 2 ^ 30) (w v : Int32) : ∃ kr a S', lx_Met l dC dI ad cA LP o A k yL_poke cL_poke 5 [(0, 10, 13, 13)] [.inr (2, 0), .inl w, .inl v, .inr (8, 0)] I D (st_K I S' kr a) ∧ ∀ I' D', c_AM I I' D' S' → sc_wpM 7 46 [.inr (3, 0), .inl w, .inl v] I' D' (st_Q N S' kr a D') := by
  by_cases h : 0 ≤ w ∧ w < 32
  · refine ⟨0, S 4 0 w.toNatClampNeg, sc_u S 4 0 w.toNatClampNeg v, lx_poke_r (K := fun r I' D' => r = some (.inl (S 4 0 w.toNatClampNeg)) ∧ c_AM I I' D' (sc_u S 4 0 w.toNatClampNeg v)) hD (d := 2) (by decide) (sc_sound l dC dI ad cA LP o A hD 2 10 _ I D _ (by decide) (x_poke 0 I D _ I S w v ⟨hA, st_MS I⟩ h (fun I' hq => ⟨rfl, hq⟩)) (st_ok2 [w, v]) hv) (fun r I' D' hq => ⟨_, hq.1, rfl, fun _ => st_upd, hq.2⟩), fun I' D' hq => ?_⟩
    have hR' := r_MS hR hq.2
    exact x_m_poke 5 I' D' _ w v (fun h' => ⟨⟨_, rfl, fun _ => (r_peek hR' h').symm⟩, rfl, rfl, hq.1.f ((m_F.r I').u3.u4 (by decide)), r_mono (by omega) (r_poke (r_thr hR'))⟩) (fun h' => absurd ((st_lt (by decide)).mp h) h')
  · refine ⟨1, 0, S, lx_poke_x hv (tx_poke hl h) ⟨rfl, fun z => absurd z (by decide), hA, st_MS I⟩, fun I' D' hq => ?_⟩
    have hR' := r_MS hR hq.2
    exact x_m_poke 5 I' D' _ w v (fun h' => absurd ((st_lt (by decide)).mpr h') h) (fun _ => ⟨⟨_, rfl, fun z => absurd z (by decide)⟩, rfl, rfl, hq.1.f (m_F.r I').u3, r_mono (by omega) (r_thr hR')⟩)
theorem st_peek (hl : l.stackTraces = false) (hD : ∀ I D, va_D A (sc_w ad cA LP o I D)) (hv : sc_vd LP D) (hA : c_AB I D S) (hR : r_R N S I) (_ : N + 300 < 2 ^ 30) (w : Int32) : ∃ kr a S', lx_Met l dC dI ad cA LP o A k yL_peek cL_peek 4 [(0, 9, 12, 13)] [.inr (2, 0), .inl w, .inr (8, 0)] I D (st_K I S' kr a) ∧ ∀ I' D', c_AM I I' D' S' → sc_wpM 7 47 [.inr (3, 0), .inl w] I' D' (st_Q N S' kr a D') := by
  by_cases h : 0 ≤ w ∧ w < 32
  · refine ⟨0, S 4 0 w.toNatClampNeg, S, lx_peek_r (K := fun r I' D' => r = some (.inl (S 4 0 w.toNatClampNeg)) ∧ c_AM I I' D' S) hD (d := 2) (by decide) (sc_sound l dC dI ad cA LP o A hD 2 11 _ I D _ (by decide) (x_peek 0 I D _ I S w ⟨hA, st_MS I⟩ h ⟨rfl, hA, st_MS I⟩) (st_ok2 [w]) hv) (fun r I' D' hq => ⟨_, hq.1, rfl, fun _ => st_upd, hq.2⟩), fun I' D' hq => ?_⟩
    have hR' := r_MS hR hq.2
    exact x_m_peek 5 I' D' _ w (fun h' => ⟨⟨_, rfl, fun _ => (r_peek hR' h').symm⟩, rfl, rfl, hq.1.f (m_F.r I').u3, r_mono (by omega) (r_thr hR')⟩) (fun h' => absurd ((st_lt (by decide)).mp h) h')
  · refine ⟨1, 0, S, lx_peek_x hv (tx_peek hl h) ⟨rfl, fun z => absurd z (by decide), hA, st_MS I⟩, fun I' D' hq => ?_⟩
    have hR' := r_MS hR hq.2
    exact x_m_peek 5 I' D' _ w (fun h' => absurd ((st_lt (by decide)).mpr h') h) (fun _ => ⟨⟨_, rfl, fun z => absurd z (by decide)⟩, rfl, rfl, hq.1.f (m_F.r I').u3, r_mono (by omega) (r_thr hR')⟩)
theorem st_set (hl : l.stackTraces = false) (hD : ∀ I D, va_D A (sc_w ad cA LP o I D)) (hv : sc_vd LP D) (hA : c_AB I D S) (hR : r_R N S I) (_ : N + 300 < 2 ^ 30) (w v : Int32) : ∃ kr a S', lx_Met l dC dI ad cA LP o A k yL_set cL_set 5 [(0, 10, 13, 13)] [.inr (2, 0), .inl w, .inl v, .inr (8, 0)] I D (st_K I S' kr a) ∧ ∀ I' D', c_AM I I' D' S' → sc_wpM 7 48 [.inr (3, 0), .inl w, .inl v] I' D' (st_Q N S' kr a D') := by
  have e1 : (1 ≤ w ∧ w ≤ 15) ↔ ((0 ≤ w ∧ w < 16) ∧ ¬ w = 0) := by
    rw [Int32.le_iff_toInt_le, Int32.le_iff_toInt_le, Int32.le_iff_toInt_le, Int32.lt_iff_toInt_lt, ← Int32.toInt_inj]
    have a1 : (1 : Int32).toInt = 1 := by decide
    have a2 : (15 : Int32).toInt = 15 := by decide
    have a3 : (16 : Int32).toInt = 16 := by decide
    have a4 : (0 : Int32).toInt = 0 := by decide
    rw [a1, a2, a3, a4]
    omega
  by_cases h : (0 ≤ w ∧ w < 16) ∧ ¬ w = 0
  · refine ⟨0, S 4 1 w.toNatClampNeg, sc_u S 4 1 w.toNatClampNeg v, lx_set_r (K := fun r I' D' => r = some (.inl (S 4 1 w.toNatClampNeg)) ∧ c_AM I I' D' (sc_u S 4 1 w.toNatClampNeg v)) hD (d := 2) (by decide) (sc_sound l dC dI ad cA LP o A hD 2 12 _ I D _ (by decide) (x_set 0 I D _ I S w v ⟨hA, st_MS I⟩ h.1 h.2 (fun I' hq => ⟨rfl, hq⟩)) (st_ok2 [w, v]) hv) (fun r I' D' hq => ⟨_, hq.1, rfl, fun _ => st_upd, hq.2⟩), fun I' D' hq => ?_⟩
    have hR' := r_MS hR hq.2
    exact x_m_set 5 I' D' _ w v (fun h' => ⟨⟨_, rfl, fun _ => (r_register hR' ((st_lt (by decide)).mp h.1)).symm⟩, rfl, rfl, hq.1.f ((m_F.r I').u3.u4 (by decide)), r_mono (by omega) (r_set (r_thr hR'))⟩) (fun h' => absurd (e1.mpr h) h')
  · have hx : tx_Met l 1 dC dI ad cA LP o A k 12 [.inr (2, 0), .inl w, .inl v] I D tx_I := by
      by_cases h0 : 0 ≤ w ∧ w < 16
      · have hw : w = 0 := Classical.byContradiction (fun z => h ⟨h0, z⟩)
        rw [hw]
        exact tx_set0 hl hD hv
      · exact tx_set hl h0
    refine ⟨1, 0, S, lx_set_x hv hx ⟨rfl, fun z => absurd z (by decide), hA, st_MS I⟩, fun I' D' hq => ?_⟩
    have hR' := r_MS hR hq.2
    exact x_m_set 5 I' D' _ w v (fun h' => absurd (e1.mp h') h) (fun _ => ⟨⟨_, rfl, fun z => absurd z (by decide)⟩, rfl, rfl, hq.1.f (m_F.r I').u3, r_mono (by omega) (r_thr hR')⟩)
theorem st_register (hl : l.stackTraces = false) (hD : ∀ I D, va_D A (sc_w ad cA LP o I D)) (hv : sc_vd LP D) (hA : c_AB I D S) (hR : r_R N S I) (_ : N + 300 < 2 ^ 30) (w : Int32) : ∃ kr a S', lx_Met l dC dI ad cA LP o A k yL_register cL_register 4 [(0, 9, 12, 13)] [.inr (2, 0), .inl w, .inr (8, 0)] I D (st_K I S' kr a) ∧ ∀ I' D', c_AM I I' D' S' → sc_wpM 7 49 [.inr (3, 0), .inl w] I' D' (st_Q N S' kr a D') := by
  by_cases h : 0 ≤ w ∧ w < 16
  · refine ⟨0, S 4 1 w.toNatClampNeg, S, lx_register_r (K := fun r I' D' => r = some (.inl (S 4 1 w.toNatClampNeg)) ∧ c_AM I I' D' S) hD (d := 2) (by decide) (sc_sound l dC dI ad cA LP o A hD 2 13 _ I D _ (by decide) (x_register 0 I D _ I S w ⟨hA, st_MS I⟩ h ⟨rfl, hA, st_MS I⟩) (st_ok2 [w]) hv) (fun r I' D' hq => ⟨_, hq.1, rfl, fun _ => st_upd, hq.2⟩), fun I' D' hq => ?_⟩
    have hR' := r_MS hR hq.2
    exact x_m_register 5 I' D' _ w (fun h' => ⟨⟨_, rfl, fun _ => (r_register hR' h').symm⟩, rfl, rfl, hq.1.f (m_F.r I').u3, r_mono (by omega) (r_thr hR')⟩) (fun h' => absurd ((st_lt (by decide)).mp h) h')
  · refine ⟨1, 0, S, lx_register_x hv (tx_register hl h) ⟨rfl, fun z => absurd z (by decide), hA, st_MS I⟩, fun I' D' hq => ?_⟩
    have hR' := r_MS hR hq.2
    exact x_m_register 5 I' D' _ w (fun h' => absurd ((st_lt (by decide)).mpr h') h) (fun _ => ⟨⟨_, rfl, fun z => absurd z (by decide)⟩, rfl, rfl, hq.1.f (m_F.r I').u3, r_mono (by omega) (r_thr hR')⟩)
theorem st_start (hl : l.stackTraces = false) (hD : ∀ I D, va_D A (sc_w ad cA LP o I D)) (hv : sc_vd LP D) (hA : c_AB I D S) (hR : r_R N S I) (_ : N + 300 < 2 ^ 30) (w : Int32) : ∃ kr S', lx_Met l dC dI ad cA LP o A k yL_start cL_start 3 [(0, 5, 8, 13)] [.inr (2, 0), .inl w] I D (st_K0 I S' kr) ∧ ∀ I' D', c_AM I I' D' S' → sc_wpM 7 51 [.inr (3, 0), .inl w] I' D' (st_Q0 N S' kr D') := by
  by_cases h : 0 ≤ w ∧ w < 64
  · refine ⟨0, sc_u (sc_u (c_em5 S) 2 0 7 w) 2 0 11 0, lx_start_r (K := fun r I' D' => r = none ∧ c_AM I I' D' (sc_u (sc_u (c_em5 S) 2 0 7 w) 2 0 11 0)) hD (d := 2) (by decide) (sc_sound l dC dI ad cA LP o A hD 2 15 _ I D _ (by decide) (x_start 0 I D _ I S w ⟨hA, st_MS I⟩ h (fun I' hq => ⟨rfl, hq⟩)) (st_ok2 [w]) hv) (fun r I' D' hq => ⟨hq.1, rfl, hq.2⟩), fun I' D' hq => ?_⟩
    have hR' := r_MS hR hq.2
    exact x_m_start 5 I' D' _ w (fun h' => ⟨rfl, rfl, rfl, hq.1.f (((m_F.r I').u3.t (m_F_emp _)).u3.u3), r_mono (by omega) (r_start (r_thr hR'))⟩) (fun h' => absurd ((st_lt (by decide)).mp h) h')
  · refine ⟨1, S, lx_start_x hv (tx_start hl h) ⟨rfl, hA, st_MS I⟩, fun I' D' hq => ?_⟩
    have hR' := r_MS hR hq.2
    exact x_m_start 5 I' D' _ w (fun h' => absurd ((st_lt (by decide)).mpr h') h) (fun _ => ⟨rfl, rfl, rfl, hq.1.f (m_F.r I').u3, r_mono (by omega) (r_thr hR')⟩)
theorem st_handler (hl : l.stackTraces = false) (hD : ∀ I D, va_D A (sc_w ad cA LP o I D)) (hv : sc_vd LP D) (hA : c_AB I D S) (hR : r_R N S I) (_ : N + 300 < 2 ^ 30) (w : Int32) : ∃ kr a S', lx_Met l dC dI ad cA LP o A k yL_handler cL_handler 4 [(0, 9, 12, 13)] [.inr (2, 0), .inl w, .inr (8, 0)] I D (st_K I S' kr a) ∧ ∀ I' D', c_AM I I' D' S' → sc_wpM 7 52 [.inr (3, 0), .inl w] I' D' (st_Q N S' kr a D') := by
  by_cases h : 0 ≤ w ∧ w < 64
  · refine ⟨0, S 2 0 8, sc_u S 2 0 8 w, lx_handler_r (K := fun r I' D' => r = some (.inl (S 2 0 8)) ∧ c_AM I I' D' (sc_u S 2 0 8 w)) hD (d := 2) (by decide) (sc_sound l dC dI ad cA LP o A hD 2 16 _ I D _ (by decide) (x_handler 0 I D _ I S w ⟨hA, st_MS I⟩ h (fun I' hq => ⟨rfl, hq⟩)) (st_ok2 [w]) hv) (fun r I' D' hq => ⟨_, hq.1, rfl, fun _ => st_upd, hq.2⟩), fun I' D' hq => ?_⟩
    have hR' := r_MS hR hq.2
    exact x_m_handler 5 I' D' _ w (fun h' => ⟨⟨_, rfl, fun _ => hR'.1.2.1.symm⟩, rfl, rfl, hq.1.f (m_F.r I').u3.u3, r_mono (by omega) (r_handler (r_thr hR'))⟩) (fun h' => absurd ((st_lt (by decide)).mp h) h')
  · refine ⟨1, 0, S, lx_handler_x hv (tx_handler hl h) ⟨rfl, fun z => absurd z (by decide), hA, st_MS I⟩, fun I' D' hq => ?_⟩
    have hR' := r_MS hR hq.2
    exact x_m_handler 5 I' D' _ w (fun h' => absurd ((st_lt (by decide)).mpr h') h) (fun _ => ⟨⟨_, rfl, fun z => absurd z (by decide)⟩, rfl, rfl, hq.1.f (m_F.r I').u3, r_mono (by omega) (r_thr hR')⟩)
theorem st_n300 {w : Int32} (h : 1 ≤ w ∧ w ≤ 300) : w.toNatClampNeg ≤ 300 := by
  have h1 : w.toInt ≤ 300 := Int32.le_iff_toInt_le.mp h.2
  unfold Int32.toNatClampNeg
  omega
theorem st_cycles (hl : l.stackTraces = false) (hD : ∀ I D, va_D A (sc_w ad cA LP o I D)) (hv : sc_vd LP D) (hA : c_AB I D S) (hR : r_R N S I) (hN : N + 300 < 2 ^ 30) (w : Int32) : ∃ kr a S', lx_Met l dC dI ad cA LP o A k yL_cycles cL_cycles 4 [(0, 9, 12, 15)] [.inr (2, 0), .inl w, .inr (8, 0)] I D (st_K I S' kr a) ∧ ∀ I' D', c_AM I I' D' S' → sc_wpM 7 65 [.inr (3, 0), .inl w] I' D' (st_Q N S' kr a D') := by
  by_cases h : 1 ≤ w ∧ w ≤ 300
  · have hn := st_n300 h
    refine ⟨0, c_run w.toNatClampNeg S 2 0 13 - S 2 0 13, c_run w.toNatClampNeg S, lx_cycles_r (K := fun r I' D' => r = some (.inl (c_run w.toNatClampNeg S 2 0 13 - S 2 0 13)) ∧ c_AM I I' D' (c_run w.toNatClampNeg S)) hD (d := 7) (by decide) (sc_sound l dC dI ad cA LP o A hD 7 37 _ I D _ (by decide) (x_cycles 0 I D _ I S w ⟨hA, st_MS I⟩ h (r_run w.toNatClampNeg N S I hR (by omega)).1 (fun I' D' hq => ⟨rfl, hq⟩)) (st_ok2 [w]) hv) (fun r I' D' hq => ⟨_, hq.1, rfl, fun _ => st_upd, hq.2⟩), fun I' D' hq => ?_⟩
    have hR' := r_MS hR hq.2
    obtain ⟨-, g2, g3⟩ := r_run w.toNatClampNeg N S (sc_u I' 3 0 0 0) (r_thr hR') (by omega)
    refine x_m_cycles 0 I' D' _ w (fun _ => ⟨g2, ⟨_, rfl, fun _ => ?_⟩, rfl, (m_T_run _ _).trans rfl, hq.1.f ((m_F.r I').u3.t (m_F_run _ _)), r_mono (by omega) g3⟩) (fun h' => absurd h h')
    rw [g3.2.2.2.2.2.1, hR'.2.2.2.2.2.1]
  · refine ⟨1, 0, S, lx_cycles_x hv (tx_cycles hl h) ⟨rfl, fun z => absurd z (by decide), hA, st_MS I⟩, fun I' D' hq => ?_⟩
    have hR' := r_MS hR hq.2
    exact x_m_cycles 0 I' D' _ w (fun h' => absurd h' h) (fun _ => ⟨⟨_, rfl, fun z => absurd z (by decide)⟩, rfl, rfl, hq.1.f (m_F.r I').u3, r_mono (by omega) (r_thr hR')⟩)
theorem st_stage (hl : l.stackTraces = false) (hD : ∀ I D, va_D A (sc_w ad cA LP o I D)) (hv : sc_vd LP D) (hA : c_AB I D S) (hR : r_R N S I) (_ : N + 300 < 2 ^ 30) (w : Int32) : ∃ kr a S', lx_Met l dC dI ad cA LP o A k yL_stage cL_stage 4 [(0, 9, 12, 13)] [.inr (2, 0), .inl w, .inr (8, 0)] I D (st_K I S' kr a) ∧ ∀ I' D', c_AM I I' D' S' → sc_wpM 7 66 [.inr (3, 0), .inl w] I' D' (st_Q N S' kr a D') := by
  by_cases h : 0 ≤ w ∧ w < 5
  · have h4 : 0 ≤ w ∧ w ≤ 4 := (st_lt (by decide)).mp h
    refine ⟨0, if S 0 w.toNatClampNeg 0 = 0 then -1 else S 0 w.toNatClampNeg 2, S, lx_stage_r (K := fun r I' D' => r = some (.inl (if S 0 w.toNatClampNeg 0 = 0 then -1 else S 0 w.toNatClampNeg 2)) ∧ c_AM I I' D' S) hD (d := 2) (by decide) (sc_sound l dC dI ad cA LP o A hD 2 38 _ I D _ (by decide) (x_stage 0 I D _ I S w ⟨hA, st_MS I⟩ h (fun z => ⟨by rw [if_neg z], hA, st_MS I⟩) (fun z => ⟨by rw [if_pos z], hA, st_MS I⟩)) (st_ok2 [w]) hv) (fun r I' D' hq => ⟨_, hq.1, rfl, fun _ => st_upd, hq.2⟩), fun I' D' hq => ?_⟩
    have hR' := r_MS hR hq.2
    obtain ⟨s1, s2⟩ := r_stage hR' h4
    exact x_m_stage 5 I' D' _ w (fun _ z => ⟨⟨_, rfl, fun _ => by rw [s1, if_neg z, s2 z]⟩, rfl, rfl, hq.1.f (m_F.r I').u3, r_mono (by omega) (r_thr hR')⟩) (fun _ z => ⟨⟨_, rfl, fun _ => by rw [s1, if_pos z]⟩, rfl, rfl, hq.1.f (m_F.r I').u3, r_mono (by omega) (r_thr hR')⟩) (fun h' => absurd h4 h')
  · refine ⟨1, 0, S, lx_stage_x hv (tx_stage hl h) ⟨rfl, fun z => absurd z (by decide), hA, st_MS I⟩, fun I' D' hq => ?_⟩
    have hR' := r_MS hR hq.2
    exact x_m_stage 5 I' D' _ w (fun h' _ => absurd ((st_lt (by decide)).mpr h') h) (fun h' _ => absurd ((st_lt (by decide)).mpr h') h) (fun _ => ⟨⟨_, rfl, fun z => absurd z (by decide)⟩, rfl, rfl, hq.1.f (m_F.r I').u3, r_mono (by omega) (r_thr hR')⟩)
theorem st_counter (hl : l.stackTraces = false) (hD : ∀ I D, va_D A (sc_w ad cA LP o I D)) (hv : sc_vd LP D) (hA : c_AB I D S) (hR : r_R N S I) (_ : N + 300 < 2 ^ 30) (w : Int32) : ∃ kr a S', lx_Met l dC dI ad cA LP o A k yL_counter cL_counter 4 [(0, 9, 12, 13)] [.inr (2, 0), .inl w, .inr (8, 0)] I D (st_K I S' kr a) ∧ ∀ I' D', c_AM I I' D' S' → sc_wpM 7 67 [.inr (3, 0), .inl w] I' D' (st_Q N S' kr a D') := by
  by_cases h : 0 ≤ w ∧ w < 8
  · refine ⟨0, S 4 2 w.toNatClampNeg, S, lx_counter_r (K := fun r I' D' => r = some (.inl (S 4 2 w.toNatClampNeg)) ∧ c_AM I I' D' S) hD (d := 2) (by decide) (sc_sound l dC dI ad cA LP o A hD 2 39 _ I D _ (by decide) (x_counter 0 I D _ I S w ⟨hA, st_MS I⟩ h ⟨rfl, hA, st_MS I⟩) (st_ok2 [w]) hv) (fun r I' D' hq => ⟨_, hq.1, rfl, fun _ => st_upd, hq.2⟩), fun I' D' hq => ?_⟩
    have hR' := r_MS hR hq.2
    exact x_m_counter 5 I' D' _ w (fun h' => ⟨⟨_, rfl, fun _ => (r_counter hR' h').symm⟩, rfl, rfl, hq.1.f (m_F.r I').u3, r_mono (by omega) (r_thr hR')⟩) (fun h' => absurd ((st_lt (by decide)).mp h) h')
  · refine ⟨1, 0, S, lx_counter_x hv (tx_counter hl h) ⟨rfl, fun z => absurd z (by decide), hA, st_MS I⟩, fun I' D' hq => ?_⟩
    have hR' := r_MS hR hq.2
    exact x_m_counter 5 I' D' _ w (fun h' => absurd ((st_lt (by decide)).mpr h') h) (fun _ => ⟨⟨_, rfl, fun z => absurd z (by decide)⟩, rfl, rfl, hq.1.f (m_F.r I').u3, r_mono (by omega) (r_thr hR')⟩)
theorem st_retired (hl : l.stackTraces = false) (hD : ∀ I D, va_D A (sc_w ad cA LP o I D)) (hv : sc_vd LP D) (hA : c_AB I D S) (hR : r_R N S I) (hN : N + 300 < 2 ^ 30) (w : Int32) : ∃ kr a S', lx_Met l dC dI ad cA LP o A k yL_retired cL_retired 4 [(0, 9, 12, 13)] [.inr (2, 0), .inl w, .inr (8, 0)] I D (st_K I S' kr a) ∧ ∀ I' D', c_AM I I' D' S' → sc_wpM 7 68 [.inr (3, 0), .inl w] I' D' (st_Q N S' kr a D') := by
  have hN2 : N < 2 ^ 30 := by omega
  by_cases h : 0 ≤ w ∧ w < c_m16 (S 2 0 13)
  · obtain ⟨g1, g2⟩ := r_retired (w := w) hR hN2
    refine ⟨0, S 4 3 (c_rm (S 2 0 13 - 1 - w)).toNatClampNeg, S, lx_retired_r (K := fun r I' D' => r = some (.inl (S 4 3 (c_rm (S 2 0 13 - 1 - w)).toNatClampNeg)) ∧ c_AM I I' D' S) hD (d := 2) (by decide) (sc_sound l dC dI ad cA LP o A hD 2 40 _ I D _ (by decide) (x_retired 0 I D _ I S w ⟨hA, st_MS I⟩ h (g2 (g1.mpr h)).2.1 ⟨rfl, hA, st_MS I⟩) (st_ok2 [w]) hv) (fun r I' D' hq => ⟨_, hq.1, rfl, fun _ => st_upd, hq.2⟩), fun I' D' hq => ?_⟩
    have hR' := r_MS hR hq.2
    obtain ⟨g3, g4⟩ := r_retired (w := w) hR' hN2
    exact x_m_retired 5 I' D' _ w (fun h' => (g4 h').1) (fun h' => ⟨⟨_, rfl, fun _ => (g4 h').2.2.symm⟩, rfl, rfl, hq.1.f (m_F.r I').u3, r_mono (by omega) (r_thr hR')⟩) (fun h' => absurd (g3.mpr h) h')
  · refine ⟨1, 0, S, lx_retired_x hv (tx_retired hl hD hv (by rw [show I 2 0 13 = S 2 0 13 from congrFun hA.2.2.2.2.2.1 13]; exact h)) ⟨rfl, fun z => absurd z (by decide), hA, st_MS I⟩, fun I' D' hq => ?_⟩
    have hR' := r_MS hR hq.2
    obtain ⟨g3, g4⟩ := r_retired (w := w) hR' hN2
    exact x_m_retired 5 I' D' _ w (fun h' => (g4 h').1) (fun h' => absurd (g3.mp h') h) (fun _ => ⟨⟨_, rfl, fun z => absurd z (by decide)⟩, rfl, rfl, hq.1.f (m_F.r I').u3, r_mono (by omega) (r_thr hR')⟩)
theorem st_count (hl : l.stackTraces = false) (hD : ∀ I D, va_D A (sc_w ad cA LP o I D)) (hv : sc_vd LP D) (hA : c_AB I D S) (hR : r_R N S I) (_ : N + 300 < 2 ^ 30) (w : Int32) : ∃ kr a S', lx_Met l dC dI ad cA LP o A k yL_count cL_count 4 [(0, 9, 12, 15)] [.inr (2, 0), .inl w, .inr (8, 0)] I D (st_K I S' kr a) ∧ ∀ I' D', c_AM I I' D' S' → sc_wpM 7 69 [.inr (3, 0), .inl w] I' D' (st_Q N S' kr a D') := by
  by_cases h : 0 ≤ w ∧ w ≤ 8
  · refine ⟨0, c_cnt w S, S, lx_count_r (K := fun r I' D' => r = some (.inl (c_cnt w S)) ∧ c_AM I I' D' S) hD (d := 1) (by decide) (sc_sound l dC dI ad cA LP o A hD 1 41 _ I D _ (by decide) (x_count 0 I D _ I S w ⟨hA, st_MS I⟩ h ⟨rfl, hA, st_MS I⟩) (st_ok2 [w]) hv) (fun r I' D' hq => ⟨_, hq.1, rfl, fun _ => st_upd, hq.2⟩), fun I' D' hq => ?_⟩
    have hR' := r_MS hR hq.2
    exact x_m_count 5 I' D' _ w (fun h' => ⟨⟨_, rfl, fun _ => (r_count hR').symm⟩, rfl, rfl, hq.1.f (m_F.r I').u3, r_mono (by omega) (r_thr hR')⟩) (fun h' => absurd h h')
  · refine ⟨1, 0, S, lx_count_x hv (tx_count hl h) ⟨rfl, fun z => absurd z (by decide), hA, st_MS I⟩, fun I' D' hq => ?_⟩
    have hR' := r_MS hR hq.2
    exact x_m_count 5 I' D' _ w (fun h' => absurd h' h) (fun _ => ⟨⟨_, rfl, fun z => absurd z (by decide)⟩, rfl, rfl, hq.1.f (m_F.r I').u3, r_mono (by omega) (r_thr hR')⟩)
end
