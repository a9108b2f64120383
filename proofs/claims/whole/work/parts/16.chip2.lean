abbrev c_wd (x : Int32) : Prop := x ≤ 11 ∨ x = 15 ∨ x = 16
abbrev c_br (x : Int32) : Prop := x = 13 ∨ x = 14
abbrev c_td (x : Int32) : Prop := x = 11 ∨ x = 12
abbrev c_ut (x : Int32) : Prop := x ≤ 8 ∨ x = 12 ∨ c_br x
abbrev c_us (x : Int32) : Prop := x ≤ 9 ∨ x = 11 ∨ x = 16 ∨ c_ut x
abbrev c_do (S : sc_I) (i : Nat) (q : Int32) : Prop := ¬ S 0 i 0 = 0 ∧ S 0 i 5 = 0 ∧ S 1 i 0 = q
abbrev c_wr (S : sc_I) (i : Nat) (r : Int32) : Prop := ¬ S 0 i 0 = 0 ∧ S 0 i 5 = 0 ∧ ¬ r = 0 ∧ c_wd (S 1 i 0) ∧ S 1 i 1 = r
theorem c_AM.does {I0 I : sc_I} {D : sc_R} {S : sc_I} (h : c_AM I0 I D S) {i : Nat} (hi : i < 5) (q : Int32) : sc_does I D (D 6 0 i) q ↔ c_do S i q := by
  unfold sc_does
  rw [h.fl hi, h.fl hi, h.ir hi]
theorem c_AM.wr {I0 I : sc_I} {D : sc_R} {S : sc_I} (h : c_AM I0 I D S) {i : Nat} (hi : i < 5) (r : Int32) : sc_wr I D (D 6 0 i) r ↔ c_wr S i r := by
  unfold sc_wr sc_wd
  rw [h.fl hi, h.fl hi, h.ir hi, h.ir hi]
def c_flt (S : sc_I) : sc_I := sc_u (c_em5 (sc_u (sc_u (sc_u S 2 0 16 (S 2 0 16 + 1)) 2 0 9 (S 0 4 5)) 2 0 10 (S 0 4 2))) 2 0 7 (S 2 0 8)
def c_hlt (S : sc_I) : sc_I := sc_u (c_em5 S) 2 0 11 1
def c_rm (x : Int32) : Int32 := x - x / 16 * 16
def c_reg (S : sc_I) : sc_I := if c_wr S 4 (S 1 4 1) then sc_u S 4 1 (S 1 4 1).toNatClampNeg (S 0 4 7) else S
def c_ret (S : sc_I) : sc_I := sc_u (sc_u (sc_u (c_reg S) 4 3 (c_rm (S 2 0 13)).toNatClampNeg (S 0 4 2)) 2 0 13 (S 2 0 13 + 1)) 0 4 0 0
abbrev c_end (S : sc_I) : Prop := ¬ S 0 4 0 = 0 ∧ (¬ S 0 4 5 = 0 ∨ S 1 4 0 = 18)
def c_lv (S : sc_I) : sc_I := if S 0 4 0 = 0 then S else if S 0 4 5 = 0 then (if S 1 4 0 = 18 then c_hlt S else c_ret S) else c_flt S
abbrev S_takeFault (C : sc_CT) : Prop := ∀ (I : sc_I) (D : sc_R) (K : sc_RT) (I0 S : sc_I) (hA : c_AM I0 I D S) (h : ∀ I', c_AM I0 I' D (c_flt S) → K none I' D), C 17 [.inr (2, 0), .inr (0, D 6 0 4)] I D K
theorem z_takeFault (C : sc_CT) (c1 : S_empty5 C) (I : sc_I) (D : sc_R) (K : sc_RT) (I0 S : sc_I) (hA : c_AM I0 I D S) (h : ∀ I', c_AM I0 I' D (c_flt S) → K none I' D) : sc_wp C K (sc_t 17) 5000 (sc_t 17) (sc_al 0 [.inr (2, 0), .inr (0, D 6 0 4)]) [] I D := by
  refine c1 _ _ _ I0 _ (((hA.p2 (congrArg (· + 1) (hA.sc 16))).p2 (hA.fl (i := 4) (by decide) 5)).p2 (hA.fl (i := 4) (by decide) 2)) (fun I' h' => ?_)
  exact h _ (h'.p2 (h'.sc 8))
theorem x_takeFault (d : Nat) : S_takeFault (sc_wpM (d + 2)) := fun I D K I0 S hA h => sc_open (d := d + 1) rfl (z_takeFault (sc_wpM (d + 1)) (x_empty5 (d + 0)) I D K I0 S hA h)
theorem c_x16 (x : Int32) : 0 ≤ x ^^^ 16 ↔ 0 ≤ x := by
  rw [Int32.le_iff_toInt_le, Int32.le_iff_toInt_le]
  have m : (x.toBitVec ^^^ (16 : Int32).toBitVec).msb = x.toBitVec.msb := by
    rw [BitVec.msb_xor, show (16 : Int32).toBitVec.msb = false by decide, Bool.xor_false]
  rw [BitVec.msb_eq_toInt, BitVec.msb_eq_toInt] at m
  have e1 : (x ^^^ 16).toInt = (x.toBitVec ^^^ (16 : Int32).toBitVec).toInt := rfl
  have e2 : x.toInt = x.toBitVec.toInt := rfl
  have m := decide_eq_decide.mp m
  rw [e1, e2]
  show (0 : Int) ≤ _ ↔ (0 : Int) ≤ _
  omega
theorem c_fm16 (x : Int32) (hx : vp_in (c_rm x) 16) (h : ¬ 0 ≤ x ^^^ 16) : x - x / 16 * 16 = 0 := by
  have hX : x.toInt < 0 := Int.not_le.mp (fun z => h ((c_x16 x).mpr (Int32.le_iff_toInt_le.mpr z)))
  have hlo : -2147483648 ≤ x.toInt := Int32.le_toInt x
  obtain ⟨y, hy⟩ : ∃ y : Nat, x.toInt = -(y : Int) := ⟨x.toInt.natAbs, by omega⟩
  have hd := Int32.toInt_div_of_ne_right x 16 (by decide)
  rw [hy, show (16 : Int32).toInt = 16 from rfl, Int.neg_tdiv, Int.tdiv_eq_ediv_of_nonneg (by omega)] at hd
  have hm : (x / 16 * 16).toInt = -((y : Int) / 16) * 16 := by
    rw [Int32.toInt_mul, hd, show (16 : Int32).toInt = 16 from rfl]
    exact Int.bmod_eq_of_le (by omega) (by omega)
  have hr : (x - x / 16 * 16).toInt = -((y : Int) % 16) := by
    rw [Int32.toInt_sub, hm, hy, Int.bmod_eq_of_le (by omega) (by omega)]
    omega
  have h0 : 0 ≤ (x - x / 16 * 16).toInt := (vp_in_iff.mp hx).1
  apply Int32.toInt_inj.mp
  have : (0 : Int32).toInt = 0 := rfl
  omega
abbrev S_floorMod16 (C : sc_CT) : Prop := ∀ (I : sc_I) (D : sc_R) (K : sc_RT) (x : Int32) (hx : vp_in (c_rm x) 16) (h : K (some (.inl (c_rm x))) I D), C 28 [.inl x, .inl 16] I D K
theorem z_floorMod16 (C : sc_CT)  (I : sc_I) (D : sc_R) (K : sc_RT) (x : Int32) (hx : vp_in (c_rm x) 16) (h : K (some (.inl (c_rm x))) I D) : sc_wp C K (sc_t 28) 5000 (sc_t 28) (sc_al 0 [.inl x, .inl 16]) [] I D := by
  refine And.intro (by decide) ?_
  by_cases b : 0 ≤ x ^^^ 16
  · exact br_t b h
  · exact br_f b (br_t (c_fm16 x hx b) h)
theorem x_floorMod16 (d : Nat) : S_floorMod16 (sc_wpM (d + 1)) := fun I D K x hx h => sc_open (d := d) rfl (z_floorMod16 (sc_wpM (d))  I D K x hx h)
abbrev S_retire (C : sc_CT) : Prop := ∀ (I : sc_I) (D : sc_R) (K : sc_RT) (I0 S : sc_I) (hA : c_AM I0 I D S) (hd : vp_in (S 1 4 1) 16) (hx : vp_in (c_rm (S 2 0 13)) 16) (h : ∀ I', c_AM I0 I' D (c_ret S) → K none I' D), C 18 [.inr (2, 0), .inr (0, D 6 0 4)] I D K
theorem z_retire (C : sc_CT) (c1 : S_writes C) (c2 : S_floorMod16 C) (I : sc_I) (D : sc_R) (K : sc_RT) (I0 S : sc_I) (hA : c_AM I0 I D S) (hd : vp_in (S 1 4 1) 16) (hx : vp_in (c_rm (S 2 0 13)) 16) (h : ∀ I', c_AM I0 I' D (c_ret S) → K none I' D) : sc_wp C K (sc_t 18) 5000 (sc_t 18) (sc_al 0 [.inr (2, 0), .inr (0, D 6 0 4)]) [] I D := by
  have e1 := hA.ir (i := 4) (by decide) 1
  have e2 := hA.sc 13
  have hd' : vp_in (I 1 (D 0 (D 6 0 4) 1) 1) 16 := by rw [e1]; exact hd
  have hx' : vp_in (c_rm (I 2 0 13)) 16 := by rw [e2]; exact hx
  have ec : (c_rm (I 2 0 13)).toNatClampNeg = (c_rm (S 2 0 13)).toNatClampNeg := by rw [e2]
  refine c1 _ _ _ _ _ (fun a => br_f (by decide) ?_) (fun a => br_t (by decide) ?_)
  · rw [hA.wr (by decide), e1] at a
    have h1 : c_AM I0 (sc_u I 4 1 (I 1 (D 0 (D 6 0 4) 1) 1).toNatClampNeg (I 0 (D 6 0 4) 7)) D (c_reg S) := by
      unfold c_reg
      rw [if_pos a]
      exact hA.p4 (by decide) (by rw [e1]) (hA.fl (i := 4) (by decide) 7)
    refine And.intro hd' (c2 _ _ _ (I 2 0 13) hx' (And.intro hx' (And.intro (Or.inl rfl) (h _ ?_))))
    exact ((h1.p4 (by decide) ec (hA.fl (i := 4) (by decide) 2)).p2 (congrArg (· + 1) e2)).p0 (i := 4) (by decide) rfl
  · rw [hA.wr (by decide), e1] at a
    have h1 : c_AM I0 I D (c_reg S) := by
      unfold c_reg
      rw [if_neg a]
      exact hA
    refine c2 _ _ _ (I 2 0 13) hx' (And.intro hx' (And.intro (Or.inl rfl) (h _ ?_)))
    exact ((h1.p4 (by decide) ec (hA.fl (i := 4) (by decide) 2)).p2 (congrArg (· + 1) e2)).p0 (i := 4) (by decide) rfl
theorem x_retire (d : Nat) : S_retire (sc_wpM (d + 3)) := fun I D K I0 S hA hd hx h => sc_open (d := d + 2) rfl (z_retire (sc_wpM (d + 2)) (x_writes (d + 0)) (x_floorMod16 (d + 1)) I D K I0 S hA hd hx h)
abbrev S_leaveEnds (C : sc_CT) : Prop := ∀ (I : sc_I) (D : sc_R) (K : sc_RT) (I0 S : sc_I) (hA : c_AM I0 I D S) (hd : vp_in (S 1 4 1) 16) (hx : vp_in (c_rm (S 2 0 13)) 16) (ht : c_end S → ∀ I', c_AM I0 I' D (c_lv S) → K (some (.inl 1)) I' D) (hf : ¬ c_end S → ∀ I', c_AM I0 I' D (c_lv S) → K (some (.inl 0)) I' D), C 19 [.inr (2, 0), .inr (0, D 6 0 4)] I D K
theorem z_leaveEnds (C : sc_CT) (c1 : S_takeFault C) (c2 : S_does C) (c3 : S_empty5 C) (c4 : S_retire C) (I : sc_I) (D : sc_R) (K : sc_RT) (I0 S : sc_I) (hA : c_AM I0 I D S) (hd : vp_in (S 1 4 1) 16) (hx : vp_in (c_rm (S 2 0 13)) 16) (ht : c_end S → ∀ I', c_AM I0 I' D (c_lv S) → K (some (.inl 1)) I' D) (hf : ¬ c_end S → ∀ I', c_AM I0 I' D (c_lv S) → K (some (.inl 0)) I' D) : sc_wp C K (sc_t 19) 5000 (sc_t 19) (sc_al 0 [.inr (2, 0), .inr (0, D 6 0 4)]) [] I D := by
  unfold c_lv at ht hf
  by_cases h0 : S 0 4 0 = 0
  · rw [if_pos h0] at hf
    exact br_t ((hA.fl (i := 4) (by decide) 0).trans h0) (And.intro (Or.inl rfl) (hf (fun z => z.1 h0) _ hA))
  rw [if_neg h0] at ht hf
  refine br_f (fun z => h0 ((hA.fl (i := 4) (by decide) 0).symm.trans z)) ?_
  by_cases h1 : S 0 4 5 = 0
  · rw [if_pos h1] at ht hf
    refine br_t ((hA.fl (i := 4) (by decide) 5).trans h1) ?_
    refine c2 _ _ _ _ _ (fun a => br_f (by decide) ?_) (fun a => br_t (by decide) ?_)
    · rw [hA.does (by decide)] at a
      rw [if_pos a.2.2] at ht
      exact c3 _ _ _ I0 S hA (fun I' h' => And.intro (Or.inr rfl) (And.intro (Or.inr rfl) (ht ⟨h0, Or.inr a.2.2⟩ _ (h'.p2 rfl))))
    · rw [hA.does (by decide)] at a
      have h2 : ¬ S 1 4 0 = 18 := fun e => a ⟨h0, h1, e⟩
      rw [if_neg h2] at hf
      exact c4 _ _ _ I0 S hA hd hx (fun I' h' => And.intro (Or.inl rfl) (hf (fun z => z.2.elim (fun w => w h1) h2) _ h'))
  · rw [if_neg h1] at ht
    refine br_f (fun z => h1 ((hA.fl (i := 4) (by decide) 5).symm.trans z)) ?_
    exact c1 _ _ _ I0 S hA (fun I' h' => And.intro (Or.inr rfl) (ht ⟨h0, Or.inl h1⟩ _ h'))
theorem x_leaveEnds (d : Nat) : S_leaveEnds (sc_wpM (d + 4)) := fun I D K I0 S hA hd hx ht hf => sc_open (d := d + 3) rfl (z_leaveEnds (sc_wpM (d + 3)) (x_takeFault (d + 1)) (x_does (d + 2)) (x_empty5 (d + 2)) (x_retire (d + 0)) I D K I0 S hA hd hx ht hf)
def c_mem (S : sc_I) : sc_I := if c_do S 3 11 then c_mv 3 (sc_u S 0 3 7 (S 4 0 (S 0 3 6).toNatClampNeg)) else if c_do S 3 12 then c_mv 3 (sc_u S 4 0 (S 0 3 6).toNatClampNeg (S 0 3 7)) else c_mv 3 S
abbrev S_passMemory (C : sc_CT) : Prop := ∀ (I : sc_I) (D : sc_R) (K : sc_RT) (I0 S : sc_I) (hA : c_AM I0 I D S) (ha : (c_do S 3 11 ∨ c_do S 3 12) → vp_in (S 0 3 6) 32) (h : ∀ I' D', c_AM I0 I' D' (c_mem S) → K none I' D'), C 21 [.inr (2, 0), .inr (0, D 6 0 3)] I D K
theorem z_passMemory (C : sc_CT) (c1 : S_does C) (c2 : S_move3 C) (I : sc_I) (D : sc_R) (K : sc_RT) (I0 S : sc_I) (hA : c_AM I0 I D S) (ha : (c_do S 3 11 ∨ c_do S 3 12) → vp_in (S 0 3 6) 32) (h : ∀ I' D', c_AM I0 I' D' (c_mem S) → K none I' D') : sc_wp C K (sc_t 21) 5000 (sc_t 21) (sc_al 0 [.inr (2, 0), .inr (0, D 6 0 3)]) [] I D := by
  unfold c_mem at h
  have e6 := hA.fl (i := 3) (by decide) 6
  refine c1 _ _ _ _ _ (fun a => br_f (by decide) ?_) (fun a => br_t (by decide) ?_)
  · rw [hA.does (by decide)] at a
    rw [if_pos a] at h
    have hv : vp_in (I 0 (D 6 0 3) 6) 32 := by rw [e6]; exact ha (Or.inl a)
    exact And.intro hv (c2 _ _ _ I0 _ (hA.p0 (i := 3) (s := 7) (by decide) ((hA.ar (by decide) _).trans (by rw [e6]))) (fun D' h' => h _ _ h'))
  · rw [hA.does (by decide)] at a
    rw [if_neg a] at h
    refine c1 _ _ _ _ _ (fun b => br_f (by decide) ?_) (fun b => br_t (by decide) ?_)
    · rw [hA.does (by decide)] at b
      rw [if_pos b] at h
      have hv : vp_in (I 0 (D 6 0 3) 6) 32 := by rw [e6]; exact ha (Or.inr b)
      exact And.intro hv (c2 _ _ _ I0 _ (hA.p4 (by decide) (by rw [e6]) (hA.fl (i := 3) (by decide) 7)) (fun D' h' => h _ _ h'))
    · rw [hA.does (by decide)] at b
      rw [if_neg b] at h
      exact c2 _ _ _ I0 _ hA (fun D' h' => h _ _ h')
theorem x_passMemory (d : Nat) : S_passMemory (sc_wpM (d + 2)) := fun I D K I0 S hA ha h => sc_open (d := d + 1) rfl (z_passMemory (sc_wpM (d + 1)) (x_does (d + 0)) (x_move3 (d + 0)) I D K I0 S hA ha h)
abbrev c_nl (S : sc_I) : Prop := c_do S 4 11 ∧ ((c_us (S 1 2 0) ∧ c_wr S 4 (S 1 2 2)) ∨ (c_ut (S 1 2 0) ∧ c_wr S 4 (S 1 2 3)))
abbrev S_needsLoad (C : sc_CT) : Prop := ∀ (I : sc_I) (D : sc_R) (K : sc_RT) (I0 S : sc_I) (hA : c_AM I0 I D S) (ht : c_nl S → K (some (.inl 1)) I D) (hf : ¬ c_nl S → K (some (.inl 0)) I D), C 22 [.inr (2, 0), .inr (1, D 0 (D 6 0 2) 1)] I D K
theorem z_needsLoad (C : sc_CT) (c1 : S_does C) (c2 : S_usesS C) (c3 : S_usesT C) (c4 : S_writes C) (I : sc_I) (D : sc_R) (K : sc_RT) (I0 S : sc_I) (hA : c_AM I0 I D S) (ht : c_nl S → K (some (.inl 1)) I D) (hf : ¬ c_nl S → K (some (.inl 0)) I D) : sc_wp C K (sc_t 22) 5000 (sc_t 22) (sc_al 0 [.inr (2, 0), .inr (1, D 0 (D 6 0 2) 1)]) [] I D := by
  have e0 := hA.ir (i := 2) (by decide) 0
  have e2 := hA.ir (i := 2) (by decide) 2
  have e3 := hA.ir (i := 2) (by decide) 3
  refine And.intro (sc_vi (by decide)) (c1 _ _ _ _ _ (fun a => br_f (by decide) ?_) (fun a => br_t (by decide) (And.intro (Or.inl rfl) (hf (fun z => a ((hA.does (by decide) _).mpr z.1))))))
  rw [hA.does (by decide)] at a
  refine c2 _ _ _ _ (fun b => br_f (by decide) (c4 _ _ _ _ _ (fun b2 => br_f (by decide) (And.intro (Or.inr rfl) (ht ?_))) (fun b2 => br_t (by decide) ?_))) (fun b => br_t (by decide) ?_)
  · rw [hA.wr (by decide), e2] at b2
    rw [e0] at b
    exact ⟨a, Or.inl ⟨b, b2⟩⟩
  · rw [hA.wr (by decide), e2] at b2
    refine c3 _ _ _ _ (fun d1 => br_f (by decide) (c4 _ _ _ _ _ (fun d2 => br_f (by decide) (And.intro (Or.inr rfl) (ht ?_))) (fun d2 => br_t (by decide) (And.intro (Or.inl rfl) (hf ?_))))) (fun d1 => br_t (by decide) (And.intro (Or.inl rfl) (hf ?_)))
    · rw [hA.wr (by decide), e3] at d2
      rw [e0] at d1
      exact ⟨a, Or.inr ⟨d1, d2⟩⟩
    · rw [hA.wr (by decide), e3] at d2
      exact fun z => z.2.elim (fun w => b2 w.2) (fun w => d2 w.2)
    · rw [e0] at d1
      exact fun z => z.2.elim (fun w => b2 w.2) (fun w => d1 w.1)
  · rw [e0] at b
    refine c3 _ _ _ _ (fun d1 => br_f (by decide) (c4 _ _ _ _ _ (fun d2 => br_f (by decide) (And.intro (Or.inr rfl) (ht ?_))) (fun d2 => br_t (by decide) (And.intro (Or.inl rfl) (hf ?_))))) (fun d1 => br_t (by decide) (And.intro (Or.inl rfl) (hf ?_)))
    · rw [hA.wr (by decide), e3] at d2
      rw [e0] at d1
      exact ⟨a, Or.inr ⟨d1, d2⟩⟩
    · rw [hA.wr (by decide), e3] at d2
      exact fun z => z.2.elim (fun w => b w.1) (fun w => d2 w.2)
    · rw [e0] at d1
      exact fun z => z.2.elim (fun w => b w.1) (fun w => d1 w.1)
theorem x_needsLoad (d : Nat) : S_needsLoad (sc_wpM (d + 4)) := fun I D K I0 S hA ht hf => sc_open (d := d + 3) rfl (z_needsLoad (sc_wpM (d + 3)) (x_does (d + 2)) (x_usesS (d + 0)) (x_usesT (d + 1)) (x_writes (d + 1)) I D K I0 S hA ht hf)
def c_hd (S : sc_I) (r : Int32) : Int32 := if c_wr S 4 r then S 0 4 7 else S 4 1 r.toNatClampNeg
abbrev S_handedOn (C : sc_CT) : Prop := ∀ (I : sc_I) (D : sc_R) (K : sc_RT) (I0 S : sc_I) (r : Int32) (hA : c_AM I0 I D S) (hr : vp_in r 16) (h : K (some (.inl (c_hd S r))) I D), C 23 [.inr (2, 0), .inl r] I D K
theorem z_handedOn (C : sc_CT) (c1 : S_writes C) (I : sc_I) (D : sc_R) (K : sc_RT) (I0 S : sc_I) (r : Int32) (hA : c_AM I0 I D S) (hr : vp_in r 16) (h : K (some (.inl (c_hd S r))) I D) : sc_wp C K (sc_t 23) 5000 (sc_t 23) (sc_al 0 [.inr (2, 0), .inl r]) [] I D := by
  unfold c_hd at h
  refine And.intro (sc_vi (by decide)) (c1 _ _ _ _ _ (fun a => br_f (by decide) ?_) (fun a => br_t (by decide) ?_))
  · have a : c_wr S 4 r := (hA.wr (i := 4) (by decide) r).mp a
    rw [if_pos a, ← hA.fl (i := 4) (by decide) 7] at h
    exact h
  · have a : ¬ c_wr S 4 r := fun z => a ((hA.wr (i := 4) (by decide) r).mpr z)
    rw [if_neg a, ← hA.ar (j := 1) (by decide)] at h
    exact And.intro hr h
theorem x_handedOn (d : Nat) : S_handedOn (sc_wpM (d + 3)) := fun I D K I0 S r hA hr h => sc_open (d := d + 2) rfl (z_handedOn (sc_wpM (d + 2)) (x_writes (d + 0)) I D K I0 S r hA hr h)
def c_fo (op n s t : Int32) : Int32 := if op = 17 then 2 else if c_td op ∧ ¬ (0 ≤ s + n ∧ s + n < 32) then 3 else if op = 8 ∧ t = 0 then 4 else 0
abbrev S_faultOf (C : sc_CT) : Prop := ∀ (I : sc_I) (D : sc_R) (K : sc_RT) (a : Nat) (s t : Int32) (h : K (some (.inl (c_fo (I 1 a 0) (I 1 a 4) s t))) I D), C 25 [.inr (1, a), .inl s, .inl t] I D K
theorem z_faultOf (C : sc_CT) (c1 : S_touchesData C) (c2 : S_isWord C) (I : sc_I) (D : sc_R) (K : sc_RT) (a : Nat) (s t : Int32) (h : K (some (.inl (c_fo (I 1 a 0) (I 1 a 4) s t))) I D) : sc_wp C K (sc_t 25) 5000 (sc_t 25) (sc_al 0 [.inr (1, a), .inl s, .inl t]) [] I D := by
  unfold c_fo at h
  by_cases b1 : I 1 a 0 = 17
  · rw [if_pos b1] at h
    exact br_t b1 h
  rw [if_neg b1] at h
  refine br_f b1 ?_
  have tail : ∀ n : Nat, ¬ (c_td (I 1 a 0) ∧ ¬ (0 ≤ s + I 1 a 4 ∧ s + I 1 a 4 < 32)) → sc_wp C K (sc_t 25) (n + 40) (sc_sf (sc_t 25) 32) (sc_al 0 [.inr (1, a), .inl s, .inl t]) [] I D := by
    intro n b2
    rw [if_neg b2] at h
    by_cases b3 : I 1 a 0 = 8
    · refine br_t b3 ?_
      by_cases b4 : t = 0
      · rw [if_pos ⟨b3, b4⟩] at h
        exact br_t b4 h
      · rw [if_neg (fun z => b4 z.2)] at h
        exact br_f b4 h
    · rw [if_neg (fun z => b3 z.1)] at h
      exact br_f b3 h
  refine c1 _ _ _ _ (fun b => br_f (by decide) (c2 _ _ _ _ (fun b2 => br_f (by decide) (tail _ (fun z => z.2 b2))) (fun b2 => br_t (by decide) ?_))) (fun b => br_t (by decide) (tail _ (fun z => b z.1)))
  rw [if_pos ⟨b, b2⟩] at h
  exact h
theorem x_faultOf (d : Nat) : S_faultOf (sc_wpM (d + 2)) := fun I D K a s t h => sc_open (d := d + 1) rfl (z_faultOf (sc_wpM (d + 1)) (x_touchesData (d + 0)) (x_isWord (d + 0)) I D K a s t h)
abbrev c_go (op s t : Int32) : Prop := (op = 13 ∧ s = t) ∨ (op = 14 ∧ ¬ s = t) ∨ op = 15 ∨ op = 16
abbrev S_goesElse (C : sc_CT) : Prop := ∀ (I : sc_I) (D : sc_R) (K : sc_RT) (op s t : Int32) (ht : c_go op s t → K (some (.inl 1)) I D) (hf : ¬ c_go op s t → K (some (.inl 0)) I D), C 27 [.inl op, .inl s, .inl t] I D K
theorem z_goesElse (C : sc_CT)  (I : sc_I) (D : sc_R) (K : sc_RT) (op s t : Int32) (ht : c_go op s t → K (some (.inl 1)) I D) (hf : ¬ c_go op s t → K (some (.inl 0)) I D) : sc_wp C K (sc_t 27) 5000 (sc_t 27) (sc_al 0 [.inl op, .inl s, .inl t]) [] I D := by
  refine And.intro (fun a => ?_) (fun a => And.intro (fun b => ?_) (fun b => And.intro (fun d => ?_) (fun d => And.intro (fun e => ?_) (fun e => ?_))))
  · have a : op = 13 := a
    refine And.intro (fun z => And.intro (Or.inr rfl) (ht (Or.inl ⟨a, z⟩))) (fun z => And.intro (Or.inl rfl) (hf ?_))
    subst a
    rintro (w | w | w | w)
    · exact z w.2
    · exact absurd w.1 (by decide)
    · exact absurd w (by decide)
    · exact absurd w (by decide)
  · have b : op = 14 := b
    refine And.intro (fun z => And.intro (Or.inl rfl) (hf ?_)) (fun z => And.intro (Or.inr rfl) (ht (Or.inr (Or.inl ⟨b, z⟩))))
    subst b
    rintro (w | w | w | w)
    · exact absurd w.1 (by decide)
    · exact w.2 z
    · exact absurd w (by decide)
    · exact absurd w (by decide)
  · exact And.intro (Or.inr rfl) (ht (Or.inr (Or.inr (Or.inl d))))
  · exact And.intro (Or.inr rfl) (ht (Or.inr (Or.inr (Or.inr e))))
  · refine And.intro (Or.inl rfl) (hf ?_)
    rintro (w | w | w | w)
    · exact a w.1
    · exact b w.1
    · exact d w
    · exact e w
theorem x_goesElse (d : Nat) : S_goesElse (sc_wpM (d + 1)) := fun I D K op s t ht hf => sc_open (d := d) rfl (z_goesElse (sc_wpM (d))  I D K op s t ht hf)
def c_tg (op n pl s : Int32) : Int32 := (if op = 16 then s else pl) + n
abbrev S_target (C : sc_CT) : Prop := ∀ (I : sc_I) (D : sc_R) (K : sc_RT) (f : Nat) (s : Int32) (h : K (some (.inl (c_tg (I 1 (D 0 f 1) 0) (I 1 (D 0 f 1) 4) (I 0 f 2) s))) I D), C 30 [.inr (0, f), .inl s] I D K
theorem z_target (C : sc_CT)  (I : sc_I) (D : sc_R) (K : sc_RT) (f : Nat) (s : Int32) (h : K (some (.inl (c_tg (I 1 (D 0 f 1) 0) (I 1 (D 0 f 1) 4) (I 0 f 2) s))) I D) : sc_wp C K (sc_t 30) 5000 (sc_t 30) (sc_al 0 [.inr (0, f), .inl s]) [] I D := by
  unfold c_tg at h
  by_cases b : I 1 (D 0 f 1) 0 = 16
  · rw [if_pos b] at h
    exact br_t b h
  · rw [if_neg b] at h
    exact br_f b h
theorem x_target (d : Nat) : S_target (sc_wpM (d + 1)) := fun I D K f s h => sc_open (d := d) rfl (z_target (sc_wpM (d))  I D K f s h)
def c_vo (op n pl s t : Int32) : Int32 := if op = 0 then s + t else if op = 1 then s - t else if op = 2 then s &&& t else if op = 3 then s ||| t else if op = 4 then s ^^^ t else if op = 5 then s <<< (t &&& 31 &&& 31) else if op = 6 then (if s < t then 1 else 0) else if op = 7 then s * t else if op = 8 then (if t = 0 then 0 else s / t) else if op = 9 then s + n else if op = 10 then n else if op = 12 then t else if op = 15 then pl + 1 else if op = 16 then pl + 1 else 0
abbrev S_valueOf (C : sc_CT) : Prop := ∀ (I : sc_I) (D : sc_R) (K : sc_RT) (f : Nat) (s t : Int32) (h : K (some (.inl (c_vo (I 1 (D 0 f 1) 0) (I 1 (D 0 f 1) 4) (I 0 f 2) s t))) I D), C 26 [.inr (0, f), .inl s, .inl t] I D K
theorem z_valueOf (C : sc_CT)  (I : sc_I) (D : sc_R) (K : sc_RT) (f : Nat) (s t : Int32) (h : K (some (.inl (c_vo (I 1 (D 0 f 1) 0) (I 1 (D 0 f 1) 4) (I 0 f 2) s t))) I D) : sc_wp C K (sc_t 26) 5000 (sc_t 26) (sc_al 0 [.inr (0, f), .inl s, .inl t]) [] I D := by
  unfold c_vo at h
  refine And.intro (fun h0 => ?_) (fun h0 => ?_)
  · rw [if_pos h0] at h; exact h
  rw [if_neg h0] at h
  refine And.intro (fun h0 => ?_) (fun h0 => ?_)
  · rw [if_pos h0] at h; exact h
  rw [if_neg h0] at h
  refine And.intro (fun h0 => ?_) (fun h0 => ?_)
  · rw [if_pos h0] at h; exact h
  rw [if_neg h0] at h
  refine And.intro (fun h0 => ?_) (fun h0 => ?_)
  · rw [if_pos h0] at h; exact h
  rw [if_neg h0] at h
  refine And.intro (fun h0 => ?_) (fun h0 => ?_)
  · rw [if_pos h0] at h; exact h
  rw [if_neg h0] at h
  refine And.intro (fun h0 => ?_) (fun h0 => ?_)
  · rw [if_pos h0] at h; exact h
  rw [if_neg h0] at h
  refine And.intro (fun h0 => ?_) (fun h0 => ?_)
  · rw [if_pos h0] at h
    refine And.intro (fun h1 => ?_) (fun h1 => ?_)
    · rw [if_neg (by grind)] at h; exact h
    · rw [if_pos (by grind)] at h; exact h
  rw [if_neg h0] at h
  refine And.intro (fun h0 => ?_) (fun h0 => ?_)
  · rw [if_pos h0] at h; exact h
  rw [if_neg h0] at h
  refine And.intro (fun h0 => ?_) (fun h0 => ?_)
  · rw [if_pos h0] at h
    refine And.intro (fun h1 => ?_) (fun h1 => ?_)
    · rw [if_pos h1] at h; exact h
    · rw [if_neg h1] at h; exact And.intro h1 h
  rw [if_neg h0] at h
  refine And.intro (fun h0 => ?_) (fun h0 => ?_)
  · rw [if_pos h0] at h; exact h
  rw [if_neg h0] at h
  refine And.intro (fun h0 => ?_) (fun h0 => ?_)
  · rw [if_pos h0] at h; exact h
  rw [if_neg h0] at h
  refine And.intro (fun h11 => ?_) (fun h11 => ?_)
  · have h11 : I 1 (D 0 f 1) 0 = 11 := h11
    rw [if_neg (by rw [h11]; decide), if_neg (by rw [h11]; decide), if_neg (by rw [h11]; decide)] at h; exact h
  refine And.intro (fun h0 => ?_) (fun h0 => ?_)
  · rw [if_pos h0] at h; exact h
  rw [if_neg h0] at h
  refine And.intro (fun h13 => ?_) (fun h13 => ?_)
  · have h13 : I 1 (D 0 f 1) 0 = 13 := h13
    rw [if_neg (by rw [h13]; decide), if_neg (by rw [h13]; decide)] at h; exact h
  refine And.intro (fun h14 => ?_) (fun h14 => ?_)
  · have h14 : I 1 (D 0 f 1) 0 = 14 := h14
    rw [if_neg (by rw [h14]; decide), if_neg (by rw [h14]; decide)] at h; exact h
  refine And.intro (fun h0 => ?_) (fun h0 => ?_)
  · rw [if_pos h0] at h; exact h
  rw [if_neg h0] at h
  refine And.intro (fun h0 => ?_) (fun h0 => ?_)
  · rw [if_pos h0] at h; exact h
  rw [if_neg h0] at h
  exact h
theorem x_valueOf (d : Nat) : S_valueOf (sc_wpM (d + 1)) := fun I D K f s t h => sc_open (d := d) rfl (z_valueOf (sc_wpM (d))  I D K f s t h)
