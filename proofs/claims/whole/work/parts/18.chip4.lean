def c_rch (S : sc_I) : sc_I := if S 0 2 0 = 0 then S else if c_nl S then sc_u S 2 0 14 (S 2 0 14 + 1) else if sc_wc (S 1 2 0) ≤ S 0 2 4 + 1 then c_mv 2 (c_fin (sc_u S 0 2 4 (S 0 2 4 + 1))) else sc_u (sc_u S 0 2 4 (S 0 2 4 + 1)) 2 0 14 (S 2 0 14 + 1)
abbrev S_workIn (C : sc_CT) : Prop := ∀ (I : sc_I) (D : sc_R) (K : sc_RT) (I0 S : sc_I) (hA : c_AM I0 I D S) (hs : vp_in (S 1 2 2) 16) (ht : vp_in (S 1 2 3) 16) (h : ∀ I' D', c_AM I0 I' D' (c_rch S) → K none I' D'), C 33 [.inr (2, 0), .inr (0, D 6 0 2)] I D K
theorem z_workIn (C : sc_CT) (c1 : S_needsLoad C) (c2 : S_workCycles C) (c3 : S_finish C) (c4 : S_move2 C) (I : sc_I) (D : sc_R) (K : sc_RT) (I0 S : sc_I) (hA : c_AM I0 I D S) (hs : vp_in (S 1 2 2) 16) (ht : vp_in (S 1 2 3) 16) (h : ∀ I' D', c_AM I0 I' D' (c_rch S) → K none I' D') : sc_wp C K (sc_t 33) 5000 (sc_t 33) (sc_al 0 [.inr (2, 0), .inr (0, D 6 0 2)]) [] I D := by
  unfold c_rch at h
  have e0 := hA.fl (i := 2) (by decide) 0
  by_cases h0 : S 0 2 0 = 0
  · rw [if_pos h0] at h
    exact br_t (e0.trans h0) (h _ _ hA)
  rw [if_neg h0] at h
  refine br_f (fun z => h0 (e0.symm.trans z)) ?_
  refine c1 _ _ _ I0 S hA (fun a => br_f (by decide) ?_) (fun a => br_t (by decide) ?_)
  · rw [if_pos a] at h
    exact h _ _ (hA.p2 (congrArg (· + 1) (hA.sc 14)))
  · rw [if_neg a] at h
    have A1 := hA.p0 (i := 2) (s := 4) (by decide) (congrArg (· + 1) (hA.fl (i := 2) (by decide) 4))
    have w1 : _ = S 1 2 0 := A1.ir (i := 2) (by decide) 0
    have w2 : _ = S 0 2 4 + 1 := A1.fl (i := 2) (by decide) 4
    refine c2 _ _ _ _ ?_
    by_cases b : sc_wc (S 1 2 0) ≤ S 0 2 4 + 1
    · rw [if_pos b] at h
      refine br_t (by rw [w1, w2]; exact b) ?_
      exact c3 _ _ _ I0 _ A1 hs ht (fun I2 A2 => c4 _ _ _ I0 _ A2 (fun D' A3 => h _ _ A3))
    · rw [if_neg b] at h
      refine br_f (by rw [w1, w2]; exact b) ?_
      exact h _ _ (A1.p2 (congrArg (· + 1) (hA.sc 14)))
theorem x_workIn (d : Nat) : S_workIn (sc_wpM (d + 5)) := fun I D K I0 S hA hs ht h => sc_open (d := d + 4) rfl (z_workIn (sc_wpM (d + 4)) (x_needsLoad (d + 0)) (x_workCycles (d + 3)) (x_finish (d + 0)) (x_move2 (d + 3)) I D K I0 S hA hs ht h)
def c_gn (S : sc_I) (op n pl : Int32) : Int32 := if op = 15 ∨ (c_br op ∧ ¬ S 4 2 (pl &&& 7).toNatClampNeg < 2) then pl + n else pl + 1
abbrev S_guess (C : sc_CT) : Prop := ∀ (I : sc_I) (D : sc_R) (K : sc_RT) (I0 S : sc_I) (a : Nat) (pl : Int32) (hA : c_AM I0 I D S) (h : K (some (.inl (c_gn S (I 1 a 0) (I 1 a 4) pl))) I D), C 34 [.inr (2, 0), .inr (1, a), .inl pl] I D K
theorem z_guess (C : sc_CT) (c1 : S_isBranch C) (c2 : S_floorMod8 C) (I : sc_I) (D : sc_R) (K : sc_RT) (I0 S : sc_I) (a : Nat) (pl : Int32) (hA : c_AM I0 I D S) (h : K (some (.inl (c_gn S (I 1 a 0) (I 1 a 4) pl))) I D) : sc_wp C K (sc_t 34) 5000 (sc_t 34) (sc_al 0 [.inr (2, 0), .inr (1, a), .inl pl]) [] I D := by
  unfold c_gn at h
  have e := hA.ar (j := 2) (by decide) (pl &&& 7).toNatClampNeg
  by_cases b1 : I 1 a 0 = 15
  · rw [if_pos (Or.inl b1)] at h
    exact br_t b1 (br_f (by decide) h)
  refine br_f b1 (c1 _ _ _ _ (fun b2 => br_f (by decide) (c2 _ _ _ _ (And.intro (m_and7 _) ?_))) (fun b2 => br_t (by decide) ?_))
  · by_cases b3 : S 4 2 (pl &&& 7).toNatClampNeg < 2
    · rw [if_neg (fun z => z.elim b1 (fun w => w.2 b3))] at h
      exact br_t (by rw [e]; exact b3) (br_t (by decide) h)
    · rw [if_pos (Or.inr ⟨b2, b3⟩)] at h
      exact br_f (by rw [e]; exact b3) (br_f (by decide) h)
  · rw [if_neg (fun z => z.elim b1 (fun w => b2 w.1))] at h
    exact br_t (by decide) h
theorem x_guess (d : Nat) : S_guess (sc_wpM (d + 2)) := fun I D K I0 S a pl hA h => sc_open (d := d + 1) rfl (z_guess (sc_wpM (d + 1)) (x_isBranch (d + 0)) (x_floorMod8 (d + 0)) I D K I0 S a pl hA h)
def c_fw (p : Nat) (fl : Int32) (S : sc_I) : sc_I := sc_u (sc_u (sc_u (sc_u (c_in p (sc_u (sc_u S 0 0 0 1) 0 0 2 (S 2 0 7))) 0 0 5 fl) 0 0 4 0) 0 0 6 0) 0 0 7 0
def c_fx (p : Nat) (fl : Int32) (S : sc_I) : sc_I := sc_u (sc_u (c_fw p fl S) 0 0 3 (c_gn S (S 7 p 0) (S 7 p 4) (S 2 0 7))) 2 0 7 (c_gn S (S 7 p 0) (S 7 p 4) (S 2 0 7))
abbrev c_fd (w : Int32) : Prop := ¬ w < 0 ∧ ¬ 64 ≤ w
def c_ft0 (S : sc_I) : sc_I := if S 0 0 0 = 0 then (if c_fd (S 2 0 7) then c_fx (S 2 0 7).toNatClampNeg 0 S else c_fx 64 1 S) else S
theorem c_fd_in {w : Int32} (h : c_fd w) : vp_in w 64 := by
  have a : (0 : Int) ≤ w.toInt := Int.not_lt.mp (fun z => h.1 (Int32.lt_iff_toInt_lt.mpr z))
  have b : w.toInt < (64 : Int) := Int.not_le.mp (fun z => h.2 (Int32.le_iff_toInt_le.mpr z))
  exact vp_in_iff.mpr ⟨a, b⟩
theorem c_gn_c {S : sc_I} {a a' b b' p p' : Int32} (h1 : a = a') (h2 : b = b') (h3 : p = p') : c_gn S a b p = c_gn S a' b' p' := by rw [h1, h2, h3]
abbrev S_fetchIf (C : sc_CT) : Prop := ∀ (I : sc_I) (D : sc_R) (K : sc_RT) (I0 S : sc_I) (hA : c_AM I0 I D S) (h : ∀ I' D', c_AM I0 I' D' (c_ft0 S) → K none I' D'), C 35 [.inr (2, 0), .inr (0, D 6 0 0)] I D K
set_option maxRecDepth 100000 in
set_option maxHeartbeats 2000000 in
theorem z_fetchIf (C : sc_CT) (c1 : S_guess C) (I : sc_I) (D : sc_R) (K : sc_RT) (I0 S : sc_I) (hA : c_AM I0 I D S) (h : ∀ I' D', c_AM I0 I' D' (c_ft0 S) → K none I' D') : sc_wp C K (sc_t 35) 5000 (sc_t 35) (sc_al 0 [.inr (2, 0), .inr (0, D 6 0 0)]) [] I D := by
  unfold c_ft0 at h
  have e0 := hA.fl (i := 0) (by decide) 0
  have ew := hA.sc 7
  by_cases h0 : S 0 0 0 = 0
  · rw [if_pos h0] at h
    refine br_t (e0.trans h0) ?_
    have A1 := (hA.p0 (i := 0) (s := 0) (v := 1) (by decide) rfl).p0 (i := 0) (s := 2) (by decide) ew
    by_cases hf : c_fd (S 2 0 7)
    · rw [if_pos hf] at h
      have hv : vp_in (I 2 0 7) 64 := by rw [ew]; exact c_fd_in hf
      have hn : (I 2 0 7).toNatClampNeg < 64 := sc_cln hv
      have A2 := A1.ins (a := D 7 0 (I 2 0 7).toNatClampNeg) (p := (S 2 0 7).toNatClampNeg) (by rw [← ew]; exact hA.1.2.2.2.1 _ hn)
      have A3 := (((A2.p0 (i := 0) (s := 5) (v := 0) (by decide) rfl).p0 (i := 0) (s := 4) (v := 0) (by decide) rfl).p0 (i := 0) (s := 6) (v := 0) (by decide) rfl).p0 (i := 0) (s := 7) (v := 0) (by decide) rfl
      have q0 : _ = S 7 (S 2 0 7).toNatClampNeg 0 := A3.ir (i := 0) (by decide) 0
      have q4 : _ = S 7 (S 2 0 7).toNatClampNeg 4 := A3.ir (i := 0) (by decide) 4
      refine br_f (by rw [ew]; exact hf.1) (br_f (by rw [ew]; exact hf.2) (And.intro (Or.inr rfl) (br_f (by decide) (And.intro hv (br_f (by decide) ?_)))))
      refine c1 _ _ _ I0 (c_fw (S 2 0 7).toNatClampNeg 0 S) _ _ A3 ?_
      have A4 := A3.p0 (i := 0) (s := 3) (by decide) (c_gn_c (S := c_fw (S 2 0 7).toNatClampNeg 0 S) q0 q4 ew)
      exact h _ _ (A4.p2 (A4.fl (i := 0) (by decide) 3))
    · rw [if_neg hf] at h
      have A2 := A1.ins (a := D 2 0 0) (p := 64) hA.1.2.2.2.2.1
      have A3 := (((A2.p0 (i := 0) (s := 5) (v := 1) (by decide) rfl).p0 (i := 0) (s := 4) (v := 0) (by decide) rfl).p0 (i := 0) (s := 6) (v := 0) (by decide) rfl).p0 (i := 0) (s := 7) (v := 0) (by decide) rfl
      have q0 : _ = S 7 64 0 := A3.ir (i := 0) (by decide) 0
      have q4 : _ = S 7 64 4 := A3.ir (i := 0) (by decide) 4
      have A4 := A3.p0 (i := 0) (s := 3) (by decide) (c_gn_c (S := c_fw 64 1 S) q0 q4 ew)
      by_cases hl : S 2 0 7 < 0
      · refine br_t (by rw [ew]; exact hl) (And.intro (Or.inr rfl) (br_t (by decide) (br_t (by decide) (c1 _ _ _ I0 (c_fw 64 1 S) _ _ A3 ?_))))
        exact h _ _ (A4.p2 (A4.fl (i := 0) (by decide) 3))
      · have hg : 64 ≤ S 2 0 7 := Classical.byContradiction (fun z => hf ⟨hl, z⟩)
        refine br_f (by rw [ew]; exact hl) (br_t (by rw [ew]; exact hg) (And.intro (Or.inr rfl) (br_t (by decide) (br_t (by decide) (c1 _ _ _ I0 (c_fw 64 1 S) _ _ A3 ?_)))))
        exact h _ _ (A4.p2 (A4.fl (i := 0) (by decide) 3))
  · rw [if_neg h0] at h
    exact br_f (fun z => h0 (e0.symm.trans z)) (h _ _ hA)
theorem x_fetchIf (d : Nat) : S_fetchIf (sc_wpM (d + 3)) := fun I D K I0 S hA h => sc_open (d := d + 2) rfl (z_fetchIf (sc_wpM (d + 2)) (x_guess (d + 0)) I D K I0 S hA h)
def c_tick (S : sc_I) : sc_I := sc_u S 2 0 12 (S 2 0 12 + 1)
def c_cyc (S : sc_I) : sc_I := if c_end (c_tick S) then c_lv (c_tick S) else c_ft0 (c_mv 0 (c_mv 1 (c_rch (c_mem (c_lv (c_tick S))))))
/-- what a cycle of the class needs of its state -/
def c_ok (S : sc_I) : Prop := vp_in (S 1 4 1) 16 ∧ vp_in (c_rm (S 2 0 13)) 16 ∧ ((c_do (c_lv (c_tick S)) 3 11 ∨ c_do (c_lv (c_tick S)) 3 12) → vp_in (c_lv (c_tick S) 0 3 6) 32) ∧ vp_in (c_mem (c_lv (c_tick S)) 1 2 2) 16 ∧ vp_in (c_mem (c_lv (c_tick S)) 1 2 3) 16
abbrev S_runCycle (C : sc_CT) : Prop := ∀ (I : sc_I) (D : sc_R) (K : sc_RT) (I0 S : sc_I) (hA : c_AM I0 I D S) (ho : c_ok S) (h : ∀ I' D', c_AM I0 I' D' (c_cyc S) → K none I' D'), C 36 [.inr (2, 0)] I D K
theorem z_runCycle (C : sc_CT) (c1 : S_leaveEnds C) (c2 : S_passMemory C) (c3 : S_workIn C) (c4 : S_move1 C) (c5 : S_move0 C) (c6 : S_fetchIf C) (I : sc_I) (D : sc_R) (K : sc_RT) (I0 S : sc_I) (hA : c_AM I0 I D S) (ho : c_ok S) (h : ∀ I' D', c_AM I0 I' D' (c_cyc S) → K none I' D') : sc_wp C K (sc_t 36) 5000 (sc_t 36) (sc_al 0 [.inr (2, 0)]) [] I D := by
  obtain ⟨o1, o2, o3, o4, o5⟩ := ho
  unfold c_cyc at h
  refine And.intro (sc_vi (by decide)) (c1 _ _ _ I0 (c_tick S) (hA.p2 (congrArg (· + 1) (hA.sc 12))) o1 o2 (fun a I1 A1 => br_f (by decide) ?_) (fun a I1 A1 => br_t (by decide) ?_))
  · rw [if_pos a] at h
    exact h _ _ A1
  · rw [if_neg a] at h
    refine And.intro (sc_vi (by decide)) (c2 _ _ _ I0 _ A1 o3 (fun I2 D2 A2 => And.intro (sc_vi (by decide)) (c3 _ _ _ I0 _ A2 o4 o5 (fun I3 D3 A3 => c4 _ _ _ I0 _ A3 (fun D4 A4 => c5 _ _ _ I0 _ A4 (fun D5 A5 => And.intro (sc_vi (by decide)) (c6 _ _ _ I0 _ A5 (fun I6 D6 A6 => ?_))))))))
    exact h _ _ A6
theorem x_runCycle (d : Nat) : S_runCycle (sc_wpM (d + 6)) := fun I D K I0 S hA ho h => sc_open (d := d + 5) rfl (z_runCycle (sc_wpM (d + 5)) (x_leaveEnds (d + 1)) (x_passMemory (d + 3)) (x_workIn (d + 0)) (x_move1 (d + 4)) (x_move0 (d + 4)) (x_fetchIf (d + 2)) I D K I0 S hA ho h)
abbrev S_checkArg (C : sc_CT) : Prop := ∀ (I : sc_I) (D : sc_R) (K : sc_RT) (v lo hi : Int32) (h0 : lo ≤ v ∧ v ≤ hi) (h : K none I D), C 9 [.inl v, .inl lo, .inl hi] I D K
theorem z_checkArg (C : sc_CT)  (I : sc_I) (D : sc_R) (K : sc_RT) (v lo hi : Int32) (h0 : lo ≤ v ∧ v ≤ hi) (h : K none I D) : sc_wp C K (sc_t 9) 5000 (sc_t 9) (sc_al 0 [.inl v, .inl lo, .inl hi]) [] I D := by
  exact br_f (by have := h0.1; grind) (br_t h0.2 h)
theorem x_checkArg (d : Nat) : S_checkArg (sc_wpM (d + 1)) := fun I D K v lo hi h0 h => sc_open (d := d) rfl (z_checkArg (sc_wpM (d))  I D K v lo hi h0 h)
abbrev S_checkIdx (C : sc_CT) : Prop := ∀ (I : sc_I) (D : sc_R) (K : sc_RT) (v n : Int32) (h0 : 0 ≤ v ∧ v < n) (h : K none I D), C 8 [.inl v, .inl n] I D K
theorem z_checkIdx (C : sc_CT)  (I : sc_I) (D : sc_R) (K : sc_RT) (v n : Int32) (h0 : 0 ≤ v ∧ v < n) (h : K none I D) : sc_wp C K (sc_t 8) 5000 (sc_t 8) (sc_al 0 [.inl v, .inl n]) [] I D := by
  exact br_f (by have := h0.1; grind) (br_t h0.2 h)
theorem x_checkIdx (d : Nat) : S_checkIdx (sc_wpM (d + 1)) := fun I D K v n h0 h => sc_open (d := d) rfl (z_checkIdx (sc_wpM (d))  I D K v n h0 h)
def c_run : Nat → sc_I → sc_I
  | 0, S => S
  | n + 1, S => if S 2 0 11 = 0 then c_run n (c_cyc S) else S
def c_oks : Nat → sc_I → Prop
  | 0, _ => True
  | n + 1, S => S 2 0 11 = 0 → c_ok S ∧ c_oks n (c_cyc S)
abbrev S_cycles (C : sc_CT) : Prop := ∀ (I : sc_I) (D : sc_R) (K : sc_RT) (I0 S : sc_I) (n : Int32) (hA : c_AM I0 I D S) (ha : 1 ≤ n ∧ n ≤ 300) (ho : c_oks n.toNatClampNeg S) (h : ∀ I' D', c_AM I0 I' D' (c_run n.toNatClampNeg S) → K (some (.inl (c_run n.toNatClampNeg S 2 0 13 - S 2 0 13))) I' D'), C 37 [.inr (2, 0), .inl n] I D K
set_option maxRecDepth 100000 in
set_option maxHeartbeats 2000000 in
theorem z_cycles (C : sc_CT) (c1 : S_checkArg C) (c2 : S_runCycle C) (I : sc_I) (D : sc_R) (K : sc_RT) (I0 S : sc_I) (n : Int32) (hA : c_AM I0 I D S) (ha : 1 ≤ n ∧ n ≤ 300) (ho : c_oks n.toNatClampNeg S) (h : ∀ I' D', c_AM I0 I' D' (c_run n.toNatClampNeg S) → K (some (.inl (c_run n.toNatClampNeg S 2 0 13 - S 2 0 13))) I' D') : sc_wp C K (sc_t 37) 5000 (sc_t 37) (sc_al 0 [.inr (2, 0), .inl n]) [] I D := by
  refine c1 _ _ _ _ _ _ ha ?_
  have hn : n.toInt = (n.toNatClampNeg : Int) ∧ n.toNatClampNeg ≤ 300 := by
    have e1 := Int32.le_iff_toInt_le.mp ha.1
    have e2 := Int32.le_iff_toInt_le.mp ha.2
    rw [show (1 : Int32).toInt = 1 from rfl] at e1
    rw [show (300 : Int32).toInt = 300 from rfl] at e2
    have e3 : n.toNatClampNeg = n.toInt.toNat := rfl
    omega
  have L : ∀ (j : Nat) (f : Nat) (i : Nat) (x : Int32) (J : sc_I) (E : sc_R) (T : sc_I), 14 * j + 12 ≤ f → x = nI i → i + j = n.toNatClampNeg → c_AM I0 J E T → c_oks j T → (∀ I' D', c_AM I0 I' D' (c_run j T) → K (some (.inl (c_run j T 2 0 13 - S 2 0 13))) I' D') → sc_wp C K (sc_t 37) f (sc_sf (sc_t 37) 15) [(3, .inl x), (2, .inl (I 2 0 13)), (0, .inr (2, 0)), (0 + 1, .inl n)] [] J E := by
    intro j
    induction j with
    | zero =>
      intro f i x J E T hf hx hi hB _ h
      obtain ⟨f, rfl⟩ : ∃ f', f = f' + 10 := ⟨f - 10, by omega⟩
      have : n ≤ x := by
        rw [hx, Int32.le_iff_toInt_le, nI_toInt (by omega)]; omega
      have h := h _ _ hB
      refine br_t this ?_
      have e1 : T 2 0 13 = J 2 0 13 := (hB.sc 13).symm
      have e2 : S 2 0 13 = I 2 0 13 := (hA.sc 13).symm
      unfold c_run at h
      rw [e1, e2] at h
      exact h
    | succ j ih =>
      intro f i x J E T hf hx hi hB ho h
      have hlt : ¬ n ≤ x := by
        rw [hx, Int32.le_iff_toInt_le, nI_toInt (by omega)]; omega
      unfold c_run at h
      have eh := hB.sc 11
      by_cases b : T 2 0 11 = 0
      · obtain ⟨f, rfl⟩ : ∃ f', f = f' + 10 := ⟨f - 10, by omega⟩
        rw [if_pos b] at h
        refine br_f hlt (br_t (eh.trans b) (c2 _ _ _ I0 _ hB (ho b).1 (fun I' D' h' => ?_)))
        exact ih f (i + 1) (x + 1) _ _ _ (by omega) (by rw [hx, nI_1]) (by omega) h' (ho b).2 h
      · obtain ⟨f, rfl⟩ : ∃ f', f = f' + 12 := ⟨f - 12, by omega⟩
        rw [if_neg b] at h
        refine br_f hlt (br_f (fun z => b (eh.symm.trans z)) ?_)
        have h := h _ _ hB
        rw [← hB.sc 13, ← hA.sc 13] at h
        exact h
  exact L n.toNatClampNeg 4991 0 0 _ _ S (by omega) rfl (by omega) hA ho h
theorem x_cycles (d : Nat) : S_cycles (sc_wpM (d + 7)) := fun I D K I0 S n hA ha ho h => sc_open (d := d + 6) rfl (z_cycles (sc_wpM (d + 6)) (x_checkArg (d + 5)) (x_runCycle (d + 0)) I D K I0 S n hA ha ho h)
