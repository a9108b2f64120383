theorem c_x8 (x : Int32) : 0 ≤ x ^^^ 8 ↔ 0 ≤ x := by
  rw [Int32.le_iff_toInt_le, Int32.le_iff_toInt_le]
  have m : (x.toBitVec ^^^ (8 : Int32).toBitVec).msb = x.toBitVec.msb := by
    rw [BitVec.msb_xor, show (8 : Int32).toBitVec.msb = false by decide, Bool.xor_false]
  rw [BitVec.msb_eq_toInt, BitVec.msb_eq_toInt] at m
  have e1 : (x ^^^ 8).toInt = (x.toBitVec ^^^ (8 : Int32).toBitVec).toInt := rfl
  have e2 : x.toInt = x.toBitVec.toInt := rfl
  have m := decide_eq_decide.mp m
  rw [e1, e2]
  show (0 : Int) ≤ _ ↔ (0 : Int) ≤ _
  omega
theorem c_fm8 (x : Int32) : (if ¬ 0 ≤ x ^^^ 8 ∧ ¬ x - x / 8 * 8 = 0 then x - x / 8 * 8 + 8 else x - x / 8 * 8) = x &&& 7 := by
  by_cases h : 0 ≤ x
  · rw [if_neg (fun z => z.1 ((c_x8 x).mpr h))]
    obtain ⟨j, hj, rfl⟩ := nI_of (x := x) (by
      intro z
      have a := Int32.lt_iff_toInt_lt.mp z
      have b := Int32.le_iff_toInt_le.mp h
      rw [show (0 : Int32).toInt = 0 from rfl] at a b
      omega)
    rw [pk_andN (by omega) (m := 7) 3 (by decide)]
    exact pk_rem (d := 8) hj (by decide) (by decide)
  · have hX : x.toInt < 0 := Int.not_le.mp (fun z => h (Int32.le_iff_toInt_le.mpr z))
    have hlo : -2147483648 ≤ x.toInt := Int32.le_toInt x
    obtain ⟨y, hy⟩ : ∃ y : Nat, x.toInt = -(y : Int) := ⟨x.toInt.natAbs, by omega⟩
    have hd := Int32.toInt_div_of_ne_right x 8 (by decide)
    rw [hy, show (8 : Int32).toInt = 8 from rfl, Int.neg_tdiv, Int.tdiv_eq_ediv_of_nonneg (by omega)] at hd
    have hm : (x / 8 * 8).toInt = -((y : Int) / 8) * 8 := by
      rw [Int32.toInt_mul, hd, show (8 : Int32).toInt = 8 from rfl]
      exact Int.bmod_eq_of_le (by omega) (by omega)
    have hr : (x - x / 8 * 8).toInt = -((y : Int) % 8) := by
      rw [Int32.toInt_sub, hm, hy, Int.bmod_eq_of_le (by omega) (by omega)]
      omega
    have hu : (x &&& 7).toInt = ((x.toBitVec.toNat % 8 : Nat) : Int) := by
      rw [pk_and x (m := 7) 3 (by decide), nI_toInt (by omega)]
    have hc : x.toInt = (x.toBitVec.toNat : Int) - 4294967296 := by
      have e : x.toInt = x.toBitVec.toInt := rfl
      rw [e] at hX ⊢
      rw [BitVec.toInt_eq_toNat_cond] at hX ⊢
      split at hX
      · omega
      · rw [if_neg (by assumption)]
        rfl
    by_cases hz : x - x / 8 * 8 = 0
    · rw [if_neg (fun z => z.2 hz)]
      apply Int32.toInt_inj.mp
      rw [hz] at hr
      rw [hz, hu]
      have : (0 : Int32).toInt = 0 := rfl
      omega
    · rw [if_pos ⟨fun z => h ((c_x8 x).mp z), hz⟩]
      have hz' : ¬ (x - x / 8 * 8).toInt = 0 := fun e => hz (Int32.toInt_inj.mp (by rw [e]; rfl))
      apply Int32.toInt_inj.mp
      rw [Int32.toInt_add, hr, hu, show (8 : Int32).toInt = 8 from rfl, Int.bmod_eq_of_le (by omega) (by omega)]
      rw [hr] at hz'
      omega
abbrev S_floorMod8 (C : sc_CT) : Prop := ∀ (I : sc_I) (D : sc_R) (K : sc_RT) (x : Int32) (h : K (some (.inl (x &&& 7))) I D), C 28 [.inl x, .inl 8] I D K
theorem z_floorMod8 (C : sc_CT)  (I : sc_I) (D : sc_R) (K : sc_RT) (x : Int32) (h : K (some (.inl (x &&& 7))) I D) : sc_wp C K (sc_t 28) 5000 (sc_t 28) (sc_al 0 [.inl x, .inl 8]) [] I D := by
  rw [← c_fm8 x] at h
  refine And.intro (by decide) ?_
  by_cases b : 0 ≤ x ^^^ 8
  · rw [if_neg (fun z => z.1 b)] at h
    exact br_t b h
  · refine br_f b ?_
    by_cases b2 : x - x / 8 * 8 = 0
    · rw [if_neg (fun z => z.2 b2)] at h
      exact br_t b2 h
    · rw [if_pos ⟨b, b2⟩] at h
      exact br_f b2 h
theorem x_floorMod8 (d : Nat) : S_floorMod8 (sc_wpM (d + 1)) := fun I D K x h => sc_open (d := d) rfl (z_floorMod8 (sc_wpM (d))  I D K x h)
def c_cl (x : Int32) : Int32 := if 0 < (if x < 3 then x else 3) then (if x < 3 then x else 3) else 0
def c_ln (pl g : Int32) (S : sc_I) : sc_I := sc_u S 4 2 (pl &&& 7).toNatClampNeg (c_cl (S 4 2 (pl &&& 7).toNatClampNeg + g))
abbrev S_learn1 (C : sc_CT) : Prop := ∀ (I : sc_I) (D : sc_R) (K : sc_RT) (I0 S : sc_I) (pl : Int32) (hA : c_AM I0 I D S) (h : ∀ I', c_AM I0 I' D (c_ln pl 1 S) → K none I' D), C 29 [.inr (2, 0), .inl pl, .inl 1] I D K
theorem z_learn1 (C : sc_CT) (c1 : S_floorMod8 C) (c2 : S_min C) (c3 : S_max C) (I : sc_I) (D : sc_R) (K : sc_RT) (I0 S : sc_I) (pl : Int32) (hA : c_AM I0 I D S) (h : ∀ I', c_AM I0 I' D (c_ln pl 1 S) → K none I' D) : sc_wp C K (sc_t 29) 5000 (sc_t 29) (sc_al 0 [.inr (2, 0), .inl pl, .inl 1]) [] I D := by
  refine c1 _ _ _ _ (And.intro (m_and7 _) (br_f (by decide) ?_))
  have e := hA.ar (j := 2) (by decide) (pl &&& 7).toNatClampNeg
  refine c2 _ _ _ _ _ (fun a => c3 _ _ _ _ _ (fun b => ?_) (fun b => ?_)) (fun a => c3 _ _ _ _ _ (fun b => ?_) (fun b => ?_))
  · exact And.intro (m_and7 _) (h _ (hA.p4 (by decide) rfl (by rw [e] at a b ⊢; unfold c_cl; rw [if_pos a, if_pos b])))
  · exact And.intro (m_and7 _) (h _ (hA.p4 (by decide) rfl (by rw [e] at a b; unfold c_cl; rw [if_pos a, if_neg b])))
  · exact And.intro (m_and7 _) (h _ (hA.p4 (by decide) rfl (by rw [e] at a; unfold c_cl; rw [if_neg a]; rfl)))
  · exact absurd (show (0 : Int32) < 3 by decide) b
theorem x_learn1 (d : Nat) : S_learn1 (sc_wpM (d + 2)) := fun I D K I0 S pl hA h => sc_open (d := d + 1) rfl (z_learn1 (sc_wpM (d + 1)) (x_floorMod8 (d + 0)) (x_min (d + 0)) (x_max (d + 0)) I D K I0 S pl hA h)
abbrev S_learn0 (C : sc_CT) : Prop := ∀ (I : sc_I) (D : sc_R) (K : sc_RT) (I0 S : sc_I) (pl : Int32) (hA : c_AM I0 I D S) (h : ∀ I', c_AM I0 I' D (c_ln pl (-1) S) → K none I' D), C 29 [.inr (2, 0), .inl pl, .inl 0] I D K
theorem z_learn0 (C : sc_CT) (c1 : S_floorMod8 C) (c2 : S_min C) (c3 : S_max C) (I : sc_I) (D : sc_R) (K : sc_RT) (I0 S : sc_I) (pl : Int32) (hA : c_AM I0 I D S) (h : ∀ I', c_AM I0 I' D (c_ln pl (-1) S) → K none I' D) : sc_wp C K (sc_t 29) 5000 (sc_t 29) (sc_al 0 [.inr (2, 0), .inl pl, .inl 0]) [] I D := by
  refine c1 _ _ _ _ (And.intro (m_and7 _) (br_t (by decide) ?_))
  have e := hA.ar (j := 2) (by decide) (pl &&& 7).toNatClampNeg
  refine c2 _ _ _ _ _ (fun a => c3 _ _ _ _ _ (fun b => ?_) (fun b => ?_)) (fun a => c3 _ _ _ _ _ (fun b => ?_) (fun b => ?_))
  · exact And.intro (m_and7 _) (h _ (hA.p4 (by decide) rfl (by rw [e] at a b ⊢; unfold c_cl; rw [if_pos a, if_pos b])))
  · exact And.intro (m_and7 _) (h _ (hA.p4 (by decide) rfl (by rw [e] at a b; unfold c_cl; rw [if_pos a, if_neg b])))
  · exact And.intro (m_and7 _) (h _ (hA.p4 (by decide) rfl (by rw [e] at a; unfold c_cl; rw [if_neg a]; rfl)))
  · exact absurd (show (0 : Int32) < 3 by decide) b
theorem x_learn0 (d : Nat) : S_learn0 (sc_wpM (d + 2)) := fun I D K I0 S pl hA h => sc_open (d := d + 1) rfl (z_learn0 (sc_wpM (d + 1)) (x_floorMod8 (d + 0)) (x_min (d + 0)) (x_max (d + 0)) I D K I0 S pl hA h)
def c_hold (nx : Int32) (S : sc_I) : sc_I := if nx = S 0 2 3 then S else sc_u (c_em2 (sc_u S 2 0 15 (S 2 0 15 + 1))) 2 0 7 nx
abbrev S_hold (C : sc_CT) : Prop := ∀ (I : sc_I) (D : sc_R) (K : sc_RT) (I0 S : sc_I) (nx : Int32) (hA : c_AM I0 I D S) (h : ∀ I', c_AM I0 I' D (c_hold nx S) → K none I' D), C 31 [.inr (2, 0), .inr (0, D 6 0 2), .inl nx] I D K
theorem z_hold (C : sc_CT) (c1 : S_empty2 C) (I : sc_I) (D : sc_R) (K : sc_RT) (I0 S : sc_I) (nx : Int32) (hA : c_AM I0 I D S) (h : ∀ I', c_AM I0 I' D (c_hold nx S) → K none I' D) : sc_wp C K (sc_t 31) 5000 (sc_t 31) (sc_al 0 [.inr (2, 0), .inr (0, D 6 0 2), .inl nx]) [] I D := by
  unfold c_hold at h
  have e := hA.fl (i := 2) (by decide) 3
  by_cases b : nx = S 0 2 3
  · rw [if_pos b] at h
    exact br_t (b.trans e.symm) (h _ hA)
  · rw [if_neg b] at h
    refine br_f (fun z => b (Eq.trans z e)) (c1 _ _ _ I0 _ (hA.p2 (congrArg (· + 1) (hA.sc 15))) (fun I' h' => h _ (h'.p2 rfl)))
theorem x_hold (d : Nat) : S_hold (sc_wpM (d + 2)) := fun I D K I0 S nx hA h => sc_open (d := d + 1) rfl (z_hold (sc_wpM (d + 1)) (x_empty2 (d + 0)) I D K I0 S nx hA h)
/-- what finishWork does to the flight in REACHED that has no fault yet -/
def c_fs (S : sc_I) : Int32 := c_hd S (S 1 2 2)
def c_ft (S : sc_I) : Int32 := c_hd S (S 1 2 3)
def c_f1 (S : sc_I) : sc_I := sc_u S 0 2 5 (c_fo (S 1 2 0) (S 1 2 4) (c_fs S) (c_ft S))
def c_f2 (S : sc_I) : sc_I := sc_u (sc_u (c_f1 S) 0 2 7 (c_vo (S 1 2 0) (S 1 2 4) (S 0 2 2) (c_fs S) (c_ft S))) 0 2 6 (if c_td (S 1 2 0) then c_fs S + S 1 2 4 else 0)
def c_f3 (S : sc_I) : sc_I := if c_br (S 1 2 0) then c_ln (S 0 2 2) (if c_go (S 1 2 0) (c_fs S) (c_ft S) then 1 else -1) (c_f2 S) else c_f2 S
def c_nx (S : sc_I) : Int32 := if c_go (S 1 2 0) (c_fs S) (c_ft S) then c_tg (S 1 2 0) (S 1 2 4) (S 0 2 2) (c_fs S) else S 0 2 2 + 1
def c_fin (S : sc_I) : sc_I := if S 0 2 5 = 0 then (if c_fo (S 1 2 0) (S 1 2 4) (c_fs S) (c_ft S) = 0 then c_hold (c_nx S) (c_f3 S) else c_f1 S) else S
theorem c_fo_c {a a' b b' s t : Int32} (h1 : a = a') (h2 : b = b') : c_fo a b s t = c_fo a' b' s t := by rw [h1, h2]
theorem c_vo_c {a a' b b' p p' s t : Int32} (h1 : a = a') (h2 : b = b') (h3 : p = p') : c_vo a b p s t = c_vo a' b' p' s t := by rw [h1, h2, h3]
abbrev S_finish (C : sc_CT) : Prop := ∀ (I : sc_I) (D : sc_R) (K : sc_RT) (I0 S : sc_I) (hA : c_AM I0 I D S) (hs : vp_in (S 1 2 2) 16) (ht : vp_in (S 1 2 3) 16) (h : ∀ I', c_AM I0 I' D (c_fin S) → K none I' D), C 32 [.inr (2, 0), .inr (0, D 6 0 2)] I D K
set_option maxRecDepth 100000 in
set_option maxHeartbeats 4000000 in
theorem z_finish (C : sc_CT) (c1 : S_handedOn C) (c2 : S_faultOf C) (c3 : S_valueOf C) (c4 : S_touchesData C) (c5 : S_goesElse C) (c6 : S_isBranch C) (c7 : S_learn1 C) (c8 : S_learn0 C) (c9 : S_target C) (c10 : S_hold C) (I : sc_I) (D : sc_R) (K : sc_RT) (I0 S : sc_I) (hA : c_AM I0 I D S) (hs : vp_in (S 1 2 2) 16) (ht : vp_in (S 1 2 3) 16) (h : ∀ I', c_AM I0 I' D (c_fin S) → K none I' D) : sc_wp C K (sc_t 32) 5000 (sc_t 32) (sc_al 0 [.inr (2, 0), .inr (0, D 6 0 2)]) [] I D := by
  have e2 := hA.ir (i := 2) (by decide) 2
  have e3 := hA.ir (i := 2) (by decide) 3
  refine c1 _ _ _ I0 S _ hA (by rw [e2]; exact hs) ?_
  refine c1 _ _ _ I0 S _ hA (by rw [e3]; exact ht) ?_
  rw [e2, e3]
  have ef := hA.fl (i := 2) (by decide) 5
  unfold c_fin at h
  by_cases hz : S 0 2 5 = 0
  · rw [if_pos hz] at h
    refine br_t (ef.trans hz) (c2 _ _ _ _ _ _ ?_)
    have A1 := hA.p0 (i := 2) (s := 5) (by decide) (c_fo_c (s := (c_hd S (S 1 2 2))) (t := (c_hd S (S 1 2 3))) (hA.ir (i := 2) (by decide) 0) (hA.ir (i := 2) (by decide) 4))
    by_cases hy : c_fo (S 1 2 0) (S 1 2 4) (c_fs S) (c_ft S) = 0
    · rw [if_pos hy] at h
      refine br_t ((A1.fl (i := 2) (by decide) 5).trans hy) (c3 _ _ _ _ _ _ ?_)
      have A2 := A1.p0 (i := 2) (s := 7) (by decide) (c_vo_c (s := (c_hd S (S 1 2 2))) (t := (c_hd S (S 1 2 3))) (A1.ir (i := 2) (by decide) 0) (A1.ir (i := 2) (by decide) 4) (A1.fl (i := 2) (by decide) 2))
      have f0 : _ = S 1 2 0 := A2.ir (i := 2) (by decide) 0
      have f4 : _ = S 1 2 4 := A2.ir (i := 2) (by decide) 4
      refine c4 _ _ _ _ (fun d1 => br_f (by decide) ?_) (fun d1 => br_t (by decide) ?_)
      · have hd : c_td (S 1 2 0) := by rw [← f0]; exact d1
        have A3 : c_AM I0 _ D (c_f2 S) := A2.p0 (i := 2) (s := 6) (by decide) ((congrArg (fun z => c_hd S (S 1 2 2) + z) f4).trans (if_pos (c := c_td (S 1 2 0)) hd).symm)
        refine c5 _ _ _ _ _ _ (fun g => ?_) (fun g => ?_)
        · have e00 : _ = S 1 2 0 := A3.ir (i := 2) (by decide) 0
          have hg : c_go (S 1 2 0) (c_fs S) (c_ft S) := by rw [← e00]; exact g
          have e0 : _ = S 1 2 0 := A3.ir (i := 2) (by decide) 0
          have ep : _ = S 0 2 2 := A3.fl (i := 2) (by decide) 2
          refine c6 _ _ _ _ (fun b => br_f (by decide) ?_) (fun b => br_t (by decide) ?_)
          · have hb : c_br (S 1 2 0) := by rw [← e0]; exact b
            have ef3 : c_f3 S = c_ln (S 0 2 2) 1 (c_f2 S) := by
              unfold c_f3
              rw [if_pos hb, if_pos hg]
            refine c7 _ _ _ I0 (c_f2 S) _ A3 (fun I4 h4 => ?_)
            have h4 : c_AM I0 I4 D (c_ln (S 0 2 2) 1 (c_f2 S)) := by rw [← ep]; exact h4
            have n0 : _ = S 1 2 0 := h4.ir (i := 2) (by decide) 0
            have n4 : _ = S 1 2 4 := h4.ir (i := 2) (by decide) 4
            have np : _ = S 0 2 2 := h4.fl (i := 2) (by decide) 2
            exact br_f (by decide) (c9 _ _ _ _ _ (c10 _ _ _ I0 (c_f3 S) _ (by rw [ef3]; exact h4) (fun I9 h9 => h _ (by rw [show c_nx S = c_tg (S 1 2 0) (S 1 2 4) (S 0 2 2) (c_fs S) from if_pos hg, ← n0, ← n4, ← np]; exact h9))))
          · have hb : ¬ c_br (S 1 2 0) := by rw [← e0]; exact b
            have ef3 : c_f3 S = c_f2 S := by
              unfold c_f3
              rw [if_neg hb]
            have n0 : _ = S 1 2 0 := A3.ir (i := 2) (by decide) 0
            have n4 : _ = S 1 2 4 := A3.ir (i := 2) (by decide) 4
            have np : _ = S 0 2 2 := A3.fl (i := 2) (by decide) 2
            exact br_f (by decide) (c9 _ _ _ _ _ (c10 _ _ _ I0 (c_f3 S) _ (by rw [ef3]; exact A3) (fun I9 h9 => h _ (by rw [show c_nx S = c_tg (S 1 2 0) (S 1 2 4) (S 0 2 2) (c_fs S) from if_pos hg, ← n0, ← n4, ← np]; exact h9))))
        · have e00 : _ = S 1 2 0 := A3.ir (i := 2) (by decide) 0
          have hg : ¬ c_go (S 1 2 0) (c_fs S) (c_ft S) := by rw [← e00]; exact g
          have e0 : _ = S 1 2 0 := A3.ir (i := 2) (by decide) 0
          have ep : _ = S 0 2 2 := A3.fl (i := 2) (by decide) 2
          refine c6 _ _ _ _ (fun b => br_f (by decide) ?_) (fun b => br_t (by decide) ?_)
          · have hb : c_br (S 1 2 0) := by rw [← e0]; exact b
            have ef3 : c_f3 S = c_ln (S 0 2 2) (-1) (c_f2 S) := by
              unfold c_f3
              rw [if_pos hb, if_neg hg]
            refine c8 _ _ _ I0 (c_f2 S) _ A3 (fun I4 h4 => ?_)
            have h4 : c_AM I0 I4 D (c_ln (S 0 2 2) (-1) (c_f2 S)) := by rw [← ep]; exact h4
            have n0 : _ = S 1 2 0 := h4.ir (i := 2) (by decide) 0
            have n4 : _ = S 1 2 4 := h4.ir (i := 2) (by decide) 4
            have np : _ = S 0 2 2 := h4.fl (i := 2) (by decide) 2
            exact br_t (by decide) (c10 _ _ _ I0 (c_f3 S) _ (by rw [ef3]; exact h4) (fun I9 h9 => h _ (by rw [show c_nx S = S 0 2 2 + 1 from if_neg hg, ← np]; exact h9)))
          · have hb : ¬ c_br (S 1 2 0) := by rw [← e0]; exact b
            have ef3 : c_f3 S = c_f2 S := by
              unfold c_f3
              rw [if_neg hb]
            have n0 : _ = S 1 2 0 := A3.ir (i := 2) (by decide) 0
            have n4 : _ = S 1 2 4 := A3.ir (i := 2) (by decide) 4
            have np : _ = S 0 2 2 := A3.fl (i := 2) (by decide) 2
            exact br_t (by decide) (c10 _ _ _ I0 (c_f3 S) _ (by rw [ef3]; exact A3) (fun I9 h9 => h _ (by rw [show c_nx S = S 0 2 2 + 1 from if_neg hg, ← np]; exact h9)))
      · have hd : ¬ c_td (S 1 2 0) := by rw [← f0]; exact d1
        have A3 : c_AM I0 _ D (c_f2 S) := A2.p0 (i := 2) (s := 6) (by decide) (if_neg (c := c_td (S 1 2 0)) hd).symm
        refine c5 _ _ _ _ _ _ (fun g => ?_) (fun g => ?_)
        · have e00 : _ = S 1 2 0 := A3.ir (i := 2) (by decide) 0
          have hg : c_go (S 1 2 0) (c_fs S) (c_ft S) := by rw [← e00]; exact g
          have e0 : _ = S 1 2 0 := A3.ir (i := 2) (by decide) 0
          have ep : _ = S 0 2 2 := A3.fl (i := 2) (by decide) 2
          refine c6 _ _ _ _ (fun b => br_f (by decide) ?_) (fun b => br_t (by decide) ?_)
          · have hb : c_br (S 1 2 0) := by rw [← e0]; exact b
            have ef3 : c_f3 S = c_ln (S 0 2 2) 1 (c_f2 S) := by
              unfold c_f3
              rw [if_pos hb, if_pos hg]
            refine c7 _ _ _ I0 (c_f2 S) _ A3 (fun I4 h4 => ?_)
            have h4 : c_AM I0 I4 D (c_ln (S 0 2 2) 1 (c_f2 S)) := by rw [← ep]; exact h4
            have n0 : _ = S 1 2 0 := h4.ir (i := 2) (by decide) 0
            have n4 : _ = S 1 2 4 := h4.ir (i := 2) (by decide) 4
            have np : _ = S 0 2 2 := h4.fl (i := 2) (by decide) 2
            exact br_f (by decide) (c9 _ _ _ _ _ (c10 _ _ _ I0 (c_f3 S) _ (by rw [ef3]; exact h4) (fun I9 h9 => h _ (by rw [show c_nx S = c_tg (S 1 2 0) (S 1 2 4) (S 0 2 2) (c_fs S) from if_pos hg, ← n0, ← n4, ← np]; exact h9))))
          · have hb : ¬ c_br (S 1 2 0) := by rw [← e0]; exact b
            have ef3 : c_f3 S = c_f2 S := by
              unfold c_f3
              rw [if_neg hb]
            have n0 : _ = S 1 2 0 := A3.ir (i := 2) (by decide) 0
            have n4 : _ = S 1 2 4 := A3.ir (i := 2) (by decide) 4
            have np : _ = S 0 2 2 := A3.fl (i := 2) (by decide) 2
            exact br_f (by decide) (c9 _ _ _ _ _ (c10 _ _ _ I0 (c_f3 S) _ (by rw [ef3]; exact A3) (fun I9 h9 => h _ (by rw [show c_nx S = c_tg (S 1 2 0) (S 1 2 4) (S 0 2 2) (c_fs S) from if_pos hg, ← n0, ← n4, ← np]; exact h9))))
        · have e00 : _ = S 1 2 0 := A3.ir (i := 2) (by decide) 0
          have hg : ¬ c_go (S 1 2 0) (c_fs S) (c_ft S) := by rw [← e00]; exact g
          have e0 : _ = S 1 2 0 := A3.ir (i := 2) (by decide) 0
          have ep : _ = S 0 2 2 := A3.fl (i := 2) (by decide) 2
          refine c6 _ _ _ _ (fun b => br_f (by decide) ?_) (fun b => br_t (by decide) ?_)
          · have hb : c_br (S 1 2 0) := by rw [← e0]; exact b
            have ef3 : c_f3 S = c_ln (S 0 2 2) (-1) (c_f2 S) := by
              unfold c_f3
              rw [if_pos hb, if_neg hg]
            refine c8 _ _ _ I0 (c_f2 S) _ A3 (fun I4 h4 => ?_)
            have h4 : c_AM I0 I4 D (c_ln (S 0 2 2) (-1) (c_f2 S)) := by rw [← ep]; exact h4
            have n0 : _ = S 1 2 0 := h4.ir (i := 2) (by decide) 0
            have n4 : _ = S 1 2 4 := h4.ir (i := 2) (by decide) 4
            have np : _ = S 0 2 2 := h4.fl (i := 2) (by decide) 2
            exact br_t (by decide) (c10 _ _ _ I0 (c_f3 S) _ (by rw [ef3]; exact h4) (fun I9 h9 => h _ (by rw [show c_nx S = S 0 2 2 + 1 from if_neg hg, ← np]; exact h9)))
          · have hb : ¬ c_br (S 1 2 0) := by rw [← e0]; exact b
            have ef3 : c_f3 S = c_f2 S := by
              unfold c_f3
              rw [if_neg hb]
            have n0 : _ = S 1 2 0 := A3.ir (i := 2) (by decide) 0
            have n4 : _ = S 1 2 4 := A3.ir (i := 2) (by decide) 4
            have np : _ = S 0 2 2 := A3.fl (i := 2) (by decide) 2
            exact br_t (by decide) (c10 _ _ _ I0 (c_f3 S) _ (by rw [ef3]; exact A3) (fun I9 h9 => h _ (by rw [show c_nx S = S 0 2 2 + 1 from if_neg hg, ← np]; exact h9)))
    · rw [if_neg hy] at h
      exact br_f (fun z => hy ((A1.fl (i := 2) (by decide) 5).symm.trans z)) (h _ A1)
  · rw [if_neg hz] at h
    exact br_f (fun z => hz (ef.symm.trans z)) (br_f (fun z => hz (ef.symm.trans z)) (h _ hA))
theorem x_finish (d : Nat) : S_finish (sc_wpM (d + 4)) := fun I D K I0 S hA hs ht h => sc_open (d := d + 3) rfl (z_finish (sc_wpM (d + 3)) (x_handedOn (d + 0)) (x_faultOf (d + 1)) (x_valueOf (d + 2)) (x_touchesData (d + 2)) (x_goesElse (d + 2)) (x_isBranch (d + 2)) (x_learn1 (d + 1)) (x_learn0 (d + 1)) (x_target (d + 2)) (x_hold (d + 1)) I D K I0 S hA hs ht h)
