/-! the law's loop -/
section
variable {p : Program} {l : Launch} {e : Env} {s : State} {m : MethodId} {args : Array Value} {below : List Frame} {meth : Method} {c : Code} {Qf : State → Prop} {dC : Nat → ClassId} {dI : Nat → Nat → Nat} {ad : Nat → Nat} {cA : Nat → ClassId} {A : Nat → Prop} {k : Nat → Nat} {b L : Nat} {xs : Nat → Int32}
theorem lz_gt {a i : Nat} (ha : a ≤ 3584) (hi : i ≤ 3591) : (nI a - nI 7 < nI i) ↔ a < i + 7 := by
  rw [Int32.lt_iff_toInt_lt, pk_sub_toInt (by omega) (by decide), nI_toInt (show i < 2 ^ 31 by omega)]
  omega
set_option maxRecDepth 100000 in
set_option maxHeartbeats 4000000 in
theorem lz_loop (C : lz_C p l s m args c dC dI cA A k b L xs) (hL : L ≤ 3584) (c0 s0 : Nat) (hc0 : c0 + 1000 ≤ 636560) (hs0 : s0 + 6000 ≤ 7186423)
    (kend : ∀ (ls : Array Slot) (H : Heap) (locs : List Loc) (cells slots : Nat), va_S A s.heap H locs → cells ≤ 636560 → slots ≤ 7186423 → W p l e room_1 s m args below meth c H locs cells slots Qf (F0 m 875 ls [])) :
    ∀ (n j : Nat), n + j = 513 → ∀ (ls : Array Slot) (LP : List Nat) (o : Nat → Int64) (I : sc_I) (D : sc_R) (S : sc_I) (H : Heap) (locs : List Loc), lv_has ls 9 (lz_lv ad b (7 * j)) → lz_I dC dI ad cA A s LP o I D S (300 * j) H locs → W p l e room_1 s m args below meth c H locs (c0 + j) (s0 + 6 * j) Qf (F0 m 23 ls []) := by
  have C' := C
  obtain ⟨⟨hx, hb, hml, hown, hts⟩, -, hX, hbl, hbA, hA0⟩ := C'
  intro n
  induction n with
  | zero =>
    intro j hj ls LP o I D S H locs hl hI
    refine lv_iload hx hb dL_law_23 (lv_at hl 0 rfl) ?_
    refine lv_aload_n hx hb dL_law_25 rfl (lv_at hl 4 rfl) ?_
    refine va_slen hx hb hX hbl hbA hI.2.2.1 dL_law_26 ?_
    refine lv_bipush (v := nI 7) hx hb dL_law_27 (by decide) ?_
    refine lv_isub hx hb dL_law_29 ?_
    refine lv_icmp_gt (tgt := 875) hx hb dL_law_30 (by decide) (fun _ => kend ls H locs _ _ hI.2.2.1 (by omega) (by omega)) (fun z => absurd ((lz_gt hL (by omega)).mpr (by omega)) z)
  | succ n ih =>
    intro j hj ls LP o I D S H locs hl hI
    refine lv_iload hx hb dL_law_23 (lv_at hl 0 rfl) ?_
    refine lv_aload_n hx hb dL_law_25 rfl (lv_at hl 4 rfl) ?_
    refine va_slen hx hb hX hbl hbA hI.2.2.1 dL_law_26 ?_
    refine lv_bipush (v := nI 7) hx hb dL_law_27 (by decide) ?_
    refine lv_isub hx hb dL_law_29 ?_
    refine lv_icmp_gt (tgt := 875) hx hb dL_law_30 (by decide) (fun _ => kend ls H locs _ _ hI.2.2.1 (by omega) (by omega)) (fun z => ?_)
    have hi : 7 * j + 7 ≤ L := by
      rcases Nat.lt_or_ge L (7 * j + 7) with h | h
      · exact absurd ((lz_gt hL (show 7 * j ≤ 3591 by omega)).mpr h) z
      · exact h
    refine lv_aload_n hx hb dL_law_33 rfl (lv_at hl 4 rfl) ?_
    refine lv_iload hx hb dL_law_34 (lv_at hl 0 rfl) ?_
    refine va_sld hx hb hX hbl hbA hI.2.2.1 (vp_in_nI (show 7 * j < L by omega) (by omega)) dL_law_36 ?_
    refine lv_bipush (v := 15) hx hb dL_law_37 (by decide) ?_
    refine lv_iand hx hb dL_law_39 ?_
    obtain ⟨q, hq, e1⟩ := pk_andE (xs (nI (7 * j)).toNatClampNeg) (m := 15) 4 (by decide)
    rw [e1]
    have hk : ∀ (ls : Array Slot) (LP : List Nat) (o : Nat → Int64) (I : sc_I) (D : sc_R) (S : sc_I) (H : Heap) (locs : List Loc), lv_has ls 9 (lz_lv ad b (7 * j)) → lz_I dC dI ad cA A s LP o I D S (300 * j + 300) H locs → W p l e room_1 s m args below meth c H locs (c0 + j + 1) (s0 + 6 * j + 6) Qf (F0 m 869 ls []) := by
      intro ls LP o I D S H locs hl hI
      refine lv_iinc (v := nI (7 * (j + 1))) (lv' := lz_lv ad b (7 * (j + 1))) hx hb dL_law_869 hl (k := 0) rfl (by rw [show Int32.ofInt 7 = nI 7 from rfl, nI_add, show 7 * (j + 1) = 7 * j + 7 by omega]) (by decide) rfl (fun ls hl => ?_)
      refine lv_goto (tgt := 23) hx hb dL_law_872 (by decide) ?_
      have h1 := ih (j + 1) (by omega) ls LP o I D S H locs hl (by rw [show 300 * (j + 1) = 300 * j + 300 by omega]; exact hI)
      rw [show c0 + (j + 1) = c0 + j + 1 by omega, show s0 + 6 * (j + 1) = s0 + 6 * j + 6 by omega] at h1
      exact h1
    have hN : 300 * j + 300 < 2 ^ 30 := by omega
    have hc1 : c0 + j + 1 ≤ 636560 := by omega
    have hc2 : s0 + 6 * j + 6 ≤ 7186423 := by omega
    have hout : W p l e room_1 s m args below meth c H locs (c0 + j) (s0 + 6 * j) Qf (F0 m 869 ls []) := by
      obtain ⟨g1, g2, g3, g4, g5, g6⟩ := hI
      exact W.widen (k := c0 + j + 1) (n := s0 + 6 * j + 6) (by omega) (by omega) (hk ls LP o I D S H locs hl ⟨g1, g2, g3, g4, g5, r_mono (by omega) g6⟩)
    rcases (show q = 0 ∨ q = 1 ∨ q = 2 ∨ q = 3 ∨ q = 4 ∨ q = 5 ∨ q = 6 ∨ q = 7 ∨ q = 8 ∨ q = 9 ∨ q = 10 ∨ q = 11 ∨ q = 12 ∨ q = 13 ∨ q = 14 ∨ q = 15 by omega) with rfl | rfl | rfl | rfl | rfl | rfl | rfl | rfl | rfl | rfl | rfl | rfl | rfl | rfl | rfl | rfl
    · exact lv_tableIn (x := nI 0) (tgt := 108) hx hb dL_law_40 (by decide) (by decide) rfl (by decide) (lz_put C hL hi hN hI hl hc1 hc2 hk)
    · exact lv_tableIn (x := nI 1) (tgt := 206) hx hb dL_law_40 (by decide) (by decide) rfl (by decide) (lz_poke C hL hi hN hI hl hc1 hc2 hk)
    · exact lv_tableIn (x := nI 2) (tgt := 274) hx hb dL_law_40 (by decide) (by decide) rfl (by decide) (lz_peek C hL hi hN hI hl hc1 hc2 hk)
    · exact lv_tableIn (x := nI 3) (tgt := 330) hx hb dL_law_40 (by decide) (by decide) rfl (by decide) (lz_set C hL hi hN hI hl hc1 hc2 hk)
    · exact lv_tableIn (x := nI 4) (tgt := 398) hx hb dL_law_40 (by decide) (by decide) rfl (by decide) (lz_register C hL hi hN hI hl hc1 hc2 hk)
    · exact lv_tableIn (x := nI 5) (tgt := 454) hx hb dL_law_40 (by decide) (by decide) rfl (by decide) (lz_start C hL hi hN hI hl hc1 hc2 hk)
    · exact lv_tableIn (x := nI 6) (tgt := 490) hx hb dL_law_40 (by decide) (by decide) rfl (by decide) (lz_handler C hL hi hN hI hl hc1 hc2 hk)
    · exact lv_tableIn (x := nI 7) (tgt := 546) hx hb dL_law_40 (by decide) (by decide) rfl (by decide) (lz_cycles C hL hi hN hI hl hc1 hc2 hk)
    · exact lv_tableIn (x := nI 8) (tgt := 602) hx hb dL_law_40 (by decide) (by decide) rfl (by decide) (lz_stage C hL hi hN hI hl hc1 hc2 hk)
    · exact lv_tableIn (x := nI 9) (tgt := 658) hx hb dL_law_40 (by decide) (by decide) rfl (by decide) (lz_counter C hL hi hN hI hl hc1 hc2 hk)
    · exact lv_tableIn (x := nI 10) (tgt := 714) hx hb dL_law_40 (by decide) (by decide) rfl (by decide) (lz_retired C hL hi hN hI hl hc1 hc2 hk)
    · exact lv_tableIn (x := nI 11) (tgt := 770) hx hb dL_law_40 (by decide) (by decide) rfl (by decide) (lz_count C hL hi hN hI hl hc1 hc2 hk)
    · exact lv_tableIn (x := nI 12) (tgt := 826) hx hb dL_law_40 (by decide) (by decide) rfl (by decide) (lz_pace C hL hi hN hI hl hc1 hc2 hk)
    · exact lv_tableOut (x := nI 13) (tgt := 869) hx hb dL_law_40 (by decide) (by decide) hout
    · exact lv_tableOut (x := nI 14) (tgt := 869) hx hb dL_law_40 (by decide) (by decide) hout
    · exact lv_tableOut (x := nI 15) (tgt := 869) hx hb dL_law_40 (by decide) (by decide) hout
end
