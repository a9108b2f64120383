/-! what the tables say at the law's start -/
theorem hy_in {w : Cond} (i : Nat) (h : tables_1[i]? = some w) : w ∈ lw_tbl := List.mem_append_right _ (List.mem_of_getElem? h)
theorem hy_inw {k1 : Nat} (hk1 : k1 < 4) : ∀ w ∈ u_ws (sc_cl k1).1 (sc_cl k1).2.1 (sc_cl k1).2.2, w ∈ lw_tbl := by
  intro w hw
  obtain ⟨k, hk, rfl⟩ := List.mem_map.mp hw
  have hk := List.mem_range.mp hk
  exact lz_sub _ (sc_lays hk1 k hk)
theorem hy_gws {y : MethodName} {cc : ByteArray} {nL : Nat} {rt : Option FieldType} (h : Cond.code y cc nL rt ∈ sc_G) : GoodIn lw_tbl (sc_ws y cc nL rt) := fun w hw => by
  rcases List.mem_cons.mp hw with rfl | hw
  · exact ⟨lz_sub _ h, sc_G_good h⟩
  · exact ⟨lz_sub _ hw, sc_G_good hw⟩
theorem hy_B : tx_B.all (fun w => decide (w ∈ lw_tbl)) = true := by decide +kernel
theorem hy_NF : sc_NF.all (fun q => decide (Cond.fieldLinkNest q.1 q.2.1 q.2.2.1 q.2.2.2.1 q.2.2.2.2.1 q.2.2.2.2.2 ∈ lw_tbl)) = true := by decide +kernel
theorem hy_NM : sc_NM.all (fun q => decide (Cond.methodLinkNest q.1 q.2.1 q.2.2.1 q.2.2.2 ∈ lw_tbl)) = true := by decide +kernel
section
variable {s : State} {args : Array Value}
theorem hy_N (hts : ∀ w ∈ lw_tbl, w.before args s = true) : sc_N s := ⟨fun q hq => va_Nw.of rfl (hts _ (of_decide_eq_true (List.all_eq_true.mp hy_NF q hq))), fun q hq => va_Nw.of rfl (hts _ (of_decide_eq_true (List.all_eq_true.mp hy_NM q hq)))⟩
theorem hy_KC (hts : ∀ w ∈ lw_tbl, w.before args s = true) : ∃ (dC : Nat → ClassId) (dI : Nat → Nat → Nat), ∀ (k : Nat) (q : vw_C), vwCl[k]? = some q → u_Kn s q.1 q.2.1 q.2.2 (dC k) (dI k) := by
  obtain ⟨c0, i0, h0⟩ := u_known (C := RX0) (T := TX0) (N := 8) (n := 8) hts (hy_inw (k1 := 0) (by decide)) (hts _ (hy_in 51 (by decide +kernel)))
  obtain ⟨c1, i1, h1⟩ := u_known (C := RX1) (T := TX1) (N := 5) (n := 5) hts (hy_inw (k1 := 1) (by decide)) (hts _ (hy_in 20 (by decide +kernel)))
  obtain ⟨c2, i2, h2⟩ := u_known (C := RX2) (T := TX2) (N := 17) (n := 17) hts (hy_inw (k1 := 2) (by decide)) (hts _ (hy_in 12 (by decide +kernel)))
  obtain ⟨c3, i3, h3⟩ := u_known (C := RX3) (T := TX3) (N := 33) (n := 33) hts (hy_inw (k1 := 3) (by decide)) (hts _ (hy_in 437 (by decide +kernel)))
  refine ⟨fun k => match k with | 0 => c0 | 1 => c1 | 2 => c2 | _ => c3, fun k => match k with | 0 => i0 | 1 => i1 | 2 => i2 | _ => i3, ?_⟩
  intro k q hq
  match k, hq with
  | 0, hq => cases hq; exact h0
  | 1, hq => cases hq; exact h1
  | 2, hq => cases hq; exact h2
  | 3, hq => cases hq; exact h3
  | k + 4, hq => cases hq
set_option maxRecDepth 100000 in
theorem hy_Z {c2 : ClassId} (hts : ∀ w ∈ lw_tbl, w.before args s = true) (hgv : (Jvm.Cond.and given_1 narrow_1).before args s = true) (hc : s.vm.findClass RX2 = some c2) : ∃ k, tx_Z (fun q => s.heap.size ≤ q) k s := by
  have hs := flat_of_before _ hgv
  have s0 := hts (.stringRef RX2 115 "there is none such") (hy_in 193 (by decide +kernel))
  have s1 := hts (.stringRef RX2 117 "not in its bounds") (hy_in 232 (by decide +kernel))
  have s2 := hts (.stringRef RX2 54 "register 0 is always 0") (hy_in 260 (by decide +kernel))
  have s3 := hts (.stringRef RX2 112 "there is no such count") (hy_in 435 (by decide +kernel))
  obtain ⟨-, -, -, a0, -, -, -, -, -, e0⟩ := Cond.stringRef_spec hc s0
  obtain ⟨-, -, -, a1, -, -, -, -, -, e1⟩ := Cond.stringRef_spec hc s1
  obtain ⟨-, -, -, a2, -, -, -, -, -, e2⟩ := Cond.stringRef_spec hc s2
  obtain ⟨-, -, -, a3, -, -, -, -, -, e3⟩ := Cond.stringRef_spec hc s3
  have hA : ∀ a : Nat, a < s.heap.size → ¬ (fun q : Nat => s.heap.size ≤ q) a := fun a h => Nat.not_le.mpr h
  have hT := hts (.initialized Bundle.tN) (hy_in 5 (by decide +kernel))
  refine ⟨fun k => match k with | 0 => a0 | 1 => a1 | 2 => a2 | _ => a3, ?_, ?_, vk_R.of s0 e0, vk_R.of s1 e1, vk_R.of s2 e2, vk_R.of s3 e3, ?_, ?_⟩
  · exact vx_Zqof (hts _ (hy_in 180 (by decide +kernel))) hT (hs _ (by decide +kernel)) hA
  · exact vx_Zqof (hts _ (hy_in 182 (by decide +kernel))) hT (hs _ (by decide +kernel)) hA
  · exact fun w hw => va_Nw.of (List.all_eq_true.mp tx_Bt w hw) (hts w (of_decide_eq_true (List.all_eq_true.mp hy_B w hw)))
  · exact va_Nc.of (hs _ (by decide +kernel))
theorem hy_O1 (hts : ∀ w ∈ lw_tbl, w.before args s = true) : va_AO RX1 s := va_AO.of (hts _ (hy_in 48 (by decide +kernel)))
theorem hy_O0 (hts : ∀ w ∈ lw_tbl, w.before args s = true) : va_AO RX0 s := va_AO.of (hts _ (hy_in 50 (by decide +kernel)))
end
