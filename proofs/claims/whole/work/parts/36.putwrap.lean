theorem ix_call {p : Program} {l : Launch} {e : Env} {R : Room} {s : State} {m : MethodId} {args : Array Value} {below : List Frame} {meth : Method} {c : Code} {H : Heap} {locs : List Loc} {cells slots mc ms : Nat} {Qf : State → Prop} {pc : Nat} {ls : Array Slot} {st0 rest : List Value} {dC : Nat → ClassId} {dI : Nat → Nat → Nat} {ad : Nat → Nat} {cA : Nat → ClassId} {LP : List Nat} {o : Nat → Int64} {A : Nat → Prop} {I : sc_I} {D : sc_R} {x : Nat} {g : Nat → Int32} {r : Option Value} {a : Array Value}
    (hr : va_Run p l e R s m args below meth c H locs cells slots mc ms (F0 m pc ls st0) rest (ix_Qc dC dI ad cA LP o A I D x g r a) A) (hS : va_S A s.heap H locs)
    (kk : ∀ (q : Nat) (H1 : Heap) (locs1 : List Loc), ix_W dC dI ad cA LP o A I D x g q H1 → va_S A s.heap H1 locs1 → W p l e R s m args below meth c H1 locs1 (cells + mc) (slots + ms) Qf (F0 m (pc + 3) ls (r.toList ++ rest))) : W p l e R s m args below meth c H locs cells slots Qf (F0 m pc ls st0) := by
  intro T hT X
  obtain ⟨v, st₀, t, T', L, h0, X', hL, e1, e2, ⟨q, hv, hw, hz, hk⟩, st⟩ := hr T hT X
  cases hv
  rw [h0] at hz hk
  obtain ⟨t2, a1, b1⟩ := kk q T'.heap (locs ++ L) (by rw [e1]; exact hw)
    ⟨Nat.le_trans hS.1 (by rw [e1]; exact hz), fun q h1 h2 => by rw [e1, hk q (Nat.lt_of_lt_of_le h1 hS.1) h2]; exact hS.2.1 q h1 h2, fun q hq => (List.mem_append.mp hq).elim (hS.2.2 q) (hL q)⟩ T' rfl X'
  exact ⟨t2, st t2 a1, b1⟩
set_option maxRecDepth 100000 in
set_option maxHeartbeats 4000000 in
theorem lx_put_r {l : Launch} {dC : Nat → ClassId} {dI : Nat → Nat → Nat} {ad : Nat → Nat} {cA : Nat → ClassId} {LP : List Nat} {o : Nat → Int64} {A : Nat → Prop} {k : Nat → Nat} {I : sc_I} {D : sc_R} (hD0 : ∀ I D, va_D A (sc_w ad cA LP o I D)) (hv : sc_vd LP D) {w a1 a2 a3 a4 a5 : Int32} (h0 : 0 ≤ w ∧ w < 64) (h : m_pok a1 a2 a3 a4 a5) : Met l yL_put (lx_ws yL_put cL_put 8 [(0, 13, 16, 13), (0, 13, 20, 15)]) lx_room (ix_Pc dC dI ad cA LP o A k [.inr (2, 0), .inl w, .inl a1, .inl a2, .inl a3, .inl a4, .inl a5] I D) (ix_Qc dC dI ad cA LP o A I D w.toNatClampNeg (ix_g a1 a2 a3 a4 a5) (some (.int 0))) 1 6 A := by
  refine lx_ofW (cc := cL_put) (maxL := 8) (ret := some .int) (hh := [(0, 13, 16, 13), (0, 13, 20, 15)]) (by decide) rfl ?_
  intro p e s m args below meth c s₁ B hml htb hvv
  obtain ⟨⟨rfl, hK, hP, hZ⟩, hA⟩ := hvv
  have hx := B.exec
  have hb := B.bytes
  have hr := B.returns
  have hts := atoms_spec (ws := lx_ws yL_put cL_put 8 [(0, 13, 16, 13), (0, 13, 20, 15)]) B.pre
  have hown : s.vm.findClass RL = some m.cls := findClass_of_methodNamed B.named
  have hlocks := B.notSynchronized
  rw [lg_entry_eq]
  have hls := lv_entry (([.inr (2, 0), .inl w, .inl a1, .inl a2, .inl a3, .inl a4, .inl a5] : List sc_V).map (sc_tv ad)) (n := 8) (Nat.le_of_ble_eq_true rfl)
  rw [sc_al_map] at hls
  generalize ((lg_sl (([.inr (2, 0), .inl w, .inl a1, .inl a2, .inl a3, .inl a4, .inl a5] : List sc_V).map (sc_tv ad)) ++ List.replicate (8 - (lg_sl (([.inr (2, 0), .inl w, .inl a1, .inl a2, .inl a3, .inl a4, .inl a5] : List sc_V).map (sc_tv ad))).length) Slot.unset).toArray) = ls at hls ⊢
  refine lv_aload_n hx hb dL_put_0 rfl (lv_at hls 0 rfl) ?_
  refine lv_iload_n hx hb dL_put_1 rfl (lv_at hls 1 rfl) ?_
  refine lv_iload_n hx hb dL_put_2 rfl (lv_at hls 2 rfl) ?_
  refine lv_iload_n hx hb dL_put_3 rfl (lv_at hls 3 rfl) ?_
  refine lv_iload hx hb dL_put_4 (lv_at hls 4 rfl) ?_
  refine lv_iload hx hb dL_put_6 (lv_at hls 5 rfl) ?_
  refine lv_iload hx hb dL_put_8 (lv_at hls 6 rfl) ?_
  obtain ⟨q0, he⟩ := sc_objx (ad := ad) (cA := cA) (LP := LP) (o := o) (I := I) (D := D) (k := 2) (i := 0) (by decide) rfl
  have hg : GoodIn (lx_ws yL_put cL_put 8 [(0, 13, 16, 13), (0, 13, 20, 15)]) (wsV RL 7 RX2 yX2_put (sc_ws yX2_put cX2_put 7 none)) := by
    intro w hw
    rcases List.mem_append.mp hw with hw | hw
    · simp only [List.mem_cons, List.not_mem_nil, or_false] at hw
      rcases hw with rfl | rfl | rfl | rfl
      · exact ⟨lx_sub _ lkM_put, sc_G_good lkM_put⟩
      · exact ⟨lx_sub _ lkI_put, sc_G_good lkI_put⟩
      · exact ⟨lx_sub _ lkS_put, sc_G_good lkS_put⟩
      · exact ⟨lx_sub _ lx_i2, sc_G_good lx_i2⟩
    · rcases List.mem_cons.mp hw with rfl | hw
      · exact ⟨lx_sub _ lkC_put, sc_G_good lkC_put⟩
      · exact ⟨lx_sub _ hw, sc_G_good hw⟩
  refine ix_call (va_runV (As := [.int w, .int a1, .int a2, .int a3, .int a4, .int a5]) (rest := []) ⟨hx, hb, hml, hown, hts⟩ (ix_put (k := k) hD0 hv h0 h) (cwV 6 hts hg rfl rfl rfl lkD_put ⟨Nat.le_of_ble_eq_true rfl, Nat.le_of_ble_eq_true rfl⟩) ⟨ix_blind, va_recv hK.1 hP (sc_cl_at (k := 2) (by decide)) he, fun U hU hW => ⟨⟨rfl, sc_KN_warm hW hK, by rw [hU]; exact hP, hZ.at va_S.rf hU hW⟩, by rw [hU]; exact hA⟩⟩ rfl rfl hls.1 rfl (lv_room (Nat.le_of_ble_eq_true rfl)) dL_put_10 ⟨Nat.le_of_ble_eq_true rfl, Nat.le_of_ble_eq_true rfl⟩) va_S.rf (fun q H1 locs1 hw hS => ?_)
  refine lv_goto hx hb dL_put_13 (tgt := 24) (by decide) ?_
  refine lv_iconst hx hb dL_put_24 rfl ?_
  exact W.iret hx hb hr (fun t ht hW => ⟨q, rfl, by rw [ht]; exact hw, hS.F ht⟩) hS.2.2 dL_put_25 hlocks
