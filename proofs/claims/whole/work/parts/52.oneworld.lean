theorem hx_len {ac am : Nat → Nat} {cc cm : Nat → ClassId} {q : Nat} {cq : ClassId} : (hx_ws ac am cc cm q cq).length = 35 := by
  unfold hx_ws mx_w
  rw [List.length_append, List.length_append, sc_tab_len]
  rfl
set_option maxRecDepth 100000 in
set_option maxHeartbeats 4000000 in
theorem hx_at {ac am : Nat → Nat} {cc cm : Nat → ClassId} {q : Nat} {cq : ClassId} : ∀ p, p < 34 → ((hx_ws ac am cc cm q cq).set 6 (ac 6, .inl (cc 4, 5, .inr (.inr (.inr (.inr (fun i => some (hx_ad ac am q (i + 2)))))))))[hx_g p]? = some (hx_ad ac am q p, sc_mk (hx_ad ac am q) (hx_cA cc cm cq) (fun _ => 0) p (hx_I (sc_kd p) (sc_ix p)) (hx_D (ac 1) (sc_kd p) (sc_ix p))) := by
  intro p hp
  rcases (show p = 0 ∨ p = 1 ∨ p = 2 ∨ p = 3 ∨ p = 4 ∨ p = 5 ∨ p = 6 ∨ p = 7 ∨ p = 8 ∨ p = 9 ∨ p = 10 ∨ p = 11 ∨ p = 12 ∨ p = 13 ∨ p = 14 ∨ p = 15 ∨ p = 16 ∨ p = 17 ∨ p = 18 ∨ p = 19 ∨ p = 20 ∨ p = 21 ∨ p = 22 ∨ p = 23 ∨ p = 24 ∨ p = 25 ∨ p = 26 ∨ p = 27 ∨ p = 28 ∨ p = 29 ∨ p = 30 ∨ p = 31 ∨ p = 32 ∨ p = 33 by omega) with rfl | rfl | rfl | rfl | rfl | rfl | rfl | rfl | rfl | rfl | rfl | rfl | rfl | rfl | rfl | rfl | rfl | rfl | rfl | rfl | rfl | rfl | rfl | rfl | rfl | rfl | rfl | rfl | rfl | rfl | rfl | rfl | rfl | rfl
  · exact (List.getElem?_set_ne (by decide)).trans ((hx_cx (p := 0) (by decide)).trans rfl)
  · refine (List.getElem?_set_ne (by decide)).trans ((hx_mx (p := 0) (by decide)).trans ?_)
    show some (am 0, (Sum.inr (3, sc_tab 33 (mx_F 20 am)) : va_E)) = _
    rw [sc_tab_congr (fun s hs => hx_fs (ac := ac) (q := q) hs)]
    rfl
  · exact (List.getElem?_set_ne (by decide)).trans ((hx_cx (p := 7) (by decide)).trans rfl)
  · exact (List.getElem?_set_ne (by decide)).trans ((hx_cx (p := 8) (by decide)).trans rfl)
  · exact (List.getElem?_set_ne (by decide)).trans ((hx_cx (p := 9) (by decide)).trans rfl)
  · exact (List.getElem?_set_ne (by decide)).trans ((hx_cx (p := 10) (by decide)).trans rfl)
  · exact (List.getElem?_set_ne (by decide)).trans ((hx_cx (p := 11) (by decide)).trans rfl)
  · exact (List.getElem?_set_ne (by decide)).trans ((hx_mx (p := 9) (by decide)).trans rfl)
  · exact (List.getElem?_set_self (by rw [hx_len]; decide)).trans rfl
  · exact (List.getElem?_set_ne (by decide)).trans ((hx_cx (p := 2) (by decide)).trans rfl)
  · exact (List.getElem?_set_ne (by decide)).trans (hx_out.trans rfl)
  · exact (List.getElem?_set_ne (by decide)).trans ((hx_cx (p := 3) (by decide)).trans rfl)
  · exact (List.getElem?_set_ne (by decide)).trans ((hx_cx (p := 4) (by decide)).trans rfl)
  · exact (List.getElem?_set_ne (by decide)).trans ((hx_cx (p := 5) (by decide)).trans rfl)
  · exact (List.getElem?_set_ne (by decide)).trans ((hx_cx (p := 12) (by decide)).trans rfl)
  · exact (List.getElem?_set_ne (by decide)).trans ((hx_mx (p := 1) (by decide)).trans rfl)
  · exact (List.getElem?_set_ne (by decide)).trans ((hx_mx (p := 2) (by decide)).trans rfl)
  · exact (List.getElem?_set_ne (by decide)).trans ((hx_mx (p := 3) (by decide)).trans rfl)
  · exact (List.getElem?_set_ne (by decide)).trans ((hx_mx (p := 4) (by decide)).trans rfl)
  · exact (List.getElem?_set_ne (by decide)).trans ((hx_mx (p := 5) (by decide)).trans rfl)
  · exact (List.getElem?_set_ne (by decide)).trans ((hx_mx (p := 6) (by decide)).trans rfl)
  · exact (List.getElem?_set_ne (by decide)).trans ((hx_mx (p := 7) (by decide)).trans rfl)
  · exact (List.getElem?_set_ne (by decide)).trans ((hx_mx (p := 8) (by decide)).trans rfl)
  · exact (List.getElem?_set_ne (by decide)).trans ((hx_mx (p := 10) (by decide)).trans rfl)
  · exact (List.getElem?_set_ne (by decide)).trans ((hx_mx (p := 11) (by decide)).trans rfl)
  · exact (List.getElem?_set_ne (by decide)).trans ((hx_mx (p := 12) (by decide)).trans rfl)
  · exact (List.getElem?_set_ne (by decide)).trans ((hx_mx (p := 13) (by decide)).trans rfl)
  · exact (List.getElem?_set_ne (by decide)).trans ((hx_mx (p := 14) (by decide)).trans rfl)
  · exact (List.getElem?_set_ne (by decide)).trans ((hx_mx (p := 15) (by decide)).trans rfl)
  · exact (List.getElem?_set_ne (by decide)).trans ((hx_mx (p := 16) (by decide)).trans rfl)
  · exact (List.getElem?_set_ne (by decide)).trans ((hx_mx (p := 17) (by decide)).trans rfl)
  · exact (List.getElem?_set_ne (by decide)).trans ((hx_mx (p := 18) (by decide)).trans rfl)
  · exact (List.getElem?_set_ne (by decide)).trans ((hx_mx (p := 19) (by decide)).trans rfl)
  · exact (List.getElem?_set_ne (by decide)).trans ((hx_mx (p := 20) (by decide)).trans rfl)
set_option maxRecDepth 100000 in
theorem hx_P {ac am : Nat → Nat} {cc cm : Nat → ClassId} {q : Nat} {cq : ClassId} {D : va_G} {H : Heap} (h : va_P D vwCl (hx_ws ac am cc cm q cq) H) : va_P D vwCl (sc_w (hx_ad ac am q) (hx_cA cc cm cq) [ac 1] (fun _ => 0) hx_I (hx_D (ac 1))) H := by
  have h2 := cx_Pset (g := fun i => some (hx_ad ac am q (i + 2))) h (k := 6) ((hx_cx (p := 6) (by decide)).trans rfl) (fun j hj => by
    rcases (show j = 0 ∨ j = 1 ∨ j = 2 ∨ j = 3 ∨ j = 4 by omega) with rfl | rfl | rfl | rfl | rfl <;> rfl)
  refine h2.by hx_g (fun k z hz => ?_)
  by_cases hk : k < 34
  · rw [hx_at k hk, ← hz, sc_w_get hk]
  · have hl : k < 35 := by
      have := (List.getElem?_eq_some_iff.mp hz).1
      unfold sc_w va_pl at this
      rw [List.length_append, sc_tab_len] at this
      exact this
    have e : k = 34 := by omega
    subst e
    unfold sc_w at hz
    rw [List.getElem?_append_right (by rw [sc_tab_len]; decide), sc_tab_len] at hz
    rw [← hz]
    exact (List.getElem?_set_ne (by decide)).trans ((hx_cx (p := 1) (by decide)).trans rfl)
def hx_e : va_E := .inr (0, [])
set_option maxRecDepth 100000 in
theorem hx_Dd {ac am : Nat → Nat} {cc cm : Nat → ClassId} {q : Nat} {cq : ClassId} {A : Nat → Prop} (h : va_D A (hx_ws ac am cc cm q cq)) : va_D A (sc_w (hx_ad ac am q) (hx_cA cc cm cq) [ac 1] (fun _ => 0) hx_I (hx_D (ac 1))) := by
  have h1 : va_D A [(ac 0, hx_e), (ac 1, hx_e), (ac 2, hx_e), (ac 3, hx_e), (ac 4, hx_e), (ac 5, hx_e), (ac 6, hx_e), (ac 7, hx_e), (ac 8, hx_e), (ac 9, hx_e), (ac 10, hx_e), (ac 11, hx_e), (ac 12, hx_e), (am 0, hx_e), (am 1, hx_e), (am 2, hx_e), (am 3, hx_e), (am 4, hx_e), (am 5, hx_e), (am 6, hx_e), (am 7, hx_e), (am 8, hx_e), (am 9, hx_e), (am 10, hx_e), (am 11, hx_e), (am 12, hx_e), (am 13, hx_e), (am 14, hx_e), (am 15, hx_e), (am 16, hx_e), (am 17, hx_e), (am 18, hx_e), (am 19, hx_e), (am 20, hx_e), (q, hx_e)] := va_D_fst (by rfl) h
  have h2 := h1.sub (ws' := [(ac 0, hx_e), (am 0, hx_e), (ac 7, hx_e), (ac 8, hx_e), (ac 9, hx_e), (ac 10, hx_e), (ac 11, hx_e), (am 9, hx_e), (ac 6, hx_e), (ac 2, hx_e), (q, hx_e), (ac 3, hx_e), (ac 4, hx_e), (ac 5, hx_e), (ac 12, hx_e), (am 1, hx_e), (am 2, hx_e), (am 3, hx_e), (am 4, hx_e), (am 5, hx_e), (am 6, hx_e), (am 7, hx_e), (am 8, hx_e), (am 10, hx_e), (am 11, hx_e), (am 12, hx_e), (am 13, hx_e), (am 14, hx_e), (am 15, hx_e), (am 16, hx_e), (am 17, hx_e), (am 18, hx_e), (am 19, hx_e), (am 20, hx_e), (ac 1, hx_e)]) hx_is (by decide) rfl
  exact va_D_fst (by rw [sc_w_fst]; rfl) h2
set_option maxRecDepth 100000 in
theorem hx_K {cc cm : Nat → ClassId} {cq : ClassId} {D : va_G} {U : State} (h1 : va_K D vwCl (cx_t cc) U) (h2 : va_K D vwCl (mx_t 20 cm) U) (h3 : va_K D vwCl [(cq, .long)] U) : va_K D vwCl (sc_tys (hx_cA cc cm cq)) U := by
  refine ⟨h1.1, fun k z hz => ?_⟩
  have hk : k < 27 := by
    have := (List.getElem?_eq_some_iff.mp hz).1
    unfold sc_tys at this
    rw [sc_tab_len] at this
    exact this
  unfold sc_tys at hz
  rw [sc_tab_get hk] at hz
  cases hz
  rcases (show k = 0 ∨ k = 1 ∨ k = 2 ∨ k = 3 ∨ k = 4 ∨ k = 5 ∨ k = 6 ∨ k = 7 ∨ k = 8 ∨ k = 9 ∨ k = 10 ∨ k = 11 ∨ k = 12 ∨ k = 13 ∨ k = 14 ∨ k = 15 ∨ k = 16 ∨ k = 17 ∨ k = 18 ∨ k = 19 ∨ k = 20 ∨ k = 21 ∨ k = 22 ∨ k = 23 ∨ k = 24 ∨ k = 25 ∨ k = 26 by omega) with rfl | rfl | rfl | rfl | rfl | rfl | rfl | rfl | rfl | rfl | rfl | rfl | rfl | rfl | rfl | rfl | rfl | rfl | rfl | rfl | rfl | rfl | rfl | rfl | rfl | rfl | rfl
  · exact h1.2 1 _ rfl
  · exact h1.2 2 _ rfl
  · exact h1.2 3 _ rfl
  · exact h1.2 5 _ rfl
  · exact h2.2 0 _ (sc_tab_get (by decide))
  · exact h2.2 1 _ (sc_tab_get (by decide))
  · exact h2.2 2 _ (sc_tab_get (by decide))
  · exact h2.2 3 _ (sc_tab_get (by decide))
  · exact h2.2 4 _ (sc_tab_get (by decide))
  · exact h2.2 5 _ (sc_tab_get (by decide))
  · exact h2.2 6 _ (sc_tab_get (by decide))
  · exact h2.2 7 _ (sc_tab_get (by decide))
  · exact h2.2 9 _ (sc_tab_get (by decide))
  · exact h2.2 10 _ (sc_tab_get (by decide))
  · exact h2.2 11 _ (sc_tab_get (by decide))
  · exact h2.2 12 _ (sc_tab_get (by decide))
  · exact h2.2 13 _ (sc_tab_get (by decide))
  · exact h2.2 14 _ (sc_tab_get (by decide))
  · exact h2.2 15 _ (sc_tab_get (by decide))
  · exact h2.2 16 _ (sc_tab_get (by decide))
  · exact h2.2 17 _ (sc_tab_get (by decide))
  · exact h2.2 18 _ (sc_tab_get (by decide))
  · exact h2.2 19 _ (sc_tab_get (by decide))
  · exact h2.2 8 _ (sc_tab_get (by decide))
  · exact h1.2 4 _ rfl
  · exact h1.2 0 _ rfl
  · exact h3.2 0 _ rfl
