/-! the start: the world of both constructors as one, related -/
def hx_I : sc_I := fun k i => match k with
  | 1 => ix_g 19 0 0 0 0
  | 4 => (match i with
    | 2 => cx_h 8 | 4 => mx_r 64 8 0 | 11 => mx_r 64 8 7
    | _ => fun _ => 0)
  | _ => fun _ => 0
def hx_S : sc_I := fun k i => match k with
  | 7 => ix_g 19 0 0 0 0
  | k => hx_I k i
def hx_D (n : Nat) : sc_R := fun k _ s => match k with
  | 6 => s
  | _ => n
theorem hx_AB (n : Nat) : c_AB hx_I (hx_D n) hx_S := ⟨fun _ _ _ _ h => h, fun _ _ => rfl, fun _ _ => rfl, fun _ _ => rfl, rfl, rfl, fun _ _ => rfl⟩
theorem hx_vd (n : Nat) : sc_vd [n] (hx_D n) := ⟨fun _ _ => List.mem_cons_self, fun _ h => h, fun _ _ => List.mem_cons_self, List.mem_cons_self⟩
theorem hx_n1 {P : Prop} (h : (0 : Int32) = 1) : P := absurd h (by decide)
theorem hx_B0 : r_B 0 := ⟨by decide, by decide⟩
theorem hx_st (i : Nat) : r_st hx_S hx_I i := ⟨rfl, Or.inl rfl, fun h => hx_n1 h⟩
theorem hx_bd : r_bd hx_S hx_I 0 ∧ r_bd hx_S hx_I 1 ∧ r_bd hx_S hx_I 2 ∧ r_bd hx_S hx_I 3 ∧ r_bd hx_S hx_I 4 :=
  have h : r_bd hx_S hx_I 0 := ⟨⟨by decide, by decide⟩, hx_B0, hx_B0, hx_B0, hx_B0, hx_B0, hx_B0⟩
  ⟨h, h, h, h, h⟩
theorem hx_R : r_R 0 hx_S hx_I := by
  refine ⟨⟨rfl, rfl, rfl, rfl, rfl, rfl, rfl, rfl, rfl, Or.inl rfl⟩, ⟨fun _ _ => rfl, fun _ _ => rfl, fun x hx => ⟨rfl, ?_, ?_⟩⟩, ⟨fun p hp => ⟨⟨?_, rfl, rfl, rfl, rfl⟩, ?_, hx_B0, hx_B0, hx_B0⟩, rfl, rfl, rfl, rfl, rfl⟩, ⟨⟨hx_st 0, hx_st 1, hx_st 2, hx_st 3, hx_st 4⟩, hx_bd⟩, ⟨fun h => hx_n1 h, fun h => hx_n1 h, fun h => hx_n1 h, fun h => hx_n1 h, fun h => hx_n1 h⟩, rfl, 0, Nat.le_refl _, rfl, rfl, fun i _ h => absurd h (Nat.not_lt_zero _)⟩
  · show 0 ≤ cx_h 8 x
    unfold cx_h
    rw [if_pos hx]
    decide
  · show cx_h 8 x ≤ 3
    unfold cx_h
    rw [if_pos hx]
    decide
  · show (19 : Int32) = if p < 64 then 19 else 0
    rw [if_pos hp]
  · show r_O (if p < 64 then 19 else 0)
    rw [if_pos hp]
    exact ⟨by decide, by decide⟩
/-- where things lie -/
def hx_ad (c mo : Nat → Nat) (q : Nat) : Nat → Nat := fun p => match p with
  | 0 => c 0 | 1 => mo 0 | 2 => c 7 | 3 => c 8 | 4 => c 9 | 5 => c 10 | 6 => c 11 | 7 => mo 9 | 8 => c 6 | 9 => c 2 | 10 => q
  | 11 => c 3 | 12 => c 4 | 13 => c 5 | 14 => c 12
  | 15 => mo 1 | 16 => mo 2 | 17 => mo 3 | 18 => mo 4 | 19 => mo 5 | 20 => mo 6 | 21 => mo 7 | 22 => mo 8
  | 23 => mo 10 | 24 => mo 11 | 25 => mo 12 | 26 => mo 13 | 27 => mo 14 | 28 => mo 15 | 29 => mo 16 | 30 => mo 17 | 31 => mo 18 | 32 => mo 19 | _ => mo 20
def hx_cA (c mo : Nat → ClassId) (q : ClassId) : Nat → ClassId := fun p => match p with
  | 0 => c 1 | 1 => c 2 | 2 => c 3 | 3 => c 5
  | 4 => mo 0 | 5 => mo 1 | 6 => mo 2 | 7 => mo 3 | 8 => mo 4 | 9 => mo 5 | 10 => mo 6 | 11 => mo 7
  | 12 => mo 9 | 13 => mo 10 | 14 => mo 11 | 15 => mo 12 | 16 => mo 13 | 17 => mo 14 | 18 => mo 15 | 19 => mo 16 | 20 => mo 17 | 21 => mo 18 | 22 => mo 19
  | 23 => mo 8 | 24 => c 4 | 25 => c 0 | _ => q
def hx_ws (ac am : Nat → Nat) (cc cm : Nat → ClassId) (q : Nat) (cq : ClassId) : va_W := cx_w ac cc ++ (mx_w 20 am cm (mx_r 64 8) ++ [(q, .inl (cq, 1, .inr (.inl (fun _ => 0))))])
def hx_is : List Nat := [0, 13, 7, 8, 9, 10, 11, 22, 6, 2, 34, 3, 4, 5, 12, 14, 15, 16, 17, 18, 19, 20, 21, 23, 24, 25, 26, 27, 28, 29, 30, 31, 32, 33, 1]
def hx_g (p : Nat) : Nat := hx_is.getD p 0
theorem hx_fs {ac am : Nat → Nat} {q s : Nat} (hs : s < 33) : mx_F 20 am s = sc_fw (hx_ad ac am q) 3 s (hx_I 3 0) (hx_D (ac 1) 3 0) := by
  rcases (show s = 0 ∨ s = 1 ∨ s = 2 ∨ s = 3 ∨ s = 4 ∨ s = 5 ∨ s = 6 ∨ s = 7 ∨ s = 8 ∨ s = 9 ∨ s = 10 ∨ s = 11 ∨ s = 12 ∨ s = 13 ∨ s = 14 ∨ s = 15 ∨ s = 16 ∨ s = 17 ∨ s = 18 ∨ s = 19 ∨ s = 20 ∨ s = 21 ∨ s = 22 ∨ s = 23 ∨ s = 24 ∨ s = 25 ∨ s = 26 ∨ s = 27 ∨ s = 28 ∨ s = 29 ∨ s = 30 ∨ s = 31 ∨ s = 32 by omega) with rfl | rfl | rfl | rfl | rfl | rfl | rfl | rfl | rfl | rfl | rfl | rfl | rfl | rfl | rfl | rfl | rfl | rfl | rfl | rfl | rfl | rfl | rfl | rfl | rfl | rfl | rfl | rfl | rfl | rfl | rfl | rfl | rfl <;> rfl
theorem hx_cx {ac am : Nat → Nat} {cc cm : Nat → ClassId} {q : Nat} {cq : ClassId} {p : Nat} (hp : p < 13) : (hx_ws ac am cc cm q cq)[p]? = (cx_w ac cc)[p]? := by
  unfold hx_ws
  exact List.getElem?_append_left (show p < (cx_w ac cc).length from hp)
theorem hx_mx {ac am : Nat → Nat} {cc cm : Nat → ClassId} {q : Nat} {cq : ClassId} {p : Nat} (hp : p < 21) : (hx_ws ac am cc cm q cq)[p + 13]? = some (am p, mx_E am cm 20 (mx_r 64 8) p) := by
  unfold hx_ws
  rw [List.getElem?_append_right (show (cx_w ac cc).length ≤ p + 13 from Nat.le_add_left 13 p), show p + 13 - (cx_w ac cc).length = p from Nat.add_sub_cancel p 13]
  have hlen : (mx_w 20 am cm (mx_r 64 8)).length = 21 := by
    unfold mx_w
    exact sc_tab_len
  rw [List.getElem?_append_left (by rw [hlen]; exact hp)]
  unfold mx_w
  rw [sc_tab_get hp]
theorem hx_out {ac am : Nat → Nat} {cc cm : Nat → ClassId} {q : Nat} {cq : ClassId} : (hx_ws ac am cc cm q cq)[34]? = some (q, .inl (cq, 1, .inr (.inl (fun _ => 0)))) := by
  unfold hx_ws
  have hlen : (mx_w 20 am cm (mx_r 64 8)).length = 21 := by
    unfold mx_w
    exact sc_tab_len
  have hl1 : (cx_w ac cc).length = 13 := rfl
  rw [List.getElem?_append_right (by rw [hl1]; decide), hl1, List.getElem?_append_right (by rw [hlen]; decide), hlen]
  rfl
