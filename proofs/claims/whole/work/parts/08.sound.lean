/-! a method's own precondition, for all methods at once, and that it gives the method's contract -/
def sc_sf : List (Nat × sc_EN) → Nat → List (Nat × sc_EN)
  | [], _ => []
  | q :: r, t => match Nat.beq q.1 t with
    | true => q :: r
    | false => sc_sf r t
def sc_wp0 : List (Nat × sc_EN) → sc_KT := fun _ _ _ _ _ => False
def sc_wpS (C : sc_CT) (Q : sc_RT) (all : List (Nat × sc_EN)) (_ : Nat) (f : List (Nat × sc_EN) → sc_KT) (cur : List (Nat × sc_EN)) : sc_KT := match cur with
  | [] => fun _ _ _ _ => False
  | q :: r => q.2 C Q (fun t => f (sc_sf all t)) (f r)
noncomputable def sc_wp (C : sc_CT) (Q : sc_RT) (all : List (Nat × sc_EN)) (n : Nat) : List (Nat × sc_EN) → sc_KT := Nat.rec (motive := fun _ => List (Nat × sc_EN) → sc_KT) sc_wp0 (sc_wpS C Q all) n
def sc_al : Nat → List sc_V → sc_L
  | _, [] => []
  | i, v :: r => (i, v) :: sc_al (i + 1) r
noncomputable def sc_wpM : Nat → sc_CT
  | 0 => fun _ _ _ _ _ => False
  | d + 1 => fun mid as I D K => match Nat.ble as.length (sc_nL mid) with
    | true => sc_wp (sc_wpM d) K (sc_t mid) 5000 (sc_t mid) (sc_al 0 as) [] I D
    | false => False
theorem sc_sf_ts {y : MethodName} {cc : ByteArray} {nL : Nat} {rt : Option FieldType} : ∀ (all : List (Nat × sc_EN)) (t : Nat), sc_TS y cc nL rt all → sc_TS y cc nL rt (sc_sf all t)
  | [], _, h => h
  | q :: r, t, h => by
    unfold sc_sf
    split
    · exact h
    · exact sc_sf_ts r t h.2
theorem sc_sf_hd : ∀ (all : List (Nat × sc_EN)) (t : Nat), sc_sf all t = [] ∨ sc_hd (sc_sf all t) = t
  | [], _ => Or.inl rfl
  | q :: r, t => by
    unfold sc_sf
    split
    · rename_i hb
      exact Or.inr (Nat.eq_of_beq_eq_true hb)
    · exact sc_sf_hd r t
theorem sc_wp_nil {C : sc_CT} {Q : sc_RT} {all : List (Nat × sc_EN)} : ∀ {n : Nat} {lv : sc_L} {st : List sc_V} {I : sc_I} {D : sc_R}, ¬ sc_wp C Q all n [] lv st I D
  | 0, _, _, _, _ => id
  | _ + 1, _, _, _, _ => id
theorem sc_wp_snd {l : Launch} {d : Nat} {p : Program} {e : Env} {s : State} {m : MethodId} {args : Array Value} {below : List Frame} {meth : Method} {c : Code} {dC : Nat → ClassId} {dI : Nat → Nat → Nat} {ad : Nat → Nat} {cA : Nat → ClassId} {LP : List Nat} {o : Nat → Int64} {A : Nat → Prop} {C : sc_CT} {Q : sc_RT} {y : MethodName} {cc : ByteArray} {nL : Nat} {rt : Option FieldType} {all : List (Nat × sc_EN)}
    (hC : sc_Cx l d p e s m args below meth c dC dI ad cA LP o A y cc nL rt) (hO : sc_CO l d dC dI ad cA LP o A C) (hT : sc_TS y cc nL rt all) :
    ∀ (n : Nat) (cur : List (Nat × sc_EN)), sc_TS y cc nL rt cur → ∀ lv st I D, sc_wp C Q all n cur lv st I D → sc_At l d p e s m args below meth c dC dI ad cA LP o A Q nL (sc_hd cur) lv st I D := by
  intro n
  induction n with
  | zero => intro cur _ lv st I D h; exact h.elim
  | succ n ih =>
    intro cur hc lv st I D h
    cases cur with
    | nil => exact h.elim
    | cons q r =>
      refine hc.1 l d p e s m args below meth c dC dI ad cA LP o A C Q hC hO _ _ (fun t lv st I D h => ?_) (fun lv st I D h => ih r hc.2 lv st I D h) lv st I D h
      rcases sc_sf_hd all t with e0 | e0
      · rw [e0] at h
        exact absurd h sc_wp_nil
      · have := ih (sc_sf all t) (sc_sf_ts all t hT) lv st I D h
        rw [e0] at this
        exact this
theorem sc_lg (ad : Nat → Nat) : ∀ as : List sc_V, (lg_sl (as.map (sc_tv ad))).length = as.length
  | [] => rfl
  | v :: r => by
    have := sc_lg ad r
    rcases v with x | ⟨k, i⟩ <;> simpa [lg_sl, sc_tv, Value.category] using this
theorem sc_al_map (ad : Nat → Nat) : ∀ (as : List sc_V) (i : Nat), lv_args i (as.map (sc_tv ad)) = sc_lm ad (sc_al i as)
  | [], _ => rfl
  | v :: r, i => by
    have h1 := sc_al_map ad r (i + 1)
    have h2 : ¬ (sc_tv ad v).category = 2 := by rw [sc_tv_cat]; decide
    show (i, sc_tv ad v) :: lv_args (if (sc_tv ad v).category = 2 then i + 2 else i + 1) (r.map (sc_tv ad)) = (i, sc_tv ad v) :: sc_lm ad (sc_al (i + 1) r)
    rw [if_neg h2, h1]
theorem sc_al_ok {LP : List Nat} : ∀ (as : List sc_V) (i : Nat), (∀ v ∈ as, sc_ok LP v) → ∀ q ∈ sc_al i as, sc_ok LP q.2
  | [], _, _, q, hq => by cases hq
  | v :: r, i, h, q, hq => by
    rcases List.mem_cons.mp hq with rfl | hq
    · exact h v List.mem_cons_self
    · exact sc_al_ok r (i + 1) (fun z hz => h z (List.mem_cons_of_mem _ hz)) q hq
theorem sc_ofW {l : Launch} {y : MethodName} {ws ws' : List Cond} {rm : Room} {Pc : Array Value → State → Prop} {Qc : Array Value → State → Outcome → State → Prop} {mc ms : Nat} {free : Addr → Prop} {cc : ByteArray} {maxL : Nat} {ret : Option FieldType}
    (hy : plainFor y = true) (hw : ws = Cond.code y cc maxL ret :: ws')
    (body : ∀ p e s m args below meth c s₁, BodyLoose p l y (headSpec ws rm) cc maxL ret e s m args below meth c s₁ → c.maxLocals = maxL → Pc args s →
      W p l e (headSpec ws rm).room s m args below meth c s.heap [] 0 0 (MQ below Qc args s mc ms free) (entryFrame m args maxL)) : Met l y ws rm Pc Qc mc ms free := by
  refine MetFree.of_bodySF (code := cc) (maxLocals := maxL) (ret := ret) hy ?_ ?_
  · intro args s m h hn
    obtain ⟨meth, c, h1, h2, h3, h4, h5, h6, -, -⟩ := Cond.code_spec hn (atoms_spec (ws := ws) h _ (by rw [hw]; exact List.mem_cons_self))
    exact ⟨meth, c, h1, h2, h3, h4, h5, h6⟩
  · intro p e s m args below meth c s₁ B hml hP _
    have hh0 : s₁.heap = s.heap := by rw [B.state]; rfl
    obtain ⟨t, a1, o, b1, b2, b3⟩ := body p e s m args below meth c s₁ B hml hP s₁ hh0 (Stand.of_body B)
    exact ⟨t, o, a1, b1, b2, ⟨b3.1, b3.2⟩⟩
/-- THE METHODS: what the interpreter says of a method holds of it on the machine -/
theorem sc_sound (l : Launch) (dC : Nat → ClassId) (dI : Nat → Nat → Nat) (ad : Nat → Nat) (cA : Nat → ClassId) (LP : List Nat) (o : Nat → Int64) (A : Nat → Prop) (hD : ∀ I D, va_D A (sc_w ad cA LP o I D)) : ∀ d, sc_CO l d dC dI ad cA LP o A (sc_wpM d) := by
  intro d
  induction d with
  | zero => intro mid as I D K _ h; exact h.elim
  | succ d ih =>
    intro mid as I D K hm hf hok hvd
    unfold sc_wpM at hf
    split at hf
    · rename_i hbl
      have hle : as.length ≤ sc_nL mid := Nat.le_of_ble_eq_true hbl
      unfold sc_Met
      refine sc_ofW (cc := sc_c mid) (maxL := sc_nL mid) (ret := sc_rt mid) (sc_pn_ok mid hm) rfl ?_
      intro p e s m args below meth c s₁ B hml hv
      obtain ⟨rfl, hKN, hP⟩ := hv
      have hts := atoms_spec (ws := sc_ws (sc_y mid) (sc_c mid) (sc_nL mid) (sc_rt mid)) B.pre
      have hown : s.vm.findClass (sc_y mid).cls = some m.cls := findClass_of_methodNamed B.named
      have hAt := sc_wp_snd (l := l) (d := d) (e := e) (below := below) (o := o) (LP := LP) (ad := ad) ⟨B.exec, B.bytes, B.returns, hml, hown, hts, B.notSynchronized, hKN, hD⟩ ih (sc_ts mid hm) 5000 (sc_t mid) (sc_ts mid hm) (sc_al 0 as) [] I D hf
      rw [sc_hd0 mid hm] at hAt
      rw [lg_entry_eq]
      have hl := lv_entry (as.map (sc_tv ad)) (n := sc_nL mid) (by rw [sc_lg]; exact hle)
      rw [sc_al_map] at hl
      exact hAt hvd (fun v hv => by cases hv) (sc_al_ok as 0 hok) s.heap [] _ hP va_S.rf hl
    · exact hf.elim
