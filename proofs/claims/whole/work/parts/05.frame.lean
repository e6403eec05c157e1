
abbrev mp_M : Type := Nat → Option va_E

abbrev gx_T : Type := Launch × va_G × (ClassId × ClassId × ClassId) × Nat × (Nat × Nat) × Nat × Nat × (Nat → Int32)
def gx_l (g : gx_T) : Launch := g.1
def gx_D (g : gx_T) : va_G := g.2.1
def gx_E (g : gx_T) : ClassId := g.2.2.1.1
def gx_O (g : gx_T) : ClassId := g.2.2.1.2.1
def gx_I (g : gx_T) : ClassId := g.2.2.1.2.2
def gx_z (g : gx_T) : Nat := g.2.2.2.1
def gx_e (g : gx_T) : Nat := g.2.2.2.2.1.1
def gx_m (g : gx_T) : Nat := g.2.2.2.2.1.2
def gx_b (g : gx_T) : Nat := g.2.2.2.2.2.1
def gx_L (g : gx_T) : Nat := g.2.2.2.2.2.2.1
def gx_x (g : gx_T) : Nat → Int32 := g.2.2.2.2.2.2.2
def gx_t (g : gx_T) : List (ClassId × FieldType) := [(gx_E g, .object "WideStore$Entry"), (gx_O g, .object "java/lang/Object"), (gx_I g, .int)]
def mp_K (g : gx_T) (U : State) : Prop := va_K (gx_D g) vwCl (gx_t g) U ∧ va_AO "WideStore$Entry" U ∧ va_AO "java/lang/Object" U ∧ va_Nw (.methodLinkNest RXT 27 yXS_pointSlot RXS) U ∧ va_Nw (.methodLinkNest RXT 45 yXS_wipeSlot RXS) U ∧ va_Nw (.castable RXT RXT) U ∧ va_Nw (.castable RXT "java/lang/Object") U ∧ va_Z "java/util/ArrayList" "DEFAULTCAPACITY_EMPTY_ELEMENTDATA" "[Ljava/lang/Object;" (.ref (gx_e g)) (fun q => gx_z g ≤ q) U U.heap ∧ va_T (.object "java/lang/Object") (gx_e g) 0 (fun _ => .null) (fun q => gx_z g ≤ q) U U.heap ∧ va_Mi "[Ljava/lang/Object;" (gx_m g) U ∧ va_Dc U ∧ va_X (gx_b g) (gx_L g) (gx_x g) U U.heap ∧ gx_b g < gx_z g
theorem mp_K.to {g : gx_T} {s U : State} {H : Heap} {locs : List Loc} (h : mp_K g s) (hz : gx_z g ≤ s.heap.size) (hW : s.WarmedH U.vm) (hU : U.heap = H) (hS : va_S (fun q => gx_z g ≤ q) s.heap H locs) : mp_K g U := by
  obtain ⟨h1, h2, h3, h4, h5, h6, h7, h8, h9, h10, h11, h12, h13⟩ := h
  subst hU
  exact ⟨h1.moved hW.alike, h2.moved hW.alike, h3.moved hW.alike, h4.warmM hW, h5.warmM hW, h6.warmC hW, h7.warmC hW, (h8.moved hW.alike).kept hS.2.1, (h9.moved hW.alike).kept hS.2.1, h10.moved hW.alike, h11.moved hW.alike, (h12.moved hW.alike).kept (hS.2.1 _ (Nat.lt_of_lt_of_le h13 hz) (Nat.not_le.mpr h13)), h13⟩
theorem mp_K.calling {g : gx_T} {U : State} {f : JFrame} {mk : MethodId} {a : Array Value} (h : mp_K g U) : mp_K g (U.calling f mk a) := by
  obtain ⟨h1, h2, h3, h4, h5, h6, h7, h8, h9, h10, h11, h12, h13⟩ := h
  exact ⟨va_K.moved (u := U) (U := U.calling f mk a) (Vm.Alike.refl U.vm) h1, va_AO.moved (u := U) (U := U.calling f mk a) (Vm.Alike.refl U.vm) h2, va_AO.moved (u := U) (U := U.calling f mk a) (Vm.Alike.refl U.vm) h3, va_Nw.same rfl (u := U) (U := U.calling f mk a) rfl h4, va_Nw.same rfl (u := U) (U := U.calling f mk a) rfl h5, va_Nw.same rfl (u := U) (U := U.calling f mk a) rfl h6, va_Nw.same rfl (u := U) (U := U.calling f mk a) rfl h7, va_Z.moved (u := U) (U := U.calling f mk a) (Vm.Alike.refl U.vm) h8, va_T.moved (u := U) (U := U.calling f mk a) (Vm.Alike.refl U.vm) h9, va_Mi.moved (u := U) (U := U.calling f mk a) (Vm.Alike.refl U.vm) h10, va_Dc.moved (u := U) (U := U.calling f mk a) (Vm.Alike.refl U.vm) h11, va_X.moved (u := U) (U := U.calling f mk a) (Vm.Alike.refl U.vm) h12, h13⟩
def mp_H (g : gx_T) (M : mp_M) (H : Heap) : Prop := gx_z g ≤ H.size ∧ ∃ ws : va_W, va_P (gx_D g) vwCl ws H ∧ va_D (fun q => gx_z g ≤ q) ws ∧ ∀ (q : Nat) (e : va_E), M q = some e → ∃ k : Nat, ws[k]? = some (q, e)
def mp_u (M : mp_M) (a : Nat) (e : va_E) : mp_M := fun q => if q = a then some e else M q
theorem mp_us {M : mp_M} {a : Nat} {e : va_E} : mp_u M a e a = some e := if_pos rfl
theorem mp_un {M : mp_M} {a q : Nat} {e : va_E} (h : q ≠ a) : mp_u M a e q = M q := if_neg h
theorem mp_uu {M : mp_M} {a : Nat} {e1 e2 : va_E} : mp_u (mp_u M a e1) a e2 = mp_u M a e2 := by
  funext q
  unfold mp_u
  by_cases h : q = a
  · rw [if_pos h, if_pos h]
  · rw [if_neg h, if_neg h, if_neg h]
theorem mp_same {M : mp_M} {a : Nat} {e : va_E} (h : M a = some e) : mp_u M a e = M := by
  funext q
  unfold mp_u
  by_cases hq : q = a
  · rw [if_pos hq, hq, h]
  · rw [if_neg hq]

def mp_k (P : Nat → Prop) (M M' : mp_M) : Prop := ∀ (q : Nat) (e : va_E), ¬ P q → M q = some e → M' q = some e
theorem mp_k.rf {P : Nat → Prop} {M : mp_M} : mp_k P M M := fun _ _ _ h => h
theorem mp_k.tr {P : Nat → Prop} {M M' M2 : mp_M} (h : mp_k P M M') (h2 : mp_k P M' M2) : mp_k P M M2 := fun q e hq hm => h2 q e hq (h q e hq hm)
theorem mp_k.mono {P P' : Nat → Prop} {M M' : mp_M} (h : mp_k P M M') (hp : ∀ q, P q → P' q) : mp_k P' M M' := fun q e hq hm => h q e (fun z => hq (hp q z)) hm
theorem mp_k.up {P : Nat → Prop} {M : mp_M} {a : Nat} {e : va_E} (h : P a) : mp_k P M (mp_u M a e) := fun q e' hq hm => by rw [mp_un (fun z => hq (by rw [z]; exact h))]; exact hm
theorem mp_k.new {P : Nat → Prop} {M : mp_M} {a : Nat} {e : va_E} (h : M a = none) : mp_k P M (mp_u M a e) := fun q e' hq hm => by rw [mp_un (fun z => by rw [z, h] at hm; cases hm)]; exact hm
theorem mp_set {M : mp_M} {ws : va_W} {A : Nat → Prop} {a k : Nat} {e0 e : va_E} (hD : va_D A ws) (hM : ∀ (q : Nat) (e : va_E), M q = some e → ∃ k : Nat, ws[k]? = some (q, e)) (hk : ws[k]? = some (a, e0)) : ∀ (q : Nat) (e' : va_E), mp_u M a e q = some e' → ∃ j : Nat, (ws.set k (a, e))[j]? = some (q, e') := by
  intro q e' h
  have hl := (List.getElem?_eq_some_iff.mp hk).1
  by_cases hq : q = a
  · subst hq
    rw [mp_us] at h
    cases h
    exact ⟨k, List.getElem?_set_self hl⟩
  · rw [mp_un hq] at h
    obtain ⟨j, hj⟩ := hM q e' h
    refine ⟨j, ?_⟩
    rw [List.getElem?_set_ne (fun z => ?_)]
    · exact hj
    · subst z
      rw [hk] at hj
      cases hj
      exact hq rfl
theorem mp_push {M : mp_M} {ws : va_W} {A : Nat → Prop} {a : Nat} {e : va_E} (hD : va_D A (ws ++ [(a, e)])) (hM : ∀ (q : Nat) (e : va_E), M q = some e → ∃ k : Nat, ws[k]? = some (q, e)) : M a = none ∧ ∀ (q : Nat) (e' : va_E), mp_u M a e q = some e' → ∃ j : Nat, (ws ++ [(a, e)])[j]? = some (q, e') := by
  have hlast : (ws ++ [(a, e)])[ws.length]? = some (a, e) := by
    rw [List.getElem?_append_right (Nat.le_refl _), Nat.sub_self]; rfl
  have hold : ∀ {j : Nat} {x : Nat × va_E}, ws[j]? = some x → (ws ++ [(a, e)])[j]? = some x := by
    intro j x hj
    rw [List.getElem?_append_left (List.getElem?_eq_some_iff.mp hj).1]
    exact hj
  refine ⟨?_, fun q e' h => ?_⟩
  · cases hMa : M a with
    | none => rfl
    | some e1 =>
      obtain ⟨j, hj⟩ := hM a e1 hMa
      have := hD.1 j ws.length _ _ (hold hj) hlast rfl
      have hl := (List.getElem?_eq_some_iff.mp hj).1
      omega
  · by_cases hq : q = a
    · subst hq
      rw [mp_us] at h
      cases h
      exact ⟨_, hlast⟩
    · rw [mp_un hq] at h
      obtain ⟨j, hj⟩ := hM q e' h
      exact ⟨j, hold hj⟩

def lx_q : Nat → List (Option Value) → List (Nat × Value)
  | _, [] => []
  | i, none :: r => lx_q (i + 1) r
  | i, some v :: r => (i, v) :: lx_q (i + 1) r
theorem lx_mem : ∀ (L : List (Option Value)) (i : Nat) (q : Nat × Value), q ∈ lx_q i L ↔ ∃ j : Nat, q.1 = i + j ∧ L[j]? = some (some q.2)
  | [], i, q => by simp [lx_q]
  | none :: r, i, q => by
    rw [lx_q, lx_mem r (i + 1) q]
    constructor
    · rintro ⟨j, h1, h2⟩
      exact ⟨j + 1, by omega, by simpa using h2⟩
    · rintro ⟨j, h1, h2⟩
      cases j with
      | zero => simp at h2
      | succ j => exact ⟨j, by omega, by simpa using h2⟩
  | some v :: r, i, q => by
    rw [lx_q, List.mem_cons, lx_mem r (i + 1) q]
    constructor
    · rintro (h | ⟨j, h1, h2⟩)
      · subst h
        exact ⟨0, rfl, rfl⟩
      · exact ⟨j + 1, by omega, by simpa using h2⟩
    · rintro ⟨j, h1, h2⟩
      cases j with
      | zero =>
        left
        simp at h2
        obtain ⟨a, b⟩ := q
        simp at h1 h2
        rw [h1, h2]
      | succ j => exact Or.inr ⟨j, by omega, by simpa using h2⟩
def lx (ls : Array Slot) (nL : Nat) (L : List (Option Value)) : Prop := lv_has ls nL (lx_q 0 L) ∧ L.length = nL ∧ ∀ v, some v ∈ L → v.category = 1
theorem lx.at {ls : Array Slot} {nL : Nat} {L : List (Option Value)} (h : lx ls nL L) {i : Nat} {v : Value} (hi : L[i]? = some (some v)) : ls[i]? = some (.val v) := h.1.2.2 (i, v) ((lx_mem L 0 (i, v)).mpr ⟨i, (Nat.zero_add i).symm, hi⟩)
theorem lx.put {ls' : Array Slot} {nL : Nat} {L : List (Option Value)} {i : Nat} {v : Value} {l2 : List (Nat × Value)} {P : Nat × Value → Bool} (h2 : L.length = nL) (h3 : ∀ v, some v ∈ L → v.category = 1) (hv : v.category = 1) (hP : ∀ q, P q = (!(q.1 == i) && !(q.1 + 1 == i && q.2.category == 2))) (hl : (i, v) :: (lx_q 0 L).filter P = l2) (h : lv_has ls' nL l2) : lx ls' nL (L.set i (some v)) := by
  subst hl
  refine ⟨⟨h.1, h.2.1, fun q hq => ?_⟩, by rw [List.length_set]; exact h2, fun w hw => ?_⟩
  · obtain ⟨j, e1, e2⟩ := (lx_mem _ 0 q).mp hq
    rw [Nat.zero_add] at e1
    by_cases hj : j = i
    · subst hj
      have hlt : j < L.length := by
        have := (List.getElem?_eq_some_iff.mp e2).1
        rw [List.length_set] at this
        exact this
      rw [List.getElem?_set_self hlt] at e2
      have e3 : v = q.2 := Option.some.inj (Option.some.inj e2)
      refine h.2.2 q (List.mem_cons.mpr (Or.inl ?_))
      exact Prod.ext e1 e3.symm
    · rw [List.getElem?_set_ne (fun z => hj z.symm)] at e2
      refine h.2.2 q (List.mem_cons_of_mem _ (List.mem_filter.mpr ⟨(lx_mem L 0 q).mpr ⟨j, by omega, e2⟩, ?_⟩))
      rw [hP]
      have hc := h3 q.2 (List.mem_of_getElem? e2)
      have hne : (q.1 == i) = false := by
        rw [e1]
        exact beq_false_of_ne hj
      rw [hne, hc]
      simp
  · rcases List.mem_or_eq_of_mem_set hw with g | g
    · exact h3 w g
    · rw [Option.some.inj g]
      exact hv
theorem lx_entry_l : ∀ (vs : List Value) (i : Nat), (∀ v, v ∈ vs → v.category = 1) → ∀ (n : Nat), lx_q i (vs.map some ++ List.replicate n none) = lv_args i vs
  | [], i, _, n => by
    have : ∀ (n i : Nat), lx_q i (List.replicate n none) = [] := by
      intro n
      induction n with
      | zero => intro i; rfl
      | succ n ih => intro i; rw [List.replicate_succ, lx_q]; exact ih _
    simpa [lv_args] using this n i
  | v :: vs, i, h, n => by
    have hc := h v (List.mem_cons_self)
    have ih := lx_entry_l vs (i + 1) (fun w hw => h w (List.mem_cons_of_mem _ hw)) n
    simp only [List.map_cons, List.cons_append, lx_q, lv_args, hc]
    rw [ih]
    simp
theorem lx_len : ∀ (vs : List Value), (∀ v, v ∈ vs → v.category = 1) → (lg_sl vs).length = vs.length
  | [], _ => rfl
  | v :: vs, h => by
    have hc := h v (List.mem_cons_self)
    have ih := lx_len vs (fun w hw => h w (List.mem_cons_of_mem _ hw))
    simp only [lg_sl, List.flatMap_cons, hc, List.length_append] at ih ⊢
    simp only [List.length_cons]
    have e1 : ((if (1 : Nat) = 2 then [Slot.val v, Slot.second] else [Slot.val v]) : List Slot).length = 1 := rfl
    rw [e1, ih]
    omega
theorem lx_entry (vs : List Value) {n : Nat} (h : vs.length ≤ n) (hc : ∀ v, v ∈ vs → v.category = 1) : lx ((lg_sl vs ++ List.replicate (n - (lg_sl vs).length) Slot.unset).toArray) n (vs.map some ++ List.replicate (n - vs.length) none) := by
  refine ⟨?_, ?_, ?_⟩
  · rw [lx_entry_l vs 0 hc]
    exact lv_entry vs (by rw [lx_len vs hc]; exact h)
  · simp
    omega
  · intro v hv
    rcases List.mem_append.mp hv with g | g
    · obtain ⟨w, h1, h2⟩ := List.mem_map.mp g
      rw [← Option.some.inj h2]
      exact hc w h1
    · have := List.eq_of_mem_replicate g
      cases this

abbrev cx_T : Type := Program × Env × Room × State × MethodId × Array Value × List Frame × Method × Code × Nat × (State → Prop)
def VV (g : gx_T) (x : cx_T) (M : mp_M) (k n pc : Nat) (L : List (Option Value)) (st : List Value) : Prop := match x with
  | (p, e, R, s, m, args, below, meth, c, nL, Q) => ∀ (H : Heap) (locs : List Loc) (ls : Array Slot), mp_H g M H → va_S (fun q => gx_z g ≤ q) s.heap H locs → lx ls nL L → W p (gx_l g) e R s m args below meth c H locs k n Q (F0 m pc ls st)
def CX (g : gx_T) (x : cx_T) (cc : ByteArray) (own : String) (fr ce sl lc : Nat) : Prop := match x with
  | (p, _, R, s, m, args, _, _, c, nL, _) => CallFix p m c cc nL s args AL own ∧ mp_K g s ∧ R = { frames := fr, cells := ce, slots := sl, locals := lc } ∧ gx_z g ≤ s.heap.size

def mp_Q (g : gx_T) (Po : Option Value → mp_M → Prop) : Array Value → State → Outcome → State → Prop := fun _ st oc t => (∃ (v : Option Value) (M' : mp_M), oc = .returned v ∧ Po v M' ∧ mp_H g M' t.heap) ∧ va_F (fun q => gx_z g ≤ q) st t
def RX (g : gx_T) (x : cx_T) (ret : Option FieldType) (Po : Option Value → mp_M → Prop) (mc ms : Nat) : Prop := match x with
  | (_, _, _, s, _, args, below, meth, _, _, Q) => meth.sig.returnType = ret ∧ meth.locks = false ∧ Q = MQ below (mp_Q g Po) args s mc ms (fun q => gx_z g ≤ q)
def IX (x : cx_T) : Prop := match x with
  | (_, _, _, _, _, _, _, meth, _, _, _) => meth.name = "<init>"
section VROWS
variable {g : gx_T} {x : cx_T} {cc : ByteArray} {own : String} {fr ce sl lc : Nat} {M : mp_M} {k n pc : Nat} {L : List (Option Value)} {rest : List Value}

theorem v_iconst (C : CX g x cc own fr ce sl lc) (q : Nat) {i : Int} (hd : decode cc pc = .ok (.iconst i, 1)) (hq : pc + 1 = q) (v : Int32) (hv : Int32.ofInt i = v) (kk : VV g x M k n q L (.int v :: rest)) : VV g x M k n pc L (rest) := by
  obtain ⟨p, e, R, s, m, args, below, meth, c, nL, Q⟩ := x
  subst hq
  exact fun H locs ls hw hS hl => lv_iconst C.1.1 C.1.2.1 hd hv (kk H locs ls hw hS hl)
theorem v_bipush (C : CX g x cc own fr ce sl lc) (q : Nat) {i : Int} (hd : decode cc pc = .ok (.bipush i, 2)) (hq : pc + 2 = q) (v : Int32) (hv : (Int8.ofInt i).toInt32 = v) (kk : VV g x M k n q L (.int v :: rest)) : VV g x M k n pc L (rest) := by
  obtain ⟨p, e, R, s, m, args, below, meth, c, nL, Q⟩ := x
  subst hq
  exact fun H locs ls hw hS hl => lv_bipush C.1.1 C.1.2.1 hd hv (kk H locs ls hw hS hl)
theorem v_sipush (C : CX g x cc own fr ce sl lc) (q : Nat) {i : Int} (hd : decode cc pc = .ok (.sipush i, 3)) (hq : pc + 3 = q) (v : Int32) (hv : (Int16.ofInt i).toInt32 = v) (kk : VV g x M k n q L (.int v :: rest)) : VV g x M k n pc L (rest) := by
  obtain ⟨p, e, R, s, m, args, below, meth, c, nL, Q⟩ := x
  subst hq
  exact fun H locs ls hw hS hl => lv_sipush C.1.1 C.1.2.1 hd hv (kk H locs ls hw hS hl)
theorem v_iload_n (C : CX g x cc own fr ce sl lc) (q : Nat) {i : Fin 4} {v : Int32} (hd : decode cc pc = .ok (.iload_n i, 1)) (hq : pc + 1 = q) (hv : L[(i : Nat)]? = some (some (.int v))) (kk : VV g x M k n q L (.int v :: rest)) : VV g x M k n pc L rest := by
  obtain ⟨p, e, R, s, m, args, below, meth, c, nL, Q⟩ := x
  subst hq
  exact fun H locs ls hw hS hl => lv_iload_n C.1.1 C.1.2.1 hd rfl (hl.at hv) (kk H locs ls hw hS hl)
theorem v_iload (C : CX g x cc own fr ce sl lc) (q : Nat) {i : Nat} {v : Int32} (hd : decode cc pc = .ok (.iload i, 2)) (hq : pc + 2 = q) (hv : L[i]? = some (some (.int v))) (kk : VV g x M k n q L (.int v :: rest)) : VV g x M k n pc L rest := by
  obtain ⟨p, e, R, s, m, args, below, meth, c, nL, Q⟩ := x
  subst hq
  exact fun H locs ls hw hS hl => lv_iload C.1.1 C.1.2.1 hd (hl.at hv) (kk H locs ls hw hS hl)
theorem v_aload_n (C : CX g x cc own fr ce sl lc) (q : Nat) {i : Fin 4} {v : Nat} (hd : decode cc pc = .ok (.aload_n i, 1)) (hq : pc + 1 = q) (hv : L[(i : Nat)]? = some (some (.ref v))) (kk : VV g x M k n q L (.ref v :: rest)) : VV g x M k n pc L rest := by
  obtain ⟨p, e, R, s, m, args, below, meth, c, nL, Q⟩ := x
  subst hq
  exact fun H locs ls hw hS hl => lv_aload_n C.1.1 C.1.2.1 hd rfl (hl.at hv) (kk H locs ls hw hS hl)
theorem v_aload (C : CX g x cc own fr ce sl lc) (q : Nat) {i : Nat} {v : Nat} (hd : decode cc pc = .ok (.aload i, 2)) (hq : pc + 2 = q) (hv : L[i]? = some (some (.ref v))) (kk : VV g x M k n q L (.ref v :: rest)) : VV g x M k n pc L rest := by
  obtain ⟨p, e, R, s, m, args, below, meth, c, nL, Q⟩ := x
  subst hq
  exact fun H locs ls hw hS hl => lv_aload C.1.1 C.1.2.1 hd (hl.at hv) (kk H locs ls hw hS hl)
theorem v_aload_nN (C : CX g x cc own fr ce sl lc) (q : Nat) {i : Fin 4} (hd : decode cc pc = .ok (.aload_n i, 1)) (hq : pc + 1 = q) (hv : L[(i : Nat)]? = some (some .null)) (kk : VV g x M k n q L (.null :: rest)) : VV g x M k n pc L rest := by
  obtain ⟨p, e, R, s, m, args, below, meth, c, nL, Q⟩ := x
  subst hq
  exact fun H locs ls hw hS hl => lv_aload_nN C.1.1 C.1.2.1 hd rfl (hl.at hv) (kk H locs ls hw hS hl)
theorem v_aloadN (C : CX g x cc own fr ce sl lc) (q : Nat) {i : Nat} (hd : decode cc pc = .ok (.aload i, 2)) (hq : pc + 2 = q) (hv : L[i]? = some (some .null)) (kk : VV g x M k n q L (.null :: rest)) : VV g x M k n pc L rest := by
  obtain ⟨p, e, R, s, m, args, below, meth, c, nL, Q⟩ := x
  subst hq
  exact fun H locs ls hw hS hl => lv_aloadN C.1.1 C.1.2.1 hd (hl.at hv) (kk H locs ls hw hS hl)
theorem v_istore_n (C : CX g x cc own fr ce sl lc) (q : Nat) (L2 : List (Option Value)) {i : Fin 4} {v : Int32} (hd : decode cc pc = .ok (.istore_n i, 1)) (hq : pc + 1 = q) (hi : (i : Nat) < L.length) (hL : L.set (i : Nat) (some (.int v)) = L2) (kk : VV g x M k n q L2 rest) : VV g x M k n pc L (.int v :: rest) := by
  obtain ⟨p, e, R, s, m, args, below, meth, c, nL, Q⟩ := x
  subst hq
  subst hL
  exact fun H locs ls hw hS hl => lv_istore_n C.1.1 C.1.2.1 hd rfl hl.1 (hl.2.1 ▸ hi) rfl (fun ls2 h2 => kk H locs ls2 hw hS (lx.put hl.2.1 hl.2.2 rfl (fun _ => rfl) rfl h2))
theorem v_istore (C : CX g x cc own fr ce sl lc) (q : Nat) (L2 : List (Option Value)) {i : Nat} {v : Int32} (hd : decode cc pc = .ok (.istore i, 2)) (hq : pc + 2 = q) (hi : i < L.length) (hL : L.set i (some (.int v)) = L2) (kk : VV g x M k n q L2 rest) : VV g x M k n pc L (.int v :: rest) := by
  obtain ⟨p, e, R, s, m, args, below, meth, c, nL, Q⟩ := x
  subst hq
  subst hL
  exact fun H locs ls hw hS hl => lv_istore C.1.1 C.1.2.1 hd hl.1 (hl.2.1 ▸ hi) rfl (fun ls2 h2 => kk H locs ls2 hw hS (lx.put hl.2.1 hl.2.2 rfl (fun _ => rfl) rfl h2))
theorem v_astore_n (C : CX g x cc own fr ce sl lc) (q : Nat) (L2 : List (Option Value)) {i : Fin 4} {v : Nat} (hd : decode cc pc = .ok (.astore_n i, 1)) (hq : pc + 1 = q) (hi : (i : Nat) < L.length) (hL : L.set (i : Nat) (some (.ref v)) = L2) (kk : VV g x M k n q L2 rest) : VV g x M k n pc L (.ref v :: rest) := by
  obtain ⟨p, e, R, s, m, args, below, meth, c, nL, Q⟩ := x
  subst hq
  subst hL
  exact fun H locs ls hw hS hl => lv_astore_n C.1.1 C.1.2.1 hd rfl hl.1 (hl.2.1 ▸ hi) rfl (fun ls2 h2 => kk H locs ls2 hw hS (lx.put hl.2.1 hl.2.2 rfl (fun _ => rfl) rfl h2))
theorem v_astore (C : CX g x cc own fr ce sl lc) (q : Nat) (L2 : List (Option Value)) {i : Nat} {v : Nat} (hd : decode cc pc = .ok (.astore i, 2)) (hq : pc + 2 = q) (hi : i < L.length) (hL : L.set i (some (.ref v)) = L2) (kk : VV g x M k n q L2 rest) : VV g x M k n pc L (.ref v :: rest) := by
  obtain ⟨p, e, R, s, m, args, below, meth, c, nL, Q⟩ := x
  subst hq
  subst hL
  exact fun H locs ls hw hS hl => lv_astore C.1.1 C.1.2.1 hd hl.1 (hl.2.1 ▸ hi) rfl (fun ls2 h2 => kk H locs ls2 hw hS (lx.put hl.2.1 hl.2.2 rfl (fun _ => rfl) rfl h2))
theorem v_astore_nN (C : CX g x cc own fr ce sl lc) (q : Nat) (L2 : List (Option Value)) {i : Fin 4} (hd : decode cc pc = .ok (.astore_n i, 1)) (hq : pc + 1 = q) (hi : (i : Nat) < L.length) (hL : L.set (i : Nat) (some .null) = L2) (kk : VV g x M k n q L2 rest) : VV g x M k n pc L (.null :: rest) := by
  obtain ⟨p, e, R, s, m, args, below, meth, c, nL, Q⟩ := x
  subst hq
  subst hL
  exact fun H locs ls hw hS hl => lv_astore_nN C.1.1 C.1.2.1 hd rfl hl.1 (hl.2.1 ▸ hi) rfl (fun ls2 h2 => kk H locs ls2 hw hS (lx.put hl.2.1 hl.2.2 rfl (fun _ => rfl) rfl h2))
theorem v_astoreN (C : CX g x cc own fr ce sl lc) (q : Nat) (L2 : List (Option Value)) {i : Nat} (hd : decode cc pc = .ok (.astore i, 2)) (hq : pc + 2 = q) (hi : i < L.length) (hL : L.set i (some .null) = L2) (kk : VV g x M k n q L2 rest) : VV g x M k n pc L (.null :: rest) := by
  obtain ⟨p, e, R, s, m, args, below, meth, c, nL, Q⟩ := x
  subst hq
  subst hL
  exact fun H locs ls hw hS hl => lv_astoreN C.1.1 C.1.2.1 hd hl.1 (hl.2.1 ▸ hi) rfl (fun ls2 h2 => kk H locs ls2 hw hS (lx.put hl.2.1 hl.2.2 rfl (fun _ => rfl) rfl h2))
theorem v_astore_nQ (C : CX g x cc own fr ce sl lc) (q : Nat) (L2 : List (Option Value)) {i : Fin 4} {r : Option Nat} (hd : decode cc pc = .ok (.astore_n i, 1)) (hq : pc + 1 = q) (hi : (i : Nat) < L.length) (hL : L.set (i : Nat) (some (va_rf r)) = L2) (kk : VV g x M k n q L2 rest) : VV g x M k n pc L (va_rf r :: rest) := by
  cases r with
  | none => exact v_astore_nN C q L2 hd hq hi hL kk
  | some a => exact v_astore_n C q L2 hd hq hi hL kk
theorem v_aload_nQ (C : CX g x cc own fr ce sl lc) (q : Nat) {i : Fin 4} {r : Option Nat} (hd : decode cc pc = .ok (.aload_n i, 1)) (hq : pc + 1 = q) (hv : L[(i : Nat)]? = some (some (va_rf r))) (kk : VV g x M k n q L (va_rf r :: rest)) : VV g x M k n pc L rest := by
  cases r with
  | none => exact v_aload_nN C q hd hq hv kk
  | some a => exact v_aload_n C q hd hq hv kk
theorem v_astoreQ (C : CX g x cc own fr ce sl lc) (q : Nat) (L2 : List (Option Value)) {i : Nat} {r : Option Nat} (hd : decode cc pc = .ok (.astore i, 2)) (hq : pc + 2 = q) (hi : i < L.length) (hL : L.set i (some (va_rf r)) = L2) (kk : VV g x M k n q L2 rest) : VV g x M k n pc L (va_rf r :: rest) := by
  cases r with
  | none => exact v_astoreN C q L2 hd hq hi hL kk
  | some a => exact v_astore C q L2 hd hq hi hL kk
theorem v_aloadQ (C : CX g x cc own fr ce sl lc) (q : Nat) {i : Nat} {r : Option Nat} (hd : decode cc pc = .ok (.aload i, 2)) (hq : pc + 2 = q) (hv : L[i]? = some (some (va_rf r))) (kk : VV g x M k n q L (va_rf r :: rest)) : VV g x M k n pc L rest := by
  cases r with
  | none => exact v_aloadN C q hd hq hv kk
  | some a => exact v_aload C q hd hq hv kk
theorem v_iinc (C : CX g x cc own fr ce sl lc) (q : Nat) (L2 : List (Option Value)) {i : Nat} {j : Int} {u : Int32} (v : Int32) (hd : decode cc pc = .ok (.iinc i j, 3)) (hq : pc + 3 = q) (hu : L[i]? = some (some (.int u))) (hv : u + Int32.ofInt j = v) (hL : L.set i (some (.int v)) = L2) (kk : VV g x M k n q L2 rest) : VV g x M k n pc L rest := by
  obtain ⟨p, e, R, s, m, args, below, meth, c, nL, Q⟩ := x
  subst hq
  subst hL
  intro H locs ls hw hS hl
  obtain ⟨w, hw2⟩ := List.getElem?_of_mem ((lx_mem L 0 (i, .int u)).mpr ⟨i, (Nat.zero_add i).symm, hu⟩)
  exact lv_iinc C.1.1 C.1.2.1 hd hl.1 hw2 hv (hl.2.1 ▸ (List.getElem?_eq_some_iff.mp hu).1) rfl (fun ls2 h2 => kk H locs ls2 hw hS (lx.put hl.2.1 hl.2.2 rfl (fun _ => rfl) rfl h2))
theorem v_iadd (C : CX g x cc own fr ce sl lc) (q : Nat) {a b : Int32} (hd : decode cc pc = .ok (.iadd, 1)) (hq : pc + 1 = q) (kk : VV g x M k n q L (.int (a + b) :: rest)) : VV g x M k n pc L (.int b :: .int a :: rest) := by
  obtain ⟨p, e, R, s, m, args, below, meth, c, nL, Q⟩ := x
  subst hq
  exact fun H locs ls hw hS hl => lv_iadd C.1.1 C.1.2.1 hd (kk H locs ls hw hS hl)
theorem v_isub (C : CX g x cc own fr ce sl lc) (q : Nat) {a b : Int32} (hd : decode cc pc = .ok (.isub, 1)) (hq : pc + 1 = q) (kk : VV g x M k n q L (.int (a - b) :: rest)) : VV g x M k n pc L (.int b :: .int a :: rest) := by
  obtain ⟨p, e, R, s, m, args, below, meth, c, nL, Q⟩ := x
  subst hq
  exact fun H locs ls hw hS hl => lv_isub C.1.1 C.1.2.1 hd (kk H locs ls hw hS hl)
theorem v_imul (C : CX g x cc own fr ce sl lc) (q : Nat) {a b : Int32} (hd : decode cc pc = .ok (.imul, 1)) (hq : pc + 1 = q) (kk : VV g x M k n q L (.int (a * b) :: rest)) : VV g x M k n pc L (.int b :: .int a :: rest) := by
  obtain ⟨p, e, R, s, m, args, below, meth, c, nL, Q⟩ := x
  subst hq
  exact fun H locs ls hw hS hl => lv_imul C.1.1 C.1.2.1 hd (kk H locs ls hw hS hl)
theorem v_iand (C : CX g x cc own fr ce sl lc) (q : Nat) {a b : Int32} (hd : decode cc pc = .ok (.iand, 1)) (hq : pc + 1 = q) (kk : VV g x M k n q L (.int (a &&& b) :: rest)) : VV g x M k n pc L (.int b :: .int a :: rest) := by
  obtain ⟨p, e, R, s, m, args, below, meth, c, nL, Q⟩ := x
  subst hq
  exact fun H locs ls hw hS hl => lv_iand C.1.1 C.1.2.1 hd (kk H locs ls hw hS hl)
theorem v_ior (C : CX g x cc own fr ce sl lc) (q : Nat) {a b : Int32} (hd : decode cc pc = .ok (.ior, 1)) (hq : pc + 1 = q) (kk : VV g x M k n q L (.int (a ||| b) :: rest)) : VV g x M k n pc L (.int b :: .int a :: rest) := by
  obtain ⟨p, e, R, s, m, args, below, meth, c, nL, Q⟩ := x
  subst hq
  exact fun H locs ls hw hS hl => lv_ior C.1.1 C.1.2.1 hd (kk H locs ls hw hS hl)
theorem v_ixor (C : CX g x cc own fr ce sl lc) (q : Nat) {a b : Int32} (hd : decode cc pc = .ok (.ixor, 1)) (hq : pc + 1 = q) (kk : VV g x M k n q L (.int (a ^^^ b) :: rest)) : VV g x M k n pc L (.int b :: .int a :: rest) := by
  obtain ⟨p, e, R, s, m, args, below, meth, c, nL, Q⟩ := x
  subst hq
  exact fun H locs ls hw hS hl => lv_ixor C.1.1 C.1.2.1 hd (kk H locs ls hw hS hl)
theorem v_idiv (C : CX g x cc own fr ce sl lc) (q : Nat) {a b : Int32} (hd : decode cc pc = .ok (.idiv, 1)) (hq : pc + 1 = q) (hne : ¬ b = 0) (kk : VV g x M k n q L (.int (a / b) :: rest)) : VV g x M k n pc L (.int b :: .int a :: rest) := by
  obtain ⟨p, e, R, s, m, args, below, meth, c, nL, Q⟩ := x
  subst hq
  exact fun H locs ls hw hS hl => lv_idiv C.1.1 C.1.2.1 hd hne (kk H locs ls hw hS hl)
theorem v_ishr (C : CX g x cc own fr ce sl lc) (q : Nat) {a b : Int32} (hd : decode cc pc = .ok (.ishr, 1)) (hq : pc + 1 = q) (kk : VV g x M k n q L (.int (a >>> (b &&& 31)) :: rest)) : VV g x M k n pc L (.int b :: .int a :: rest) := by
  obtain ⟨p, e, R, s, m, args, below, meth, c, nL, Q⟩ := x
  subst hq
  exact fun H locs ls hw hS hl => lv_ishr C.1.1 C.1.2.1 hd (kk H locs ls hw hS hl)
theorem v_ineg (C : CX g x cc own fr ce sl lc) (q : Nat) {a : Int32} (hd : decode cc pc = .ok (.ineg, 1)) (hq : pc + 1 = q) (kk : VV g x M k n q L (.int (-a) :: rest)) : VV g x M k n pc L (.int a :: rest) := by
  obtain ⟨p, e, R, s, m, args, below, meth, c, nL, Q⟩ := x
  subst hq
  exact fun H locs ls hw hS hl => lv_ineg C.1.1 C.1.2.1 hd (kk H locs ls hw hS hl)
theorem v_dup (C : CX g x cc own fr ce sl lc) (q : Nat) {v : Value} (hd : decode cc pc = .ok (.dup, 1)) (hq : pc + 1 = q) (hv : v.category = 1) (kk : VV g x M k n q L (v :: v :: rest)) : VV g x M k n pc L (v :: rest) := by
  obtain ⟨p, e, R, s, m, args, below, meth, c, nL, Q⟩ := x
  subst hq
  exact fun H locs ls hw hS hl => lv_dup C.1.1 C.1.2.1 hd hv (kk H locs ls hw hS hl)
theorem v_pop (C : CX g x cc own fr ce sl lc) (q : Nat) {v : Value} (hd : decode cc pc = .ok (.pop, 1)) (hq : pc + 1 = q) (hv : v.category = 1) (kk : VV g x M k n q L (rest)) : VV g x M k n pc L (v :: rest) := by
  obtain ⟨p, e, R, s, m, args, below, meth, c, nL, Q⟩ := x
  subst hq
  exact fun H locs ls hw hS hl => lv_pop C.1.1 C.1.2.1 hd hv (kk H locs ls hw hS hl)
theorem v_dup_x1 (C : CX g x cc own fr ce sl lc) (q : Nat) {v w : Value} (hd : decode cc pc = .ok (.dup_x1, 1)) (hq : pc + 1 = q) (hv : v.category = 1) (hv2 : w.category = 1) (kk : VV g x M k n q L (v :: w :: v :: rest)) : VV g x M k n pc L (v :: w :: rest) := by
  obtain ⟨p, e, R, s, m, args, below, meth, c, nL, Q⟩ := x
  subst hq
  exact fun H locs ls hw hS hl => lv_dup_x1 C.1.1 C.1.2.1 hd hv hv2 (kk H locs ls hw hS hl)
theorem v_null (C : CX g x cc own fr ce sl lc) (q : Nat) (hd : decode cc pc = .ok (.aconst_null, 1)) (hq : pc + 1 = q) (kk : VV g x M k n q L (.null :: rest)) : VV g x M k n pc L (rest) := by
  obtain ⟨p, e, R, s, m, args, below, meth, c, nL, Q⟩ := x
  subst hq
  exact fun H locs ls hw hS hl => lv_null C.1.1 C.1.2.1 hd (kk H locs ls hw hS hl)
theorem v_if_eq (C : CX g x cc own fr ce sl lc) (q t : Nat) {a : Int32} {off : Int} (hd : decode cc pc = .ok (.ifCond .eq off, 3)) (hq : pc + 3 = q) (ht : (pc : Int) + off = (t : Int)) (kt : a = 0 → VV g x M k n t L rest) (kf : ¬ a = 0 → VV g x M k n q L rest) : VV g x M k n pc L (.int a :: rest) := by
  obtain ⟨p, e, R, s, m, args, below, meth, c, nL, Q⟩ := x
  subst hq
  exact fun H locs ls hw hS hl => lv_if_eq C.1.1 C.1.2.1 hd ht (fun h => kt h H locs ls hw hS hl) (fun h => kf h H locs ls hw hS hl)
theorem v_icmp_eq (C : CX g x cc own fr ce sl lc) (q t : Nat) {a b : Int32} {off : Int} (hd : decode cc pc = .ok (.if_icmp .eq off, 3)) (hq : pc + 3 = q) (ht : (pc : Int) + off = (t : Int)) (kt : a = b → VV g x M k n t L rest) (kf : ¬ a = b → VV g x M k n q L rest) : VV g x M k n pc L (.int b :: .int a :: rest) := by
  obtain ⟨p, e, R, s, m, args, below, meth, c, nL, Q⟩ := x
  subst hq
  exact fun H locs ls hw hS hl => lv_icmp_eq C.1.1 C.1.2.1 hd ht (fun h => kt h H locs ls hw hS hl) (fun h => kf h H locs ls hw hS hl)
theorem v_if_ne (C : CX g x cc own fr ce sl lc) (q t : Nat) {a : Int32} {off : Int} (hd : decode cc pc = .ok (.ifCond .ne off, 3)) (hq : pc + 3 = q) (ht : (pc : Int) + off = (t : Int)) (kt : ¬ a = 0 → VV g x M k n t L rest) (kf : a = 0 → VV g x M k n q L rest) : VV g x M k n pc L (.int a :: rest) := by
  obtain ⟨p, e, R, s, m, args, below, meth, c, nL, Q⟩ := x
  subst hq
  exact fun H locs ls hw hS hl => lv_if_ne C.1.1 C.1.2.1 hd ht (fun h => kt h H locs ls hw hS hl) (fun h => kf h H locs ls hw hS hl)
theorem v_icmp_ne (C : CX g x cc own fr ce sl lc) (q t : Nat) {a b : Int32} {off : Int} (hd : decode cc pc = .ok (.if_icmp .ne off, 3)) (hq : pc + 3 = q) (ht : (pc : Int) + off = (t : Int)) (kt : ¬ a = b → VV g x M k n t L rest) (kf : a = b → VV g x M k n q L rest) : VV g x M k n pc L (.int b :: .int a :: rest) := by
  obtain ⟨p, e, R, s, m, args, below, meth, c, nL, Q⟩ := x
  subst hq
  exact fun H locs ls hw hS hl => lv_icmp_ne C.1.1 C.1.2.1 hd ht (fun h => kt h H locs ls hw hS hl) (fun h => kf h H locs ls hw hS hl)
theorem v_if_lt (C : CX g x cc own fr ce sl lc) (q t : Nat) {a : Int32} {off : Int} (hd : decode cc pc = .ok (.ifCond .lt off, 3)) (hq : pc + 3 = q) (ht : (pc : Int) + off = (t : Int)) (kt : a < 0 → VV g x M k n t L rest) (kf : ¬ a < 0 → VV g x M k n q L rest) : VV g x M k n pc L (.int a :: rest) := by
  obtain ⟨p, e, R, s, m, args, below, meth, c, nL, Q⟩ := x
  subst hq
  exact fun H locs ls hw hS hl => lv_if_lt C.1.1 C.1.2.1 hd ht (fun h => kt h H locs ls hw hS hl) (fun h => kf h H locs ls hw hS hl)
theorem v_icmp_lt (C : CX g x cc own fr ce sl lc) (q t : Nat) {a b : Int32} {off : Int} (hd : decode cc pc = .ok (.if_icmp .lt off, 3)) (hq : pc + 3 = q) (ht : (pc : Int) + off = (t : Int)) (kt : a < b → VV g x M k n t L rest) (kf : ¬ a < b → VV g x M k n q L rest) : VV g x M k n pc L (.int b :: .int a :: rest) := by
  obtain ⟨p, e, R, s, m, args, below, meth, c, nL, Q⟩ := x
  subst hq
  exact fun H locs ls hw hS hl => lv_icmp_lt C.1.1 C.1.2.1 hd ht (fun h => kt h H locs ls hw hS hl) (fun h => kf h H locs ls hw hS hl)
theorem v_if_ge (C : CX g x cc own fr ce sl lc) (q t : Nat) {a : Int32} {off : Int} (hd : decode cc pc = .ok (.ifCond .ge off, 3)) (hq : pc + 3 = q) (ht : (pc : Int) + off = (t : Int)) (kt : 0 ≤ a → VV g x M k n t L rest) (kf : ¬ 0 ≤ a → VV g x M k n q L rest) : VV g x M k n pc L (.int a :: rest) := by
  obtain ⟨p, e, R, s, m, args, below, meth, c, nL, Q⟩ := x
  subst hq
  exact fun H locs ls hw hS hl => lv_if_ge C.1.1 C.1.2.1 hd ht (fun h => kt h H locs ls hw hS hl) (fun h => kf h H locs ls hw hS hl)
theorem v_icmp_ge (C : CX g x cc own fr ce sl lc) (q t : Nat) {a b : Int32} {off : Int} (hd : decode cc pc = .ok (.if_icmp .ge off, 3)) (hq : pc + 3 = q) (ht : (pc : Int) + off = (t : Int)) (kt : b ≤ a → VV g x M k n t L rest) (kf : ¬ b ≤ a → VV g x M k n q L rest) : VV g x M k n pc L (.int b :: .int a :: rest) := by
  obtain ⟨p, e, R, s, m, args, below, meth, c, nL, Q⟩ := x
  subst hq
  exact fun H locs ls hw hS hl => lv_icmp_ge C.1.1 C.1.2.1 hd ht (fun h => kt h H locs ls hw hS hl) (fun h => kf h H locs ls hw hS hl)
theorem v_if_gt (C : CX g x cc own fr ce sl lc) (q t : Nat) {a : Int32} {off : Int} (hd : decode cc pc = .ok (.ifCond .gt off, 3)) (hq : pc + 3 = q) (ht : (pc : Int) + off = (t : Int)) (kt : 0 < a → VV g x M k n t L rest) (kf : ¬ 0 < a → VV g x M k n q L rest) : VV g x M k n pc L (.int a :: rest) := by
  obtain ⟨p, e, R, s, m, args, below, meth, c, nL, Q⟩ := x
  subst hq
  exact fun H locs ls hw hS hl => lv_if_gt C.1.1 C.1.2.1 hd ht (fun h => kt h H locs ls hw hS hl) (fun h => kf h H locs ls hw hS hl)
theorem v_icmp_gt (C : CX g x cc own fr ce sl lc) (q t : Nat) {a b : Int32} {off : Int} (hd : decode cc pc = .ok (.if_icmp .gt off, 3)) (hq : pc + 3 = q) (ht : (pc : Int) + off = (t : Int)) (kt : b < a → VV g x M k n t L rest) (kf : ¬ b < a → VV g x M k n q L rest) : VV g x M k n pc L (.int b :: .int a :: rest) := by
  obtain ⟨p, e, R, s, m, args, below, meth, c, nL, Q⟩ := x
  subst hq
  exact fun H locs ls hw hS hl => lv_icmp_gt C.1.1 C.1.2.1 hd ht (fun h => kt h H locs ls hw hS hl) (fun h => kf h H locs ls hw hS hl)
theorem v_if_le (C : CX g x cc own fr ce sl lc) (q t : Nat) {a : Int32} {off : Int} (hd : decode cc pc = .ok (.ifCond .le off, 3)) (hq : pc + 3 = q) (ht : (pc : Int) + off = (t : Int)) (kt : a ≤ 0 → VV g x M k n t L rest) (kf : ¬ a ≤ 0 → VV g x M k n q L rest) : VV g x M k n pc L (.int a :: rest) := by
  obtain ⟨p, e, R, s, m, args, below, meth, c, nL, Q⟩ := x
  subst hq
  exact fun H locs ls hw hS hl => lv_if_le C.1.1 C.1.2.1 hd ht (fun h => kt h H locs ls hw hS hl) (fun h => kf h H locs ls hw hS hl)
theorem v_icmp_le (C : CX g x cc own fr ce sl lc) (q t : Nat) {a b : Int32} {off : Int} (hd : decode cc pc = .ok (.if_icmp .le off, 3)) (hq : pc + 3 = q) (ht : (pc : Int) + off = (t : Int)) (kt : a ≤ b → VV g x M k n t L rest) (kf : ¬ a ≤ b → VV g x M k n q L rest) : VV g x M k n pc L (.int b :: .int a :: rest) := by
  obtain ⟨p, e, R, s, m, args, below, meth, c, nL, Q⟩ := x
  subst hq
  exact fun H locs ls hw hS hl => lv_icmp_le C.1.1 C.1.2.1 hd ht (fun h => kt h H locs ls hw hS hl) (fun h => kf h H locs ls hw hS hl)
theorem v_goto (C : CX g x cc own fr ce sl lc) (q : Nat) {off : Int} (hd : decode cc pc = .ok (.goto off, 3)) (hq : (pc : Int) + off = (q : Int)) (kk : VV g x M k n q L rest) : VV g x M k n pc L rest := by
  obtain ⟨p, e, R, s, m, args, below, meth, c, nL, Q⟩ := x
  exact fun H locs ls hw hS hl => lv_goto C.1.1 C.1.2.1 hd hq (kk H locs ls hw hS hl)
theorem v_ifnull (C : CX g x cc own fr ce sl lc) (q t : Nat) {off : Int} {r : Option Nat} (hd : decode cc pc = .ok (.ifnull off, 3)) (hq : pc + 3 = q) (ht : (pc : Int) + off = (t : Int)) (kt : r = none → VV g x M k n t L rest) (kf : ∀ a : Nat, r = some a → VV g x M k n q L rest) : VV g x M k n pc L (va_rf r :: rest) := by
  obtain ⟨p, e, R, s, m, args, below, meth, c, nL, Q⟩ := x
  subst hq
  cases r with
  | none => exact fun H locs ls hw hS hl => lv_ifnullN C.1.1 C.1.2.1 hd ht (kt rfl H locs ls hw hS hl)
  | some a => exact fun H locs ls hw hS hl => lv_ifnull C.1.1 C.1.2.1 hd (kf a rfl H locs ls hw hS hl)
theorem v_ifnonnull (C : CX g x cc own fr ce sl lc) (q t : Nat) {off : Int} {r : Option Nat} (hd : decode cc pc = .ok (.ifnonnull off, 3)) (hq : pc + 3 = q) (ht : (pc : Int) + off = (t : Int)) (kt : ∀ a : Nat, r = some a → VV g x M k n t L rest) (kf : r = none → VV g x M k n q L rest) : VV g x M k n pc L (va_rf r :: rest) := by
  obtain ⟨p, e, R, s, m, args, below, meth, c, nL, Q⟩ := x
  subst hq
  cases r with
  | none => exact fun H locs ls hw hS hl => lv_ifnonnullN C.1.1 C.1.2.1 hd (kf rfl H locs ls hw hS hl)
  | some a => exact fun H locs ls hw hS hl => lv_ifnonnull C.1.1 C.1.2.1 hd ht (kt a rfl H locs ls hw hS hl)
theorem v_top (v w : Value) (h : v = w) (kk : VV g x M k n pc L (w :: rest)) : VV g x M k n pc L (v :: rest) := h ▸ kk
theorem v_eqL (L2 : List (Option Value)) (h : L = L2) (kk : VV g x M k n pc L2 rest) : VV g x M k n pc L rest := h ▸ kk
theorem v_eqM (M2 : mp_M) (h : M = M2) (kk : VV g x M2 k n pc L rest) : VV g x M k n pc L rest := h ▸ kk
theorem v_widen {k2 n2 : Nat} (h1 : k ≤ k2) (h2 : n ≤ n2) (kk : VV g x M k2 n2 pc L rest) : VV g x M k n pc L rest := by
  obtain ⟨p, e, R, s, m, args, below, meth, c, nL, Q⟩ := x
  exact fun H locs ls hw hS hl => W.widen h1 h2 (kk H locs ls hw hS hl)
theorem v_sub (M2 : mp_M) (h : ∀ (q : Nat) (e : va_E), M2 q = some e → M q = some e) (kk : VV g x M2 k n pc L rest) : VV g x M k n pc L rest := by
  obtain ⟨p, e, R, s, m, args, below, meth, c, nL, Q⟩ := x
  exact fun H locs ls hw hS hl => kk H locs ls ⟨hw.1, hw.2.choose, hw.2.choose_spec.1, hw.2.choose_spec.2.1, fun q e hq => hw.2.choose_spec.2.2 q e (h q e hq)⟩ hS hl
end VROWS
section VHEAP
variable {g : gx_T} {x : cx_T} {cc : ByteArray} {own : String} {fr ce sl lc : Nat} {M : mp_M} {k n pc : Nat} {L : List (Option Value)} {rest : List Value}
def fl_ok (ref : String) (t : String × String × String × Bool) : Prop := ref = t.1 ∨ Cond.sameField ref t.1 t.2.1 t.2.2.1 ∈ AL
theorem fl_use {ref : String} {t : String × String × String × Bool} {args : Array Value} {s : State} (h : fl_ok ref t) (hts : ∀ w ∈ AL, w.before args s = true) : ∀ y, s.fieldFound? t.1 t.2.1 t.2.2.1 = some y → s.fieldFound? ref t.2.1 t.2.2.1 = some y := by
  rcases h with h | h
  · subst h
    exact fun _ h9 => h9
  · exact fun y h9 => u_same (hts _ h) y h9
theorem v_get (C : CX g x cc own fr ce sl lc) (q : Nat) {ref Cn : String} {T : u_T} {N ci idx a : Nat} {fs : List Value} {v : Value} (hin : ∀ w ∈ u_ws Cn T N, w ∈ AL) (hc : vwCl[ci]? = some (Cn, T, N)) (j : Nat) (hj : j < N) (hlk : Cond.fieldLink own idx ref (T j).2.1 (T j).2.2.1 ∈ AL) (hs : fl_ok ref (T j)) (hd : decode cc pc = .ok (.getfield idx, 3)) (hq : pc + 3 = q) (hM : M a = some (.inr (ci, fs))) (hv : fs[j]? = some v) (kk : VV g x M k n q L (v :: rest)) : VV g x M k n pc L (.ref a :: rest) := by
  obtain ⟨p, e, R, s, m, args, below, meth, c, nL, Q⟩ := x
  subst hq
  obtain ⟨⟨hx, hb, hml, hown, hts⟩, hK, -, -⟩ := C
  intro H locs ls hw hS hl
  obtain ⟨-, ws, hP, hD, hm⟩ := id hw
  obtain ⟨q0, hq0⟩ := hm _ _ hM
  exact va_get hx hb hts hin hown hK.1 hP q0 hq0 hc j hj (hts _ hlk) (fl_use hs hts) hv hd (kk H locs ls hw hS hl)
theorem v_put (C : CX g x cc own fr ce sl lc) (q : Nat) {ref Cn : String} {T : u_T} {N ci idx a : Nat} {fs : List Value} {v : Value} (hin : ∀ w ∈ u_ws Cn T N, w ∈ AL) (ty0 : Nat → FieldType) (hty : ∀ k, k < N → parseFieldDescriptor (T k).2.2.1 = some (ty0 k)) (hnm : ∀ a, a < N → ∀ b, b < N → a ≠ b → (T a).2.1 ≠ (T b).2.1) (hc : vwCl[ci]? = some (Cn, T, N)) (j : Nat) (hj : j < N) (hlk : Cond.fieldLink own idx ref (T j).2.1 (T j).2.2.1 ∈ AL) (hs : fl_ok ref (T j)) (hfin : (T j).2.2.2 = false) {ty : FieldType} (hdz : parseFieldDescriptor (T j).2.2.1 = some ty) (hd : decode cc pc = .ok (.putfield idx, 3)) (hq : pc + 3 = q) (hn : narrow ty v = v) (hfit : fits ty v = true) (hM : M a = some (.inr (ci, fs))) (hl2 : j < fs.length) (fs2 : List Value) (hfs : fs.set j v = fs2) (kk : VV g x (mp_u M a (.inr (ci, fs2))) k n q L rest) : VV g x M k n pc L (v :: .ref a :: rest) := by
  obtain ⟨p, e, R, s, m, args, below, meth, c, nL, Q⟩ := x
  subst hq
  subst hfs
  obtain ⟨⟨hx, hb, hml, hown, hts⟩, hK, -, hz⟩ := C
  intro H locs ls hw hS hl
  obtain ⟨-, ws, hP, hD, hm⟩ := id hw
  obtain ⟨q0, hq0⟩ := hm _ _ hM
  exact va_put hx hb hts hin ty0 hty hnm hown hK.1 hP hD hS q0 hq0 hc j hj (hts _ hlk) (fl_use hs hts) hfin hdz hn hfit hl2 hd (fun H1 locs1 hP1 hD1 hS1 => kk H1 locs1 ls ⟨Nat.le_trans hz hS1.1, _, hP1, hD1, mp_set hD hm hq0⟩ hS1 hl)
theorem v_putF (C : CX g x cc own fr ce sl lc) (I : IX x) (q : Nat) {ref Cn : String} {T : u_T} {N ci idx a : Nat} {fs : List Value} {v : Value} (hin : ∀ w ∈ u_ws Cn T N, w ∈ AL) (ty0 : Nat → FieldType) (hty : ∀ k, k < N → parseFieldDescriptor (T k).2.2.1 = some (ty0 k)) (hnm : ∀ a, a < N → ∀ b, b < N → a ≠ b → (T a).2.1 ≠ (T b).2.1) (hc : vwCl[ci]? = some (Cn, T, N)) (j : Nat) (hj : j < N) (hlk : Cond.fieldLink own idx ref (T j).2.1 (T j).2.2.1 ∈ AL) (hs : fl_ok ref (T j)) (hfin : (T j).2.2.2 = true) (hdecl : (T j).1 = own) {ty : FieldType} (hdz : parseFieldDescriptor (T j).2.2.1 = some ty) (hd : decode cc pc = .ok (.putfield idx, 3)) (hq : pc + 3 = q) (hn : narrow ty v = v) (hfit : fits ty v = true) (hM : M a = some (.inr (ci, fs))) (hl2 : j < fs.length) (fs2 : List Value) (hfs : fs.set j v = fs2) (kk : VV g x (mp_u M a (.inr (ci, fs2))) k n q L rest) : VV g x M k n pc L (v :: .ref a :: rest) := by
  obtain ⟨p, e, R, s, m, args, below, meth, c, nL, Q⟩ := x
  subst hq
  subst hfs
  obtain ⟨⟨hx, hb, hml, hown, hts⟩, hK, -, hz⟩ := C
  intro H locs ls hw hS hl
  obtain ⟨-, ws, hP, hD, hm⟩ := id hw
  obtain ⟨q0, hq0⟩ := hm _ _ hM
  exact va_putF hx hb hts hin ty0 hty hnm hown hK.1 hP hD hS q0 hq0 hc j hj (hts _ hlk) (fl_use hs hts) hfin I hdecl hdz hn hfit hl2 hd (fun H1 locs1 hP1 hD1 hS1 => kk H1 locs1 ls ⟨Nat.le_trans hz hS1.1, _, hP1, hD1, mp_set hD hm hq0⟩ hS1 hl)
theorem v_new (C : CX g x cc own fr ce sl lc) (q : Nat) {Cn : String} {T : u_T} {N ci idx : Nat} (hin : ∀ w ∈ u_ws Cn T N, w ∈ AL) (ty0 : Nat → FieldType) (hty : ∀ k, k < N → parseFieldDescriptor (T k).2.2.1 = some (ty0 k)) (hc : vwCl[ci]? = some (Cn, T, N)) (hlk : Cond.classLink own idx Cn ∈ AL) (hin2 : Cond.instantiable Cn N ∈ AL) (hini : Cond.initialized Cn ∈ AL) {fs : List Value} (hfs : ∀ j, j < N → defaultValue (ty0 j) = vp_V fs j) (hd : decode cc pc = .ok (.new idx, 3)) (hq : pc + 3 = q) (hcells : k + 1 ≤ ce) (hslots : n + N ≤ sl) (kk : ∀ a : Nat, M a = none → VV g x (mp_u M a (.inr (ci, fs))) (k + 1) (n + N) q L (.ref a :: rest)) : VV g x M k n pc L rest := by
  obtain ⟨p, e, R, s, m, args, below, meth, c, nL, Q⟩ := x
  subst hq
  obtain ⟨⟨hx, hb, hml, hown, hts⟩, hK, hR, hz⟩ := C
  subst hR
  intro H locs ls hw hS hl
  obtain ⟨-, ws, hP, hD, hm⟩ := id hw
  refine va_new hx hb hts hin ty0 hty hown (hts _ hlk) (hts _ hin2) (hts _ hini) hK.1 hP hD hS (fun q h => Nat.le_trans hz h) hc hfs hcells hslots hd (fun a H1 hP1 hD1 hS1 => ?_)
  obtain ⟨h1, h2⟩ := mp_push hD1 hm
  exact kk a h1 H1 locs ls ⟨Nat.le_trans hz hS1.1, _, hP1, hD1, h2⟩ hS1 hl
theorem v_alen (C : CX g x cc own fr ce sl lc) (q : Nat) (t0 : Nat) {a N : Nat} {cA : ClassId} {y : (Nat → Int32) ⊕ (Nat → Int64) ⊕ (Nat → UInt32) ⊕ (Nat → UInt64) ⊕ (Nat → Option Nat)} {ty : FieldType} (ht : (gx_t g)[t0]? = some (cA, ty)) (hd : decode cc pc = .ok (.arraylength, 1)) (hq : pc + 1 = q) (hM : M a = some (.inl (cA, N, y))) (kk : VV g x M k n q L (.int (nI N) :: rest)) : VV g x M k n pc L (.ref a :: rest) := by
  obtain ⟨p, e, R, s, m, args, below, meth, c, nL, Q⟩ := x
  subst hq
  obtain ⟨⟨hx, hb, hml, hown, hts⟩, hK, -, hz⟩ := C
  intro H locs ls hw hS hl
  obtain ⟨-, ws, hP, hD, hm⟩ := id hw
  obtain ⟨q0, hq0⟩ := hm _ _ hM
  exact va_alen hx hb hK.1 hP q0 t0 hq0 ht rfl hd (kk H locs ls hw hS hl)
theorem v_aald (C : CX g x cc own fr ce sl lc) (q : Nat) (t0 : Nat) {a N : Nat} {cA : ClassId} {Cn : String} {f : Nat → Option Nat} {i : Int32} (ht : (gx_t g)[t0]? = some (cA, .object Cn)) (hd : decode cc pc = .ok (.aaload, 1)) (hq : pc + 1 = q) (hM : M a = some (.inl (cA, N, .inr (.inr (.inr (.inr f)))))) (j : Nat) (hi : i = nI j) (hj : j < N) (hN : N < 2 ^ 31) (kk : VV g x M k n q L (va_rf (f j) :: rest)) : VV g x M k n pc L (.int i :: .ref a :: rest) := by
  obtain ⟨p, e, R, s, m, args, below, meth, c, nL, Q⟩ := x
  subst hq
  subst hi
  obtain ⟨⟨hx, hb, hml, hown, hts⟩, hK, -, hz⟩ := C
  intro H locs ls hw hS hl
  obtain ⟨-, ws, hP, hD, hm⟩ := id hw
  obtain ⟨q0, hq0⟩ := hm _ _ hM
  refine va_aldq hx hb hK.1 hP q0 t0 hq0 ht (vp_in_nI hj hN) hd ?_
  rw [nI_clamp (Nat.lt_trans hj hN)]
  exact kk H locs ls hw hS hl
theorem v_iald (C : CX g x cc own fr ce sl lc) (q : Nat) {a N : Nat} {f : Nat → Int32} {i : Int32} (hd : decode cc pc = .ok (.iaload, 1)) (hq : pc + 1 = q) (hM : M a = some (.inl (gx_I g, N, .inl f))) (j : Nat) (hi : i = nI j) (hj : j < N) (hN : N < 2 ^ 31) (kk : VV g x M k n q L (.int (f j) :: rest)) : VV g x M k n pc L (.int i :: .ref a :: rest) := by
  obtain ⟨p, e, R, s, m, args, below, meth, c, nL, Q⟩ := x
  subst hq
  subst hi
  obtain ⟨⟨hx, hb, hml, hown, hts⟩, hK, -, hz⟩ := C
  intro H locs ls hw hS hl
  obtain ⟨-, ws, hP, hD, hm⟩ := id hw
  obtain ⟨q0, hq0⟩ := hm _ _ hM
  refine va_iald hx hb hK.1 hP q0 2 hq0 rfl (vp_in_nI hj hN) hd ?_
  rw [nI_clamp (Nat.lt_trans hj hN)]
  exact kk H locs ls hw hS hl
theorem v_iast (C : CX g x cc own fr ce sl lc) (q : Nat) {a N : Nat} {f : Nat → Int32} {i v : Int32} (hd : decode cc pc = .ok (.iastore, 1)) (hq : pc + 1 = q) (hM : M a = some (.inl (gx_I g, N, .inl f))) (j : Nat) (hi : i = nI j) (hj : j < N) (hN : N < 2 ^ 31) (kk : VV g x (mp_u M a (.inl (gx_I g, N, .inl (upd f j v)))) k n q L rest) : VV g x M k n pc L (.int v :: .int i :: .ref a :: rest) := by
  obtain ⟨p, e, R, s, m, args, below, meth, c, nL, Q⟩ := x
  subst hq
  subst hi
  obtain ⟨⟨hx, hb, hml, hown, hts⟩, hK, -, hz⟩ := C
  intro H locs ls hw hS hl
  obtain ⟨-, ws, hP, hD, hm⟩ := id hw
  obtain ⟨q0, hq0⟩ := hm _ _ hM
  refine va_iast hx hb hK.1 hP hD hS q0 2 hq0 rfl (vp_in_nI hj hN) hd (fun H1 locs1 hP1 hD1 hS1 => ?_)
  rw [nI_clamp (Nat.lt_trans hj hN)] at hP1 hD1
  exact kk H1 locs1 ls ⟨Nat.le_trans hz hS1.1, _, hP1, hD1, mp_set hD hm hq0⟩ hS1 hl
theorem v_aastN (C : CX g x cc own fr ce sl lc) (q : Nat) (t0 : Nat) {a N : Nat} {cA : ClassId} {Cn : String} {f : Nat → Option Nat} {i : Int32} (ht : (gx_t g)[t0]? = some (cA, .object Cn)) (hd : decode cc pc = .ok (.aastore, 1)) (hq : pc + 1 = q) (hM : M a = some (.inl (cA, N, .inr (.inr (.inr (.inr f)))))) (j : Nat) (hi : i = nI j) (hj : j < N) (hN : N < 2 ^ 31) (kk : VV g x (mp_u M a (.inl (cA, N, .inr (.inr (.inr (.inr (va_up f j none))))))) k n q L rest) : VV g x M k n pc L (.null :: .int i :: .ref a :: rest) := by
  obtain ⟨p, e, R, s, m, args, below, meth, c, nL, Q⟩ := x
  subst hq
  subst hi
  obtain ⟨⟨hx, hb, hml, hown, hts⟩, hK, -, hz⟩ := C
  intro H locs ls hw hS hl
  obtain ⟨-, ws, hP, hD, hm⟩ := id hw
  obtain ⟨q0, hq0⟩ := hm _ _ hM
  refine va_astqN hx hb hK.1 hP hD hS q0 t0 hq0 ht (vp_in_nI hj hN) hd (fun H1 locs1 hP1 hD1 hS1 => ?_)
  rw [nI_clamp (Nat.lt_trans hj hN)] at hP1 hD1
  exact kk H1 locs1 ls ⟨Nat.le_trans hz hS1.1, _, hP1, hD1, mp_set hD hm hq0⟩ hS1 hl
theorem v_aast (C : CX g x cc own fr ce sl lc) (q : Nat) (t0 ci : Nat) {a b N : Nat} {cA : ClassId} {r : vw_C} {vs : List Value} {f : Nat → Option Nat} {i : Int32} (ht : (gx_t g)[t0]? = some (cA, .object r.1)) (hc : vwCl[ci]? = some r) (hd : decode cc pc = .ok (.aastore, 1)) (hq : pc + 1 = q) (hM : M a = some (.inl (cA, N, .inr (.inr (.inr (.inr f)))))) (hb2 : M b = some (.inr (ci, vs))) (j : Nat) (hi : i = nI j) (hj : j < N) (hN : N < 2 ^ 31) (kk : VV g x (mp_u M a (.inl (cA, N, .inr (.inr (.inr (.inr (va_up f j (some b)))))))) k n q L rest) : VV g x M k n pc L (.ref b :: .int i :: .ref a :: rest) := by
  obtain ⟨p, e, R, s, m, args, below, meth, c, nL, Q⟩ := x
  subst hq
  subst hi
  obtain ⟨⟨hx, hb, hml, hown, hts⟩, hK, -, hz⟩ := C
  intro H locs ls hw hS hl
  obtain ⟨-, ws, hP, hD, hm⟩ := id hw
  obtain ⟨q0, hq0⟩ := hm _ _ hM
  obtain ⟨q1, hq1⟩ := hm _ _ hb2
  refine va_astq hx hb hK.1 hP hD hS q0 t0 q1 ci hq0 ht hq1 hc (vp_in_nI hj hN) hd (fun H1 locs1 hP1 hD1 hS1 => ?_)
  rw [nI_clamp (Nat.lt_trans hj hN)] at hP1 hD1
  exact kk H1 locs1 ls ⟨Nat.le_trans hz hS1.1, _, hP1, hD1, mp_set hD hm hq0⟩ hS1 hl
theorem v_newi (C : CX g x cc own fr ce sl lc) (q : Nat) {i : Int32} (harr : Cond.arrayClass .int ∈ AL) (hd : decode cc pc = .ok (.newarray .int, 2)) (hq : pc + 2 = q) (N : Nat) (hi : i = nI N) (hN : N < 100000) (hcells : k + 1 ≤ ce) (hslots : n + N ≤ sl) (kk : ∀ a : Nat, M a = none → VV g x (mp_u M a (.inl (gx_I g, N, .inl (fun _ => 0)))) (k + 1) (n + N) q L (.ref a :: rest)) : VV g x M k n pc L (.int i :: rest) := by
  obtain ⟨p, e, R, s, m, args, below, meth, c, nL, Q⟩ := x
  subst hq
  subst hi
  obtain ⟨⟨hx, hb, hml, hown, hts⟩, hK, hR, hz⟩ := C
  subst hR
  intro H locs ls hw hS hl
  obtain ⟨-, ws, hP, hD, hm⟩ := id hw
  refine va_newa (atype := .int) (a0 := (N, .inl (fun _ => 0))) hx hb (hts _ harr) (ty := .int) rfl hK.1 hP hD hS (fun q h => Nat.le_trans hz h) (fun cA => rfl) (nI_pos (by omega)) (nI_clamp (by omega)) (by show N * 4 ≤ _; omega) hcells hslots hd (fun a cB H1 hK1 hP1 hD1 hS1 => ?_)
  have hcA : cB = gx_I g := by
    have g1 := (hK1.2 (gx_t g).length (cB, .int) (by rw [List.getElem?_append_right (Nat.le_refl _), Nat.sub_self]; rfl)).2
    have g2 := (hK.1.2 2 _ rfl).2
    exact Option.some.inj (g1.symm.trans g2)
  subst hcA
  obtain ⟨h1, h2⟩ := mp_push hD1 hm
  exact kk a h1 H1 locs ls ⟨Nat.le_trans hz hS1.1, _, hP1, hD1, h2⟩ hS1 hl
theorem v_newq (C : CX g x cc own fr ce sl lc) (q : Nat) (t0 : Nat) {i : Int32} {cA : ClassId} {Cn : String} {idx : Nat} (ht : (gx_t g)[t0]? = some (cA, .object Cn)) (hao : ∀ s, mp_K g s → va_AO Cn s) (hlk : Cond.classLink own idx Cn ∈ AL) (hd : decode cc pc = .ok (.anewarray idx, 3)) (hq : pc + 3 = q) (N : Nat) (hi : i = nI N) (hN : N < 100000) (hcells : k + 1 ≤ ce) (hslots : n + N ≤ sl) (kk : ∀ a : Nat, M a = none → VV g x (mp_u M a (.inl (cA, N, .inr (.inr (.inr (.inr (fun _ => none))))))) (k + 1) (n + N) q L (.ref a :: rest)) : VV g x M k n pc L (.int i :: rest) := by
  obtain ⟨p, e, R, s, m, args, below, meth, c, nL, Q⟩ := x
  subst hq
  subst hi
  obtain ⟨⟨hx, hb, hml, hown, hts⟩, hK, hR, hz⟩ := C
  subst hR
  intro H locs ls hw hS hl
  obtain ⟨-, ws, hP, hD, hm⟩ := id hw
  refine va_newq hx hb hown (hts _ hlk) (hao s hK) hK.1 hP hD hS (fun q h => Nat.le_trans hz h) (nI_pos (by omega)) (nI_clamp (by omega)) (by omega) hcells hslots hd (fun a cB H1 hK1 hP1 hD1 hS1 => ?_)
  have hcA : cB = cA := by
    have g1 := (hK1.2 (gx_t g).length (cB, .object Cn) (by rw [List.getElem?_append_right (Nat.le_refl _), Nat.sub_self]; rfl)).2
    have g2 := (hK.1.2 t0 _ ht).2
    obtain ⟨_, _, _, _, _, e1⟩ := g1
    obtain ⟨_, _, _, _, _, e2⟩ := g2
    exact Option.some.inj (e1.symm.trans e2)
  subst hcA
  obtain ⟨h1, h2⟩ := mp_push hD1 hm
  exact kk a h1 H1 locs ls ⟨Nat.le_trans hz hS1.1, _, hP1, hD1, h2⟩ hS1 hl
theorem v_tableOut (C : CX g x cc own fr ce sl lc) (t : Nat) {dflt lo hi : Int} {offs : Array Int} {len : Nat} {v : Int32} (hd : decode cc pc = .ok (.tableswitch dflt lo hi offs, len)) (h : v.toInt < lo ∨ hi < v.toInt) (ht : (pc : Int) + dflt = (t : Int)) (kk : VV g x M k n t L rest) : VV g x M k n pc L (.int v :: rest) := by
  obtain ⟨p, e, R, s, m, args, below, meth, c, nL, Q⟩ := x
  exact fun H locs ls hw hS hl => lv_tableOut C.1.1 C.1.2.1 hd h ht (kk H locs ls hw hS hl)
theorem v_tableIn (C : CX g x cc own fr ce sl lc) (t : Nat) {dflt lo hi : Int} {offs : Array Int} {len : Nat} {v : Int32} {off : Int} (hd : decode cc pc = .ok (.tableswitch dflt lo hi offs, len)) (h1 : ¬ v.toInt < lo) (h2 : ¬ hi < v.toInt) (ho : offs[(v.toInt - lo).toNat]? = some off) (ht : (pc : Int) + off = (t : Int)) (kk : VV g x M k n t L rest) : VV g x M k n pc L (.int v :: rest) := by
  obtain ⟨p, e, R, s, m, args, below, meth, c, nL, Q⟩ := x
  exact fun H locs ls hw hS hl => lv_tableIn C.1.1 C.1.2.1 hd h1 h2 ho ht (kk H locs ls hw hS hl)
theorem v_ldc (C : CX g x cc own fr ce sl lc) (q : Nat) {idx : Nat} {v : Int32} (hc : Cond.constant own idx v ∈ AL) (hd : decode cc pc = .ok (.ldc idx, 2)) (hq : pc + 2 = q) (kk : VV g x M k n q L (.int v :: rest)) : VV g x M k n pc L rest := by
  obtain ⟨p, e, R, s, m, args, below, meth, c, nL, Q⟩ := x
  subst hq
  exact fun H locs ls hw hS hl => lv_ldc C.1.1 C.1.2.1 C.1.2.2.2.1 (C.1.2.2.2.2 _ hc) hd (kk H locs ls hw hS hl)
theorem v_objInit (C : CX g x cc own fr ce sl lc) (q : Nat) {idx a : Nat} (hlk : Cond.methodLink own idx Lib.objectInit ∈ AL) (hin : Cond.instanceMethod Lib.objectInit ∈ AL) (hco : Cond.code Lib.objectInit ⟨#[0xb1]⟩ 1 none ∈ AL) (hd : decode cc pc = .ok (.invokespecial idx, 3)) (hq : pc + 3 = q) (hfr : 1 ≤ fr) (hlo : (rest.map fun v => v.category).sum + 12 ≤ lc) (kk : VV g x M k n q L rest) : VV g x M k n pc L (.ref a :: rest) := by
  obtain ⟨p, e, R, s, m, args, below, meth, c, nL, Q⟩ := x
  subst hq
  obtain ⟨⟨hx, hb, hml, hown, hts⟩, hK, hR, hz⟩ := C
  subst hR
  intro H locs ls hw hS hl
  refine W.objInit hx hb hown (hts _ hlk) (hts _ hin) (hts _ hco) rfl (by rw [hml]; exact hl.1.1) rfl hd hfr (by show 2 * 0 + _ + 12 ≤ lc; omega) ?_
  exact kk H locs ls hw hS hl
theorem v_max (C : CX g x cc own fr ce sl lc) (q : Nat) {idx : Nat} {a b : Int32} (hlk : Cond.methodLink own idx Lib.Math.max.name ∈ AL) (hst : Cond.static Lib.Math.max.name ∈ AL) (hini : Cond.initialized "java/lang/Math" ∈ AL) (hco : Cond.code Lib.Math.max.name Lib.Math.max.code 2 (some .int) ∈ AL) (hd : decode cc pc = .ok (.invokestatic idx, 3)) (hq : pc + 3 = q) (hfr : 1 ≤ fr) (hlo : (rest.map fun v => v.category).sum + 13 ≤ lc) (hk : k ≤ ce) (hn : n ≤ sl) (kk : VV g x M k n q L (.int (if a < b then b else a) :: rest)) : VV g x M k n pc L (.int b :: .int a :: rest) := by
  obtain ⟨p, e, R, s, m, args, below, meth, c, nL, Q⟩ := x
  subst hq
  obtain ⟨⟨hx, hb, hml, hown, hts⟩, hK, hR, hz⟩ := C
  subst hR
  intro H locs ls hw hS hl
  exact va_mmax hx hb (by rw [hml]; exact hl.1.1.symm) hown (hts _ hlk) (hts _ hst) (hts _ hini) (hts _ hco) hfr hlo hk hn hd (kk H locs ls hw hS hl)
theorem v_min (C : CX g x cc own fr ce sl lc) (q : Nat) {idx : Nat} {a b : Int32} (hlk : Cond.methodLink own idx Lib.Math.min.name ∈ AL) (hst : Cond.static Lib.Math.min.name ∈ AL) (hini : Cond.initialized "java/lang/Math" ∈ AL) (hco : Cond.code Lib.Math.min.name Lib.Math.min.code 2 (some .int) ∈ AL) (hd : decode cc pc = .ok (.invokestatic idx, 3)) (hq : pc + 3 = q) (hfr : 1 ≤ fr) (hlo : (rest.map fun v => v.category).sum + 13 ≤ lc) (hk : k ≤ ce) (hn : n ≤ sl) (kk : VV g x M k n q L (.int (if b < a then b else a) :: rest)) : VV g x M k n pc L (.int b :: .int a :: rest) := by
  obtain ⟨p, e, R, s, m, args, below, meth, c, nL, Q⟩ := x
  subst hq
  obtain ⟨⟨hx, hb, hml, hown, hts⟩, hK, hR, hz⟩ := C
  subst hR
  intro H locs ls hw hS hl
  exact va_mmin hx hb (by rw [hml]; exact hl.1.1.symm) hown (hts _ hlk) (hts _ hst) (hts _ hini) (hts _ hco) hfr hlo hk hn hd (kk H locs ls hw hS hl)
theorem v_cast (C : CX g x cc own fr ce sl lc) (q : Nat) {Cn nm : String} {T : u_T} {N ci idx a : Nat} {fs : List Value} (hcl : vwCl[ci]? = some (Cn, T, N)) (hlk : Cond.classLink own idx nm ∈ AL) (hca : ∀ s, mp_K g s → va_Nw (.castable Cn nm) s) (hd : decode cc pc = .ok (.checkcast idx, 3)) (hq : pc + 3 = q) (hM : M a = some (.inr (ci, fs))) (kk : VV g x M k n q L (.ref a :: rest)) : VV g x M k n pc L (.ref a :: rest) := by
  obtain ⟨p, e, R, s, m, args, below, meth, c, nL, Q⟩ := x
  subst hq
  obtain ⟨⟨hx, hb, hml, hown, hts⟩, hK, -, -⟩ := C
  intro H locs ls hw hS hl
  obtain ⟨-, ws, hP, hD, hm⟩ := id hw
  obtain ⟨q0, hq0⟩ := hm _ _ hM
  exact va_castY hx hb hown (hts _ hlk) (hca s hK) (va_recv hK.1 hP hcl hq0) hd (kk H locs ls hw hS hl)
end VHEAP
def pv (F : mp_M → Prop) : Option Value → mp_M → Prop := fun v M' => v = none ∧ F M'
def pi_ (F : Int32 → mp_M → Prop) : Option Value → mp_M → Prop := fun v M' => ∃ r : Int32, v = some (.int r) ∧ F r M'
def pq (F : Option Nat → mp_M → Prop) : Option Value → mp_M → Prop := fun v M' => ∃ r : Option Nat, v = some (va_rf r) ∧ F r M'
abbrev rm_ (lv mc ms : Nat) : Room := { frames := lv, cells := mc, slots := ms, locals := 40 * lv }
def Ct (g : gx_T) (y : MethodName) (cc : ByteArray) (nL : Nat) (ret : Option FieldType) (lv : Nat) (As : List Value) (M : mp_M) (Po : Option Value → mp_M → Prop) (mc ms : Nat) : Prop :=
  Met (gx_l g) y (.code y cc nL ret :: AL) (rm_ lv mc ms) (va_Pc As (fun U => mp_H g M U.heap ∧ mp_K g U)) (mp_Q g Po) mc ms (fun q => gx_z g ≤ q)
theorem ct_intro {g : gx_T} {y : MethodName} {cc : ByteArray} {nL : Nat} {ret : Option FieldType} {lv : Nat} {As : List Value} {M : mp_M} {Po : Option Value → mp_M → Prop} {mc ms : Nat} {L0 : List (Option Value)} (hy : plainName y.cls = true) (hn : As.length ≤ nL) (hA : (As.all fun v => v.category == 1) = true) (hL : As.map some ++ List.replicate (nL - As.length) none = L0)
    (body : ∀ x : cx_T, CX g x cc y.cls lv mc ms (40 * lv) → RX g x ret Po mc ms → (y.name = "<init>" → IX x) → VV g x M 0 0 0 L0 []) : Ct g y cc nL ret lv As M Po mc ms := by
  subst hL
  refine Met.ofW (cc := cc) (maxL := nL) (ret := ret) hy rfl ?_
  intro p e s m args below meth c s₁ B hml hv
  obtain ⟨rfl, hH, hK⟩ := hv
  have hts := atoms_spec (ws := .code y cc nL ret :: AL) B.pre
  have hown : s.vm.findClass y.cls = some m.cls := findClass_of_methodNamed B.named
  have hA2 : ∀ v, v ∈ As → v.category = 1 := fun v hv => by simpa using List.all_eq_true.mp hA v hv
  rw [lg_entry_eq]
  exact body (p, e, rm_ lv mc ms, s, m, As.toArray, below, meth, c, nL, MQ below (mp_Q g Po) As.toArray s mc ms (fun q => gx_z g ≤ q)) ⟨⟨B.exec, B.bytes, hml, hown, fun w hw => hts w (List.mem_cons_of_mem _ hw)⟩, hK, rfl, hH.1⟩ ⟨B.returns, B.notSynchronized, rfl⟩ (fun hi => (name_of_methodNamed B.named B.method).1.trans hi) s.heap [] _ hH va_S.rf (lx_entry As hn hA2)
section VRET
variable {g : gx_T} {x : cx_T} {cc : ByteArray} {own : String} {fr ce sl lc : Nat} {M : mp_M} {k n pc : Nat} {L : List (Option Value)} {Po : Option Value → mp_M → Prop} {mc ms : Nat}
theorem v_iret (C : CX g x cc own fr ce sl lc) (E : RX g x (some .int) Po mc ms) {v : Int32} (hd : decode cc pc = .ok (.ireturn, 1)) (hk : k ≤ mc) (hn : n ≤ ms) (hp : Po (some (.int v)) M) : VV g x M k n pc L [.int v] := by
  obtain ⟨p, e, R, s, m, args, below, meth, c, nL, Q⟩ := x
  obtain ⟨hr, hlk, hQ⟩ := E
  subst hQ
  exact fun H locs ls hw hS hl => W.widen hk hn (W.iret C.1.1 C.1.2.1 hr (fun t ht hW => ⟨⟨_, M, rfl, hp, by rw [ht]; exact hw⟩, hS.F ht⟩) hS.2.2 hd hlk)
theorem v_zret (C : CX g x cc own fr ce sl lc) (E : RX g x (some .boolean) Po mc ms) {v : Int32} (hd : decode cc pc = .ok (.ireturn, 1)) (hk : k ≤ mc) (hn : n ≤ ms) (hz : v = 0 ∨ v = 1) (hp : Po (some (.int v)) M) : VV g x M k n pc L [.int v] := by
  obtain ⟨p, e, R, s, m, args, below, meth, c, nL, Q⟩ := x
  obtain ⟨hr, hlk, hQ⟩ := E
  subst hQ
  exact fun H locs ls hw hS hl => W.widen hk hn (W.zret C.1.1 C.1.2.1 hr (by rcases hz with rfl | rfl <;> decide) (fun t ht hW => ⟨⟨_, M, rfl, hp, by rw [ht]; exact hw⟩, hS.F ht⟩) hS.2.2 hd hlk)
theorem v_vret (C : CX g x cc own fr ce sl lc) (E : RX g x none Po mc ms) (hd : decode cc pc = .ok (.return_, 1)) (hk : k ≤ mc) (hn : n ≤ ms) (hp : Po none M) : VV g x M k n pc L [] := by
  obtain ⟨p, e, R, s, m, args, below, meth, c, nL, Q⟩ := x
  obtain ⟨hr, hlk, hQ⟩ := E
  subst hQ
  exact fun H locs ls hw hS hl => W.widen hk hn (W.vret C.1.1 C.1.2.1 hr (fun t ht hW => ⟨⟨_, M, rfl, hp, by rw [ht]; exact hw⟩, hS.F ht⟩) hS.2.2 hd hlk)
theorem v_aret {rt : FieldType} (C : CX g x cc own fr ce sl lc) (E : RX g x (some rt) Po mc ms) {r : Option Nat} (hrt : (∃ n, rt = .object n) ∨ ∃ t, rt = .array t) (hd : decode cc pc = .ok (.areturn, 1)) (hk : k ≤ mc) (hn : n ≤ ms) (hp : Po (some (va_rf r)) M) : VV g x M k n pc L [va_rf r] := by
  obtain ⟨p, e, R, s, m, args, below, meth, c, nL, Q⟩ := x
  obtain ⟨hr, hlk, hQ⟩ := E
  subst hQ
  exact fun H locs ls hw hS hl => W.widen hk hn (W.aret C.1.1 C.1.2.1 hr hrt (va_rf_or r) (fun t ht hW => ⟨⟨_, M, rfl, hp, by rw [ht]; exact hw⟩, hS.F ht⟩) hS.2.2 hd hlk)
end VRET
def RN (g : gx_T) (x : cx_T) (M : mp_M) (k n pc : Nat) (L : List (Option Value)) (st0 rest : List Value) (Po : Option Value → mp_M → Prop) (mc ms : Nat) : Prop := match x with
  | (p, e, R, s, m, args, below, meth, c, nL, Q) => ∀ (H : Heap) (locs : List Loc) (ls : Array Slot), mp_H g M H → va_S (fun q => gx_z g ≤ q) s.heap H locs → lx ls nL L → ∃ a : Array Value, va_Run p (gx_l g) e R s m args below meth c H locs k n mc ms (F0 m pc ls st0) rest (mp_Q g Po a) (fun q => gx_z g ≤ q)
section VCALL
variable {g : gx_T} {x : cx_T} {cc : ByteArray} {own : String} {fr ce sl lc : Nat} {M : mp_M} {k n pc : Nat} {L : List (Option Value)} {st0 rest : List Value} {mc ms : Nat}
theorem v_run {Po : Option Value → mp_M → Prop} (q : Nat) (hr : RN g x M k n pc L st0 rest Po mc ms) (hq : pc + 3 = q) (kk : ∀ (v : Option Value) (M' : mp_M), Po v M' → VV g x M' (k + mc) (n + ms) q L (v.toList ++ rest)) : VV g x M k n pc L st0 := by
  obtain ⟨p, e, R, s, m, args, below, meth, c, nL, Q⟩ := x
  subst hq
  intro H locs ls hw hS hl T hT X
  obtain ⟨a, hra⟩ := hr H locs ls hw hS hl
  obtain ⟨v, st₀, t, T', L9, h0, X', hL, e1, e2, ⟨⟨v', M', hv, hp, hm⟩, hz, hk⟩, st⟩ := hra T hT X
  cases hv
  rw [h0] at hz hk
  obtain ⟨t2, a1, b1⟩ := kk v M' hp T'.heap (locs ++ L9) ls (by rw [e1]; exact hm)
    ⟨Nat.le_trans hS.1 (by rw [e1]; exact hz), fun q h1 h2 => by rw [e1, hk q (Nat.lt_of_lt_of_le h1 hS.1) h2]; exact hS.2.1 q h1 h2, fun q hq => by
      rcases List.mem_append.mp hq with h | h
      · exact hS.2.2 q h
      · exact hL q h⟩ hl T' rfl X'
  exact ⟨t2, st t2 a1, b1⟩
theorem v_rv {F : mp_M → Prop} (q : Nat) (hr : RN g x M k n pc L st0 rest (pv F) mc ms) (hq : pc + 3 = q) (kk : ∀ M' : mp_M, F M' → VV g x M' (k + mc) (n + ms) q L rest) : VV g x M k n pc L st0 :=
  v_run q hr hq (fun v M' h => by obtain ⟨rfl, h2⟩ := h; exact kk M' h2)
theorem v_ri {F : Int32 → mp_M → Prop} (q : Nat) (hr : RN g x M k n pc L st0 rest (pi_ F) mc ms) (hq : pc + 3 = q) (kk : ∀ (r : Int32) (M' : mp_M), F r M' → VV g x M' (k + mc) (n + ms) q L (.int r :: rest)) : VV g x M k n pc L st0 :=
  v_run q hr hq (fun v M' h => by obtain ⟨r, rfl, h2⟩ := h; exact kk r M' h2)
theorem v_rq {F : Option Nat → mp_M → Prop} (q : Nat) (hr : RN g x M k n pc L st0 rest (pq F) mc ms) (hq : pc + 3 = q) (kk : ∀ (r : Option Nat) (M' : mp_M), F r M' → VV g x M' (k + mc) (n + ms) q L (va_rf r :: rest)) : VV g x M k n pc L st0 :=
  v_run q hr hq (fun v M' h => by obtain ⟨r, rfl, h2⟩ := h; exact kk r M' h2)
variable {y : MethodName} {bytes : ByteArray} {maxL : Nat} {ret : Option FieldType} {lv idx : Nat} {As : List Value} {Po : Option Value → mp_M → Prop}
theorem AL_good : ∀ w ∈ AL, ((w.onTables && w.keeps) = true ∨ ∃ ty, w = .arrayClass ty) := AL_good0
theorem ct_GoodIn (hc : Cond.code y bytes maxL ret ∈ AL) : GoodIn AL (.code y bytes maxL ret :: AL) := by
  intro w hw
  rcases List.mem_cons.mp hw with h | h
  · subst h
    exact ⟨hc, AL_good _ hc⟩
  · exact ⟨h, AL_good _ h⟩
theorem ct_blind : FrameBlind (va_Pc As (fun U => mp_H g M U.heap ∧ mp_K g U)) := fun a U f mk h => ⟨h.1, h.2.1, h.2.2.calling⟩
theorem rn_V (C : CX g x cc own fr ce sl lc) {b ci : Nat} (hM : Ct g y bytes maxL ret lv (.ref b :: As) M Po mc ms) {T : u_T} {N nA : Nat} {fs : List Value} (hb : M b = some (.inr (ci, fs))) (hcl : vwCl[ci]? = some (y.cls, T, N)) (hlk : Cond.methodLink own idx y ∈ AL) (hin : Cond.instanceMethod y ∈ AL) (hse : Cond.selects y.cls y y ∈ AL) (hini : Cond.initialized y.cls ∈ AL) (hco : Cond.code y bytes maxL ret ∈ AL)
    (hd : y.cls ≠ "java/lang/invoke/MethodHandle" ∧ y.cls ≠ "java/lang/invoke/VarHandle" ∧ (parseMethodDescriptor y.desc).map (fun d => d.parameters.length) = some nA) (hnA : As.length = nA) (hst : st0 = As.reverse ++ .ref b :: rest) (hdg : decode cc pc = .ok (.invokevirtual idx, 3)) (hfr : lv + 1 ≤ fr) (hlc : 8 + (maxL + 11) + 40 * lv ≤ lc) (hW : (rest.map fun v => v.category).sum ≤ 8) (hk : k + mc ≤ ce) (hn : n + ms ≤ sl) : RN g x M k n pc L st0 rest Po mc ms := by
  obtain ⟨p, e, R, s, m, args, below, meth, c, nL, Q⟩ := x
  obtain ⟨⟨hx, hbc, hml, hown, hts⟩, hK, hR, hz⟩ := C
  subst hR
  subst hst
  intro H locs ls hw hS hl
  obtain ⟨-, ws, hP, hD, hm⟩ := id hw
  obtain ⟨q0, hq0⟩ := hm _ _ hb
  refine ⟨_, va_runV (nL := nL) (n := nA) (C := y.cls) (As := As) ⟨hx, hbc, hml, hown, hts⟩ hM ⟨callB_of nA hts (ct_GoodIn hco) rfl rfl rfl (hts _ hini) (hts _ hlk) hd ⟨hfr, hlc⟩, hts _ hin, hts _ hse⟩ ⟨ct_blind, va_recv hK.1 hP hcl hq0, fun U hU hWm => ⟨rfl, by rw [hU]; exact hw, hK.to hz hWm hU hS⟩⟩ rfl hnA hl.1.1 rfl (lv_room hW) hdg ⟨hk, hn⟩⟩
theorem rn_I (C : CX g x cc own fr ce sl lc) {b nA : Nat} (hM : Ct g y bytes maxL none lv (.ref b :: As) M Po mc ms) (hy1 : y.name = "<init>") (hlk : Cond.methodLink own idx y ∈ AL) (hin : Cond.instanceMethod y ∈ AL) (hini : Cond.initialized y.cls ∈ AL) (hco : Cond.code y bytes maxL none ∈ AL)
    (hd : y.cls ≠ "java/lang/invoke/MethodHandle" ∧ y.cls ≠ "java/lang/invoke/VarHandle" ∧ (parseMethodDescriptor y.desc).map (fun d => d.parameters.length) = some nA) (hnA : As.length = nA) (hst : st0 = As.reverse ++ .ref b :: rest) (hdg : decode cc pc = .ok (.invokespecial idx, 3)) (hfr : lv + 1 ≤ fr) (hlc : 8 + (maxL + 11) + 40 * lv ≤ lc) (hW : (rest.map fun v => v.category).sum ≤ 8) (hk : k + mc ≤ ce) (hn : n + ms ≤ sl) : RN g x M k n pc L st0 rest Po mc ms := by
  obtain ⟨p, e, R, s, m, args, below, meth, c, nL, Q⟩ := x
  obtain ⟨⟨hx, hbc, hml, hown, hts⟩, hK, hR, hz⟩ := C
  subst hR
  subst hst
  intro H locs ls hw hS hl
  refine ⟨_, va_runI (nL := nL) (n := nA) (b := b) (As := As) ⟨hx, hbc, hml, hown, hts⟩ hM (cwI nA hts (ct_GoodIn hco) rfl rfl rfl (hts _ hini) (hts _ hlk) (hts _ hin) hy1 hd ⟨hfr, hlc⟩) ⟨ct_blind, fun U hU hWm => ⟨rfl, by rw [hU]; exact hw, hK.to hz hWm hU hS⟩⟩ rfl hnA hl.1.1 rfl (lv_room hW) hdg ⟨hk, hn⟩⟩
theorem rn_S (C : CX g x cc own fr ce sl lc) {nA : Nat} (hM : Ct g y bytes maxL ret lv As M Po mc ms) (hlk : Cond.methodLink own idx y ∈ AL) (hst2 : Cond.static y ∈ AL) (hini : Cond.initialized y.cls ∈ AL) (hco : Cond.code y bytes maxL ret ∈ AL)
    (hd : y.cls ≠ "java/lang/invoke/MethodHandle" ∧ y.cls ≠ "java/lang/invoke/VarHandle" ∧ (parseMethodDescriptor y.desc).map (fun d => d.parameters.length) = some nA) (hnA : As.length = nA) (hst : st0 = As.reverse ++ rest) (hdg : decode cc pc = .ok (.invokestatic idx, 3)) (hfr : lv + 1 ≤ fr) (hlc : 8 + (maxL + 11) + 40 * lv ≤ lc) (hW : (rest.map fun v => v.category).sum ≤ 8) (hk : k + mc ≤ ce) (hn : n + ms ≤ sl) : RN g x M k n pc L st0 rest Po mc ms := by
  obtain ⟨p, e, R, s, m, args, below, meth, c, nL, Q⟩ := x
  obtain ⟨⟨hx, hbc, hml, hown, hts⟩, hK, hR, hz⟩ := C
  subst hR
  subst hst
  intro H locs ls hw hS hl
  refine ⟨_, va_runS (nL := nL) (n := nA) (As := As) ⟨hx, hbc, hml, hown, hts⟩ hM ⟨callB_of nA hts (ct_GoodIn hco) rfl rfl rfl (hts _ hini) (hts _ hlk) hd ⟨hfr, hlc⟩, hts _ hst2⟩ ⟨ct_blind, fun U hU hWm => ⟨rfl, by rw [hU]; exact hw, hK.to hz hWm hU hS⟩⟩ rfl hnA hl.1.1 rfl (lv_room hW) hdg ⟨hk, hn⟩⟩
theorem rn_SN (C : CX g x cc own fr ce sl lc) {nA : Nat} {host : String} (hM : Ct g y bytes maxL ret lv As M Po mc ms) (hlk : ∀ s, mp_K g s → va_Nw (.methodLinkNest own idx y host) s) (hst2 : Cond.static y ∈ AL) (hini : Cond.initialized y.cls ∈ AL) (hco : Cond.code y bytes maxL ret ∈ AL)
    (hd : y.cls ≠ "java/lang/invoke/MethodHandle" ∧ y.cls ≠ "java/lang/invoke/VarHandle" ∧ (parseMethodDescriptor y.desc).map (fun d => d.parameters.length) = some nA) (hnA : As.length = nA) (hst : st0 = As.reverse ++ rest) (hdg : decode cc pc = .ok (.invokestatic idx, 3)) (hfr : lv + 1 ≤ fr) (hlc : 8 + (maxL + 11) + 40 * lv ≤ lc) (hW : (rest.map fun v => v.category).sum ≤ 8) (hk : k + mc ≤ ce) (hn : n + ms ≤ sl) : RN g x M k n pc L st0 rest Po mc ms := by
  obtain ⟨p, e, R, s, m, args, below, meth, c, nL, Q⟩ := x
  obtain ⟨⟨hx, hbc, hml, hown, hts⟩, hK, hR, hz⟩ := C
  subst hR
  subst hst
  intro H locs ls hw hS hl
  refine ⟨_, va_runSN (nL := nL) (n := nA) (As := As) ⟨hx, hbc, hml, hown, hts⟩ hM ⟨va_cnB nA hts (ct_GoodIn hco) rfl rfl rfl (hlk s hK) (hts _ hini) hd ⟨hfr, hlc⟩, hts _ hst2, trivial⟩ ⟨ct_blind, fun U hU hWm => ⟨rfl, by rw [hU]; exact hw, hK.to hz hWm hU hS⟩⟩ rfl hnA hl.1.1 rfl (lv_room hW) hdg ⟨hk, hn⟩⟩
end VCALL
