
noncomputable def bo (p : Prop) : Bool := @decide p (Classical.propDecidable p)
theorem bo_t {p : Prop} : bo p = true ↔ p := by
  unfold bo
  exact @decide_eq_true_iff p (Classical.propDecidable p)
theorem bo_f {p : Prop} : bo p = false ↔ ¬ p := by
  unfold bo
  exact @decide_eq_false_iff_not p (Classical.propDecidable p)
abbrev en_E : Type := Nat × Nat × Nat × Nat × Nat × Int32 × Nat
def en_k (e : en_E) : Nat := e.1
def en_r (e : en_E) : Nat := e.2.1
def en_c (e : en_E) : Nat := e.2.2.1
def en_l (e : en_E) : Nat := e.2.2.2.1
def en_p (e : en_E) : Nat := e.2.2.2.2.1
def en_v (e : en_E) : Int32 := e.2.2.2.2.2.1
def en_t (e : en_E) : Nat := e.2.2.2.2.2.2
def en_ok (e : en_E) : Prop := en_k e ≤ 2 ∧ en_r e < 16 ∧ en_c e ≤ en_l e ∧ en_l e < 8 ∧ (en_k e ≠ 2 → en_l e = en_c e) ∧ en_p e ≤ 9999 ∧ (en_k e ≠ 0 → en_v e = 0) ∧ (en_t e ≤ 100000 ∨ (en_k e = 0 ∧ en_t e = 2147483647))
def en_ws (r c l : Nat) : Nat := 128 + r * 36 + l * (l + 1) / 2 + c
def en_s (e : en_E) : Nat := if en_k e = 2 then en_ws (en_r e) (en_c e) (en_l e) else en_r e * 8 + en_c e
theorem en_tri : ∀ l, l < 8 → ∀ c, c < 8 → c ≤ l → l * (l + 1) / 2 + c < 36 := by decide +kernel
theorem en_trj : ∀ l, l < 8 → ∀ c, c < 8 → ∀ l', l' < 8 → ∀ c', c' < 8 → c ≤ l → c' ≤ l' → l * (l + 1) / 2 + c = l' * (l' + 1) / 2 + c' → l = l' ∧ c = c' := by
  intro l hl c hc l' hl' c' hc' h1 h2 h3
  rcases (show l = 0 ∨ l = 1 ∨ l = 2 ∨ l = 3 ∨ l = 4 ∨ l = 5 ∨ l = 6 ∨ l = 7 by omega) with rfl | rfl | rfl | rfl | rfl | rfl | rfl | rfl <;> rcases (show l' = 0 ∨ l' = 1 ∨ l' = 2 ∨ l' = 3 ∨ l' = 4 ∨ l' = 5 ∨ l' = 6 ∨ l' = 7 by omega) with rfl | rfl | rfl | rfl | rfl | rfl | rfl | rfl <;> omega
theorem en_ws_lt {r c l : Nat} (hr : r < 16) (hc : c ≤ l) (hl : l < 8) : 128 ≤ en_ws r c l ∧ en_ws r c l < 704 := by
  have := en_tri l hl c (by omega) hc
  unfold en_ws
  omega
theorem en_ws_inj {r c l r' c' l' : Nat} (hc : c ≤ l) (hl : l < 8) (hc' : c' ≤ l') (hl' : l' < 8) (h : en_ws r c l = en_ws r' c' l') : r = r' ∧ c = c' ∧ l = l' := by
  have h1 := en_tri l hl c (by omega) hc
  have h2 := en_tri l' hl' c' (by omega) hc'
  unfold en_ws at h
  have hr : r = r' := by omega
  have h3 := en_trj l hl c (by omega) l' hl' c' (by omega) hc hc' (by omega)
  exact ⟨hr, h3.2, h3.1⟩
theorem en_s_w {e : en_E} (h : en_k e = 2) : en_s e = en_ws (en_r e) (en_c e) (en_l e) := if_pos h
theorem en_s_p {e : en_E} (h : en_k e ≠ 2) : en_s e = en_r e * 8 + en_c e := if_neg h
theorem en_s_lt {e : en_E} (h : en_ok e) : en_s e < 704 := by
  obtain ⟨h1, h2, h3, h4, h5, h6, h7, h8⟩ := h
  by_cases hk : en_k e = 2
  · rw [en_s_w hk]
    exact (en_ws_lt h2 h3 h4).2
  · rw [en_s_p hk]
    omega
theorem en_s_128 {e : en_E} (h : en_ok e) : en_s e < 128 ↔ en_k e ≠ 2 := by
  obtain ⟨h1, h2, h3, h4, h5, h6, h7, h8⟩ := h
  by_cases hk : en_k e = 2
  · rw [en_s_w hk]
    have := (en_ws_lt h2 h3 h4).1
    constructor
    · intro h; omega
    · intro h; exact absurd hk h
  · rw [en_s_p hk]
    constructor
    · intro _; exact hk
    · intro _; omega
theorem en_s_inj {e f : en_E} (he : en_ok e) (hf : en_ok f) (h : en_s e = en_s f) : (en_k e = 2 ↔ en_k f = 2) ∧ en_r e = en_r f ∧ en_c e = en_c f ∧ en_l e = en_l f := by
  have g1 := en_s_128 he
  have g2 := en_s_128 hf
  rw [h] at g1
  have hkk : en_k e ≠ 2 ↔ en_k f ≠ 2 := g1.symm.trans g2
  obtain ⟨h1, h2, h3, h4, h5, h6, h7, h8⟩ := he
  obtain ⟨f1, f2, f3, f4, f5, f6, f7, f8⟩ := hf
  by_cases hk : en_k e = 2
  · have hk2 : en_k f = 2 := Classical.byContradiction fun z => hkk.mpr z hk
    rw [en_s_w hk, en_s_w hk2] at h
    exact ⟨⟨fun _ => hk2, fun _ => hk⟩, en_ws_inj h3 h4 f3 f4 h⟩
  · have hk2 := hkk.mp hk
    rw [en_s_p hk, en_s_p hk2] at h
    have l1 := h5 hk
    have l2 := f5 hk2
    exact ⟨⟨fun z => absurd z hk, fun z => absurd z hk2⟩, by omega, by omega, by omega⟩
def en_w (e f : en_E) : Bool := decide (en_p f < en_p e ∨ (en_p e = en_p f ∧ (en_k f < en_k e ∨ (en_k e = en_k f ∧ ((en_v f).toInt < (en_v e).toInt ∨ ((en_v e).toInt = (en_v f).toInt ∧ en_t f < en_t e))))))
theorem en_w_t {e f : en_E} : en_w e f = true ↔ (en_p f < en_p e ∨ (en_p e = en_p f ∧ (en_k f < en_k e ∨ (en_k e = en_k f ∧ ((en_v f).toInt < (en_v e).toInt ∨ ((en_v e).toInt = (en_v f).toInt ∧ en_t f < en_t e)))))) := decide_eq_true_iff
theorem en_w_f {e f : en_E} : en_w e f = false ↔ ¬ (en_p f < en_p e ∨ (en_p e = en_p f ∧ (en_k f < en_k e ∨ (en_k e = en_k f ∧ ((en_v f).toInt < (en_v e).toInt ∨ ((en_v e).toInt = (en_v f).toInt ∧ en_t f < en_t e)))))) := decide_eq_false_iff_not
theorem en_w_self (e : en_E) : en_w e e = false := by
  rw [en_w_f]
  omega
theorem en_w_tr {e f h : en_E} (h1 : en_w e f = true) (h2 : en_w f h = true) : en_w e h = true := by
  rw [en_w_t] at *
  omega
theorem en_w_as {e f : en_E} (h1 : en_w e f = true) : en_w f e = false := by
  rw [en_w_t] at h1
  rw [en_w_f]
  omega

theorem en_w_tn {e f h : en_E} (h1 : en_w f e = false) (h2 : en_w h f = false) : en_w h e = false := by
  rw [en_w_f] at *
  omega
theorem en_w_tot {e f : en_E} (he : en_ok e) (hf : en_ok f) (hs : en_s e = en_s f) (h1 : en_w e f = false) (h2 : en_w f e = false) : e = f := by
  obtain ⟨g1, g2, g3, g4⟩ := en_s_inj he hf hs
  rw [en_w_f] at h1 h2
  have a1 : en_p e = en_p f := by omega
  have a2 : en_k e = en_k f := by omega
  have a3 : (en_v e).toInt = (en_v f).toInt := by omega
  have a4 : en_t e = en_t f := by omega
  have a5 : en_v e = en_v f := Int32.toInt_inj.mp a3
  obtain ⟨e1, e2, e3, e4, e5, e6, e7⟩ := e
  obtain ⟨f1, f2, f3, f4, f5, f6, f7⟩ := f
  simp only [en_k, en_r, en_c, en_l, en_p, en_v, en_t] at *
  subst a1 a2 a4 a5 g2 g3 g4
  rfl
def en_m (a b : Option en_E) : Option en_E := match a, b with
  | a, none => a
  | none, some e => some e
  | some h, some e => if en_w e h = true then some e else some h
def en_X (S : en_E → Prop) (o : Option en_E) : Prop := match o with
  | none => ∀ e, ¬ S e
  | some e => S e ∧ ∀ f, S f → en_w f e = false
theorem en_X_u {S : en_E → Prop} {s : Nat} (hS : ∀ e, S e → en_ok e ∧ en_s e = s) {a b : Option en_E} (ha : en_X S a) (hb : en_X S b) : a = b := by
  cases a with
  | none => cases b with
    | none => rfl
    | some f => exact absurd hb.1 (ha f)
  | some e => cases b with
    | none => exact absurd ha.1 (hb e)
    | some f =>
      have h1 := hS e ha.1
      have h2 := hS f hb.1
      rw [en_w_tot h1.1 h2.1 (h1.2.trans h2.2.symm) (hb.2 e ha.1) (ha.2 f hb.1)]
theorem en_X_m {S : en_E → Prop} {a b : Option en_E} (ha : en_X S a) : en_X (fun e => S e ∨ b = some e) (en_m a b) := by
  cases b with
  | none =>
    cases a with
    | none => exact fun e h => h.elim (ha e) (fun z => by cases z)
    | some h => exact ⟨Or.inl ha.1, fun f hf => hf.elim (ha.2 f) (fun z => by cases z)⟩
  | some e =>
    cases a with
    | none => exact ⟨Or.inr rfl, fun f hf => hf.elim (fun z => absurd z (ha f)) (fun z => by cases z; exact en_w_self e)⟩
    | some h =>
      unfold en_m
      by_cases hw : en_w e h = true
      · simp only [hw, if_true]
        refine ⟨Or.inr rfl, fun f hf => ?_⟩
        rcases hf with hf | hf
        · exact en_w_tn (en_w_as hw) (ha.2 f hf)
        · cases hf
          exact en_w_self e
      · simp only [hw]
        refine ⟨Or.inl ha.1, fun f hf => ?_⟩
        rcases hf with hf | hf
        · exact ha.2 f hf
        · cases hf
          exact Bool.eq_false_iff.mpr hw
theorem en_X_cg {S S' : en_E → Prop} {a : Option en_E} (h : ∀ e, S e ↔ S' e) (ha : en_X S a) : en_X S' a := by
  cases a with
  | none => exact fun e he => ha e ((h e).mpr he)
  | some e => exact ⟨(h e).mp ha.1, fun f hf => ha.2 f ((h f).mpr hf)⟩
theorem en_m_or {a b : Option en_E} {e : en_E} (h : en_m a b = some e) : a = some e ∨ b = some e := by
  cases b with
  | none => exact Or.inl (by cases a <;> exact h)
  | some f =>
    cases a with
    | none => exact Or.inr h
    | some h2 =>
      unfold en_m at h
      simp only at h
      split at h
      · exact Or.inr h
      · exact Or.inl h

def cn (P : Nat → Bool) : Nat → Nat
  | 0 => 0
  | n + 1 => cn P n + (if P n = true then 1 else 0)
theorem cn_le (P : Nat → Bool) : ∀ n, cn P n ≤ n
  | 0 => Nat.le_refl _
  | n + 1 => by
    have := cn_le P n
    unfold cn
    split <;> omega
theorem cn_eq {P Q : Nat → Bool} : ∀ n, (∀ j, j < n → P j = Q j) → cn P n = cn Q n
  | 0, _ => rfl
  | n + 1, h => by
    unfold cn
    rw [cn_eq n (fun j hj => h j (by omega)), h n (by omega)]
theorem cn_inc {P Q : Nat → Bool} {s : Nat} : ∀ n, s < n → P s = false → Q s = true → (∀ j, j < n → j ≠ s → P j = Q j) → cn Q n = cn P n + 1
  | 0, h, _, _, _ => by omega
  | n + 1, h, hp, hq, ho => by
    unfold cn
    by_cases hs : s = n
    · subst hs
      rw [cn_eq (P := P) (Q := Q) s (fun j hj => ho j (by omega) (by omega)), hp, hq]
      simp
    · rw [cn_inc n (by omega) hp hq (fun j hj hne => ho j (by omega) hne), ho n (by omega) (fun z => hs z.symm)]
      omega
theorem cn_pos {P : Nat → Bool} {s : Nat} : ∀ n, s < n → P s = true → 0 < cn P n
  | 0, h, _ => by omega
  | n + 1, h, hp => by
    unfold cn
    by_cases hs : s = n
    · subst hs
      rw [hp]
      simp
    · have := cn_pos n (by omega) hp
      omega
theorem cn_0 {P : Nat → Bool} {n : Nat} (h : cn P n = 0) (s : Nat) (hs : s < n) : P s = false := by
  cases hp : P s with
  | false => rfl
  | true =>
    have := cn_pos n hs hp
    omega
theorem cn_z {P : Nat → Bool} : ∀ n, (∀ j, j < n → P j = false) → cn P n = 0
  | 0, _ => rfl
  | n + 1, h => by
    unfold cn
    rw [cn_z n (fun j hj => h j (by omega)), h n (by omega)]
    simp

abbrev tb_T : Type := Nat → Option en_E
def tb_ok (T : tb_T) : Prop := ∀ (s : Nat) (e : en_E), T s = some e → en_ok e ∧ en_s e = s
def tb_0 : tb_T := fun _ => none
def tb_a (T : tb_T) (e : en_E) : tb_T := va_up T (en_s e) (en_m (T (en_s e)) (some e))
def tb_m (T U : tb_T) : tb_T := fun s => en_m (T s) (U s)
def tb_n (T : tb_T) : Nat := cn (fun s => (T s).isSome) 704
def tb_i (o : Option en_E) : Bool := match o with
  | some e => decide (en_k e = 2)
  | none => false
def tb_w (T : tb_T) : Nat := cn (fun s => tb_i (T s)) 704
theorem tb_ok_0 : tb_ok tb_0 := fun _ _ h => by cases h
theorem tb_ok_a {T : tb_T} {e : en_E} (h : tb_ok T) (he : en_ok e) : tb_ok (tb_a T e) := by
  intro s f hf
  unfold tb_a at hf
  by_cases hs : s = en_s e
  · subst hs
    rw [va_up_self] at hf
    rcases en_m_or hf with h1 | h1
    · exact h _ _ h1
    · cases h1
      exact ⟨he, rfl⟩
  · rw [va_up_ne _ _ hs] at hf
    exact h s f hf
theorem tb_ok_m {T U : tb_T} (h : tb_ok T) (h2 : tb_ok U) : tb_ok (tb_m T U) := by
  intro s f hf
  rcases en_m_or hf with h1 | h1
  · exact h _ _ h1
  · exact h2 _ _ h1
theorem tb_lt {T : tb_T} (h : tb_ok T) {s : Nat} {e : en_E} (he : T s = some e) : s < 704 := by
  obtain ⟨h1, h2⟩ := h s e he
  rw [← h2]
  exact en_s_lt h1
theorem tb_n_le (T : tb_T) : tb_n T ≤ 704 := cn_le _ 704
theorem tb_w_le (T : tb_T) : tb_w T ≤ 704 := cn_le _ 704
theorem tb_n_0 : tb_n tb_0 = 0 := cn_z _ (fun _ _ => rfl)
theorem tb_w_0 : tb_w tb_0 = 0 := cn_z _ (fun _ _ => rfl)
theorem tb_up_o {T : tb_T} {s j : Nat} {o : Option en_E} (h : j ≠ s) : va_up T s o j = T j := va_up_ne _ _ h
theorem tb_n_new {T : tb_T} {s : Nat} {e : en_E} (hs : s < 704) (h : T s = none) : tb_n (va_up T s (some e)) = tb_n T + 1 :=
  cn_inc (P := fun s => (T s).isSome) (Q := fun j => (va_up T s (some e) j).isSome) (s := s) 704 hs (by show (T s).isSome = false; rw [h]; rfl) (by show (va_up T s (some e) s).isSome = true; rw [va_up_self]; rfl) (fun j _ hne => by show (T j).isSome = (va_up T s (some e) j).isSome; rw [tb_up_o hne])
theorem tb_n_old {T : tb_T} {s : Nat} {e h : en_E} (hh : T s = some h) : tb_n (va_up T s (some e)) = tb_n T := by
  refine cn_eq 704 (fun j _ => ?_)
  show (va_up T s (some e) j).isSome = (T j).isSome
  by_cases hj : j = s
  · subst hj
    rw [va_up_self, hh]
    rfl
  · rw [tb_up_o hj]
theorem tb_n_del {T : tb_T} {s : Nat} {h : en_E} (hs : s < 704) (hh : T s = some h) : tb_n T = tb_n (va_up T s none) + 1 :=
  cn_inc (P := fun j => (va_up T s none j).isSome) (Q := fun s => (T s).isSome) (s := s) 704 hs (by show (va_up T s none s).isSome = false; rw [va_up_self]; rfl) (by show (T s).isSome = true; rw [hh]; rfl) (fun j _ hne => by show (va_up T s none j).isSome = (T j).isSome; rw [tb_up_o hne])
theorem tb_w_up {T : tb_T} {s : Nat} {o : Option en_E} (h : tb_i o = tb_i (T s)) : tb_w (va_up T s o) = tb_w T := by
  refine cn_eq 704 (fun j _ => ?_)
  show tb_i (va_up T s o j) = tb_i (T j)
  by_cases hj : j = s
  · subst hj
    rw [va_up_self]
    exact h
  · rw [tb_up_o hj]
theorem tb_w_inc {T : tb_T} {s : Nat} {o : Option en_E} (hs : s < 704) (h : tb_i (T s) = false) (ho : tb_i o = true) : tb_w (va_up T s o) = tb_w T + 1 :=
  cn_inc (P := fun s => tb_i (T s)) (Q := fun j => tb_i (va_up T s o j)) (s := s) 704 hs h (by show tb_i (va_up T s o s) = true; rw [va_up_self]; exact ho) (fun j _ hne => by show tb_i (T j) = tb_i (va_up T s o j); rw [tb_up_o hne])
theorem tb_w_dec {T : tb_T} {s : Nat} {o : Option en_E} (hs : s < 704) (h : tb_i (T s) = true) (ho : tb_i o = false) : tb_w T = tb_w (va_up T s o) + 1 :=
  cn_inc (P := fun j => tb_i (va_up T s o j)) (Q := fun s => tb_i (T s)) (s := s) 704 hs (by show tb_i (va_up T s o s) = false; rw [va_up_self]; exact ho) h (fun j _ hne => by show tb_i (va_up T s o j) = tb_i (T j); rw [tb_up_o hne])

def tb_c (T : tb_T) (r c p : Nat) : Prop := ∃ (s : Nat) (e : en_E), T s = some e ∧ en_k e = 2 ∧ en_r e = r ∧ en_c e ≤ c ∧ c ≤ en_l e ∧ p ≤ en_p e
def tb_cs (T : tb_T) (r p f l : Nat) : Prop := ∃ e : en_E, T (en_ws r f l) = some e ∧ p ≤ en_p e
theorem tb_c_iff {T : tb_T} (h : tb_ok T) {r c p : Nat} (hr : r < 16) (hc : c < 8) : tb_c T r c p ↔ ∃ f l : Nat, f ≤ c ∧ c ≤ l ∧ l < 8 ∧ tb_cs T r p f l := by
  constructor
  · rintro ⟨s, e, h1, h2, h3, h4, h5, h6⟩
    obtain ⟨g1, g2⟩ := h s e h1
    refine ⟨en_c e, en_l e, h4, h5, g1.2.2.2.1, e, ?_, h6⟩
    rw [← h3, ← en_s_w h2, g2]
    exact h1
  · rintro ⟨f, l, h1, h2, h3, e, h4, h5⟩
    obtain ⟨g1, g2⟩ := h _ e h4
    have hk : en_k e = 2 := Classical.byContradiction fun z => by
      have a1 := (en_s_128 g1).mpr z
      have a2 := (en_ws_lt (r := r) (c := f) (l := l) hr (by omega) h3).1
      omega
    rw [en_s_w hk] at g2
    obtain ⟨b1, b2, b3⟩ := en_ws_inj g1.2.2.1 g1.2.2.2.1 (by omega) h3 g2
    exact ⟨_, e, h4, hk, b1, by omega, by omega, h5⟩
theorem tb_c_0 {T : tb_T} (h : tb_ok T) (hw : tb_w T = 0) {r c p : Nat} : ¬ tb_c T r c p := by
  rintro ⟨s, e, h1, h2, -⟩
  have := cn_0 (P := fun s => tb_i (T s)) hw s (tb_lt h h1)
  have h3 : tb_i (T s) = false := this
  rw [h1] at h3
  simp [tb_i, h2] at h3
noncomputable def tb_d (T : tb_T) : tb_T := fun s => match T s with
  | none => none
  | some e => if bo (en_k e ≠ 2 ∧ tb_c T (en_r e) (en_c e) (en_p e)) = true then none else some e
def tb_o (now grace : Nat) (T : tb_T) : tb_T := fun s => match T s with
  | none => none
  | some e => if en_t e + grace ≤ now then none else some e
noncomputable def tb_j (now grace : Nat) (all : Bool) (ts : List tb_T) : tb_T := if all = true then tb_o now grace (tb_d (ts.foldl tb_m tb_0)) else tb_d (ts.foldl tb_m tb_0)
theorem tb_ok_d {T : tb_T} (h : tb_ok T) : tb_ok (tb_d T) := by
  intro s e he
  unfold tb_d at he
  cases hs : T s with
  | none => rw [hs] at he; cases he
  | some f =>
    rw [hs] at he
    simp only at he
    split at he
    · cases he
    · cases he
      exact h s _ hs
theorem tb_ok_o {now grace : Nat} {T : tb_T} (h : tb_ok T) : tb_ok (tb_o now grace T) := by
  intro s e he
  unfold tb_o at he
  cases hs : T s with
  | none => rw [hs] at he; cases he
  | some f =>
    rw [hs] at he
    simp only at he
    split at he
    · cases he
    · cases he
      exact h s _ hs
theorem tb_ok_f : ∀ (ts : List tb_T) (T : tb_T), tb_ok T → (∀ t, t ∈ ts → tb_ok t) → tb_ok (ts.foldl tb_m T)
  | [], _, h, _ => h
  | t :: ts, T, h, ht => tb_ok_f ts (tb_m T t) (tb_ok_m h (ht t (List.mem_cons_self))) (fun u hu => ht u (List.mem_cons_of_mem _ hu))
theorem tb_ok_j {now grace : Nat} {all : Bool} {ts : List tb_T} (ht : ∀ t, t ∈ ts → tb_ok t) : tb_ok (tb_j now grace all ts) := by
  unfold tb_j
  split
  · exact tb_ok_o (tb_ok_d (tb_ok_f ts tb_0 tb_ok_0 ht))
  · exact tb_ok_d (tb_ok_f ts tb_0 tb_ok_0 ht)
theorem tb_X_f : ∀ (ts : List tb_T) (T : tb_T) (s : Nat) (S : en_E → Prop), en_X S (T s) → en_X (fun e => S e ∨ ∃ t, t ∈ ts ∧ t s = some e) ((ts.foldl tb_m T) s)
  | [], T, s, S, h => en_X_cg (fun e => ⟨fun z => Or.inl z, fun z => z.elim id (fun ⟨t, h1, _⟩ => by cases h1)⟩) h
  | t :: ts, T, s, S, h => by
    have h1 := tb_X_f ts (tb_m T t) s (fun e => S e ∨ t s = some e) (en_X_m h)
    refine en_X_cg (fun e => ⟨fun z => ?_, fun z => ?_⟩) h1
    · rcases z with (z | z) | ⟨u, h2, h3⟩
      · exact Or.inl z
      · exact Or.inr ⟨t, List.mem_cons_self, z⟩
      · exact Or.inr ⟨u, List.mem_cons_of_mem _ h2, h3⟩
    · rcases z with z | ⟨u, h2, h3⟩
      · exact Or.inl (Or.inl z)
      · rcases List.mem_cons.mp h2 with h4 | h4
        · subst h4
          exact Or.inl (Or.inr h3)
        · exact Or.inr ⟨u, h4, h3⟩

abbrev st_R : Type := List (Nat × tb_T)
abbrev st_S : Type := Nat × Nat × Nat × tb_T × List en_E × Nat × st_R
def st_cap (S : st_S) : Nat := S.1
def st_gr (S : st_S) : Nat := S.2.1
def st_now (S : st_S) : Nat := S.2.2.1
def st_mem (S : st_S) : tb_T := S.2.2.2.1
def st_log (S : st_S) : List en_E := S.2.2.2.2.1
def st_safe (S : st_S) : Nat := S.2.2.2.2.2.1
def st_runs (S : st_S) : st_R := S.2.2.2.2.2.2
def st_ti (rs : st_R) (i : Nat) : Nat := (rs.getD i (0, tb_0)).1
def st_tb (rs : st_R) (i : Nat) : tb_T := (rs.getD i (0, tb_0)).2
def st_3 (rs : st_R) : Bool := decide (3 ≤ rs.length ∧ st_ti rs (rs.length - 2) = st_ti rs (rs.length - 3) ∧ st_ti rs (rs.length - 1) = st_ti rs (rs.length - 3))
noncomputable def st_j (now grace : Nat) (rs : st_R) (i tier : Nat) : st_R := rs.take i ++ [(tier, tb_j now grace (decide (i = 0)) ((rs.drop i).map Prod.snd))]
noncomputable def st_g (now grace : Nat) : Nat → st_R → st_R
  | 0, rs => rs
  | n + 1, rs => if st_3 rs = true then st_g now grace n (st_j now grace rs (rs.length - 3) (st_ti rs (rs.length - 3) + 1)) else rs
noncomputable def st_f (S : st_S) : st_S := if tb_n (st_mem S) = 0 then S else (st_cap S, st_gr S, st_now S, tb_0, [], 0, st_g (st_now S) (st_gr S) ((st_runs S).length + 1) (st_runs S ++ [(0, st_mem S)]))
noncomputable def st_a (S : st_S) (e : en_E) : st_S := if st_cap S < tb_n (tb_a (st_mem S) e) then st_f (st_cap S, st_gr S, st_now S, tb_a (st_mem S) e, st_log S ++ [e], st_safe S, st_runs S) else (st_cap S, st_gr S, st_now S, tb_a (st_mem S) e, st_log S ++ [e], st_safe S, st_runs S)
def st_top (rs : st_R) : Nat := rs.foldl (fun m r => max m r.1) 0
def st_w (S : st_S) (s : Nat) : Option en_E := (st_runs S).foldl (fun o r => en_m o (r.2 s)) (st_mem S s)
def st_cov (S : st_S) (r c p : Nat) : Prop := tb_c (st_mem S) r c p ∨ ∃ t, t ∈ st_runs S ∧ tb_c t.2 r c p
noncomputable def st_v (S : st_S) (r c : Int32) : Option en_E := if 0 ≤ r.toInt ∧ r.toInt < 16 ∧ 0 ≤ c.toInt ∧ c.toInt < 8 then (match st_w S (r.toInt.toNat * 8 + c.toInt.toNat) with
  | none => none
  | some e => if en_k e = 0 ∧ st_now S < en_t e ∧ bo (st_cov S r.toInt.toNat c.toInt.toNat (en_p e)) = false then some e else none) else none
def st_cr (S : st_S) : st_S := (st_cap S, st_gr S, st_now S, ((st_log S).take (st_safe S)).foldl tb_a tb_0, (st_log S).take (st_safe S), st_safe S, st_runs S)
def st_ok (S : st_S) : Prop := tb_ok (st_mem S) ∧ (∀ e, e ∈ st_log S → en_ok e) ∧ (∀ t, t ∈ st_runs S → tb_ok t.2) ∧ st_safe S ≤ (st_log S).length
theorem st_g_fix (now grace : Nat) : ∀ (n : Nat) (rs : st_R), rs.length ≤ n → st_3 (st_g now grace n rs) = false
  | 0, rs, h => by
    have : rs = [] := List.length_eq_zero_iff.mp (by omega)
    subst this
    rfl
  | n + 1, rs, h => by
    unfold st_g
    split
    · next h3 =>
      refine st_g_fix now grace n _ ?_
      have h4 := of_decide_eq_true h3
      unfold st_j
      rw [List.length_append, List.length_take]
      simp
      omega
    · next h3 => exact Bool.eq_false_iff.mpr h3
