def bI (b : Bool) : Int32 := if b = true then 1 else 0
theorem bI_t {b : Bool} (h : b = true) : bI b = 1 := if_pos h
theorem bI_f {b : Bool} (h : b = false) : bI b = 0 := by subst h; rfl
theorem bI_or (b : Bool) : bI b = 0 ∨ bI b = 1 := by cases b <;> simp [bI]
theorem bI_0 {b : Bool} : bI b = 0 ↔ b = false := by cases b <;> simp [bI]
def cw_e (F : Nat → Prop) (M : mp_M) (q : Nat) (e : en_E) : Prop := ¬ F q ∧ M q = some (.inr (ci_E, [.int (nI (en_k e)), .int (nI (en_s e)), .int (nI (en_p e)), .int (en_v e), .int (nI (en_t e))]))
def cw_o (F : Nat → Prop) (M : mp_M) (o : Option Nat) (w : Option en_E) : Prop := (o = none ∧ w = none) ∨ ∃ (q : Nat) (e : en_E), o = some q ∧ w = some e ∧ cw_e F M q e
def cw_f (F : Nat → Prop) (M : mp_M) (f : Nat → Option Nat) (T : tb_T) : Prop := ∀ s, s < 704 → cw_o F M (f s) (T s)
abbrev ar_q (c : ClassId) (n : Nat) (f : Nat → Option Nat) : va_E := .inl (c, n, .inr (.inr (.inr (.inr f))))
abbrev ar_i (c : ClassId) (n : Nat) (f : Nat → Int32) : va_E := .inl (c, n, .inl f)
abbrev ob_T (tier sl : Nat) (T : tb_T) : va_E := .inr (ci_T, [.int (nI tier), .ref sl, .int (nI (tb_n T)), .int (nI (tb_w T))])
theorem ob_Tc {tier sl : Nat} {T T' : tb_T} (h1 : tb_n T = tb_n T') (h2 : tb_w T = tb_w T') : ob_T tier sl T = ob_T tier sl T' := by
  unfold ob_T
  rw [h1, h2]
theorem ob_T0 {tier sl : Nat} : ob_T tier sl tb_0 = .inr (ci_T, [.int (nI tier), .ref sl, .int (nI 0), .int (nI 0)]) := by
  show (Sum.inr (ci_T, [Value.int (nI tier), .ref sl, .int (nI (tb_n tb_0)), .int (nI (tb_w tb_0))]) : va_E) = _
  rw [tb_n_0, tb_w_0]
def cw_t (g : gx_T) (F : Nat → Prop) (M : mp_M) (a sl tier : Nat) (T : tb_T) : Prop := ¬ F a ∧ ¬ F sl ∧ tb_ok T ∧ M a = some (ob_T tier sl T) ∧ ∃ f : Nat → Option Nat, M sl = some (ar_q (gx_E g) 704 f) ∧ cw_f F M f T
theorem ne_o {M : mp_M} {q a c1 c2 : Nat} {f1 f2 : List Value} (h1 : M q = some (.inr (c1, f1))) (h2 : M a = some (.inr (c2, f2))) (hc : c1 ≠ c2) : q ≠ a := by
  intro h
  subst h
  rw [h1] at h2
  cases h2
  exact hc rfl
theorem ne_a {M : mp_M} {q a : Nat} {u : Nat × List Value} {y : ClassId × vp_A} (h1 : M q = some (.inr u)) (h2 : M a = some (.inl y)) : q ≠ a := by
  intro h
  subst h
  rw [h1] at h2
  cases h2
theorem ne_n {M : mp_M} {q a : Nat} {u : va_E} (h1 : M q = some u) (h2 : M a = none) : q ≠ a := by
  intro h
  subst h
  rw [h1] at h2
  cases h2

def nE (P : Nat → Prop) (M : mp_M) : Prop := ∀ (q : Nat) (fs : List Value), P q → M q ≠ some (.inr (ci_E, fs))
theorem cw_e.k {F P : Nat → Prop} {M M' : mp_M} {q : Nat} {e : en_E} (h : cw_e F M q e) (hk : mp_k P M M') (hn : nE P M) : cw_e F M' q e := ⟨h.1, hk _ _ (fun z => hn q _ z h.2) h.2⟩
theorem cw_o.k {F P : Nat → Prop} {M M' : mp_M} {o : Option Nat} {w : Option en_E} (h : cw_o F M o w) (hk : mp_k P M M') (hn : nE P M) : cw_o F M' o w := by
  rcases h with h | ⟨q, e, h1, h2, h3⟩
  · exact Or.inl h
  · exact Or.inr ⟨q, e, h1, h2, h3.k hk hn⟩
theorem cw_f.k {F P : Nat → Prop} {M M' : mp_M} {f : Nat → Option Nat} {T : tb_T} (h : cw_f F M f T) (hk : mp_k P M M') (hn : nE P M) : cw_f F M' f T := fun s hs => (h s hs).k hk hn
theorem cw_t.k {g : gx_T} {F P : Nat → Prop} {M M' : mp_M} {a sl tier : Nat} {T : tb_T} (h : cw_t g F M a sl tier T) (hk : mp_k P M M') (hn : nE P M) (ha : ¬ P a) (hs : ¬ P sl) : cw_t g F M' a sl tier T := by
  obtain ⟨h1, h2, h3, h4, f, h5, h6⟩ := h
  exact ⟨h1, h2, h3, hk _ _ ha h4, f, hk _ _ hs h5, h6.k hk hn⟩
theorem nE_t {g : gx_T} {F : Nat → Prop} {M : mp_M} {a sl tier : Nat} {T : tb_T} (h : cw_t g F M a sl tier T) : nE (fun q => q = a ∨ q = sl) M := by
  obtain ⟨h1, h2, h3, h4, f, h5, h6⟩ := h
  intro q fs hq
  rcases hq with rfl | rfl
  · rw [h4]
    intro z
    cases z
  · rw [h5]
    intro z
    cases z
theorem nE_f {F : Nat → Prop} {M : mp_M} {P : Nat → Prop} (h : ∀ q, P q → F q) {q : Nat} {e : en_E} (he : cw_e F M q e) : ¬ P q := fun z => he.1 (h q z)
theorem cw_t_up {g : gx_T} {F : Nat → Prop} {M : mp_M} {a sl tier tier0 sl0 : Nat} {T0 T' : tb_T} {f0 f' : Nat → Option Nat} (ha : ¬ F a) (hs : ¬ F sl) (hMa : M a = some (ob_T tier0 sl0 T0)) (hMs : M sl = some (ar_q (gx_E g) 704 f0)) (hok : tb_ok T') (hf : cw_f F M f' T') : cw_t g F (mp_u (mp_u M sl (ar_q (gx_E g) 704 f')) a (ob_T tier sl T')) a sl tier T' := by
  have hne : sl ≠ a := fun z => ne_a hMa hMs z.symm
  refine ⟨ha, hs, hok, mp_us, f', by rw [mp_un hne]; exact mp_us, fun s h => ?_⟩
  rcases hf s h with h1 | ⟨q, e, h1, h2, h3⟩
  · exact Or.inl h1
  · refine Or.inr ⟨q, e, h1, h2, h3.1, ?_⟩
    rw [mp_un (ne_o h3.2 hMa (by decide)), mp_un (ne_a h3.2 hMs)]
    exact h3.2
theorem cw_t_kp {M : mp_M} {a sl : Nat} {A B : va_E} : mp_k (fun q => q = a ∨ q = sl) M (mp_u (mp_u M sl A) a B) := (mp_k.up (Or.inr rfl)).tr (mp_k.up (Or.inl rfl))
theorem en_w_I {e f : en_E} (he : en_ok e) (hf : en_ok f) : en_w e f = true ↔ (nI (en_p f) < nI (en_p e) ∨ (nI (en_p e) = nI (en_p f) ∧ (nI (en_k f) < nI (en_k e) ∨ (nI (en_k e) = nI (en_k f) ∧ (en_v f < en_v e ∨ (en_v e = en_v f ∧ nI (en_t f) < nI (en_t e))))))) := by
  obtain ⟨h1, h2, h3, h4, h5, h6, h7, h8⟩ := he
  obtain ⟨f1, f2, f3, f4, f5, f6, f7, f8⟩ := hf
  rw [en_w_t, nI_ltI (by omega) (by omega), nI_eq (by omega) (by omega), nI_ltI (by omega) (by omega), nI_eq (by omega) (by omega), Int32.lt_iff_toInt_lt, ← Int32.toInt_inj, nI_ltI (by omega) (by omega)]
def pl (r c : Int32) : Bool := decide (0 ≤ r.toInt ∧ r.toInt < 16 ∧ 0 ≤ c.toInt ∧ c.toInt < 8)
def sp_ok (p : Int32) : Bool := decide (0 ≤ p.toInt ∧ p.toInt ≤ 9999)
theorem i0 : (0 : Int32).toInt = 0 := by decide
theorem pl_nI {r c : Nat} (hr : r < 16) (hc : c < 8) : pl (nI r) (nI c) = true := by
  unfold pl
  rw [nI_toInt (by omega), nI_toInt (by omega)]
  exact decide_eq_true ⟨by omega, by omega, by omega, by omega⟩
theorem pl_of {r c : Int32} (h : pl r c = true) : ∃ i j : Nat, i < 16 ∧ j < 8 ∧ r = nI i ∧ c = nI j := by
  obtain ⟨h1, h2, h3, h4⟩ := of_decide_eq_true h
  obtain ⟨i, a1, rfl⟩ := nI_of (x := r) (by rw [Int32.lt_iff_toInt_lt, i0]; omega)
  obtain ⟨j, a2, rfl⟩ := nI_of (x := c) (by rw [Int32.lt_iff_toInt_lt, i0]; omega)
  rw [nI_toInt a1] at h1 h2
  rw [nI_toInt a2] at h3 h4
  exact ⟨i, j, by omega, by omega, rfl, rfl⟩
theorem sp_of {p : Int32} (h : sp_ok p = true) : ∃ i : Nat, i ≤ 9999 ∧ p = nI i := by
  obtain ⟨h1, h2⟩ := of_decide_eq_true h
  obtain ⟨i, a1, rfl⟩ := nI_of (x := p) (by rw [Int32.lt_iff_toInt_lt, i0]; omega)
  rw [nI_toInt a1] at h1 h2
  exact ⟨i, by omega, rfl⟩
theorem tb_i_s {e : en_E} : tb_i (some e) = decide (en_k e = 2) := rfl
theorem tb_a_n {T : tb_T} {e : en_E} (h : T (en_s e) = none) : tb_a T e = va_up T (en_s e) (some e) := by
  unfold tb_a
  rw [h]
  rfl
theorem tb_a_w {T : tb_T} {e f : en_E} (h : T (en_s e) = some f) (hw : en_w e f = true) : tb_a T e = va_up T (en_s e) (some e) := by
  unfold tb_a
  rw [h]
  simp only [en_m, hw, if_true]
theorem tb_a_l {T : tb_T} {e f : en_E} (h : T (en_s e) = some f) (hw : en_w e f = false) : tb_a T e = T := by
  unfold tb_a
  rw [h]
  simp only [en_m, hw]
  funext s
  by_cases hs : s = en_s e
  · subst hs
    rw [va_up_self, h]
    rfl
  · rw [va_up_ne _ _ hs]
theorem cw_f_up {F : Nat → Prop} {M : mp_M} {f : Nat → Option Nat} {T : tb_T} (h : cw_f F M f T) {s : Nat} {o : Option Nat} {w : Option en_E} (ho : cw_o F M o w) : cw_f F M (va_up f s o) (va_up T s w) := by
  intro j hj
  by_cases hs : j = s
  · subst hs
    rw [va_up_self, va_up_self]
    exact ho
  · rw [va_up_ne _ _ hs, va_up_ne _ _ hs]
    exact h j hj

