abbrev ob_M (A : Nat → Nat) (cap gr now mem logs safe fl runs marks : Nat) : List Value := [.int (nI cap), .int (nI gr), .int (nI now), .int (nI mem), .ref (A 0), .int (nI logs), .int (nI safe), .ref (A 1), .int (nI fl), .ref (A 2), .ref (A 3), .int (nI runs), .int (nI marks), .ref (A 4), .ref (A 5), .ref (A 6)]
def ra_sz (i : Nat) : Nat := match i with
  | 0 => 168
  | 1 => 3640
  | 2 => 3640
  | 3 => 520
  | 4 => 520
  | 5 => 520
  | _ => 7
theorem ra_sz_lt : ∀ i, ra_sz i < 2 ^ 31
  | 0 => by decide
  | 1 => by decide
  | 2 => by decide
  | 3 => by decide
  | 4 => by decide
  | 5 => by decide
  | _ + 6 => by show 7 < 2 ^ 31; decide
def ra_M (g : gx_T) (M : mp_M) (b : Nat) (A : Nat → Nat) (cap gr now mem logs safe fl runs marks : Nat) (f : Nat → Nat → Int32) : Prop := M b = some (.inr (ci_M, ob_M A cap gr now mem logs safe fl runs marks)) ∧ (∀ i, i < 7 → M (A i) = some (ar_i (gx_I g) (ra_sz i) (f i))) ∧ (∀ i j, i < 7 → j < 7 → A i = A j → i = j)
def ra_P (b : Nat) (A : Nat → Nat) : Nat → Prop := fun q => q = b ∨ ∃ i, i < 7 ∧ q = A i
section RA
variable {g : gx_T} {M : mp_M} {b : Nat} {A : Nat → Nat} {cap gr now mem logs safe fl runs marks : Nat} {f : Nat → Nat → Int32}
theorem ra_ne (h : ra_M g M b A cap gr now mem logs safe fl runs marks f) {i : Nat} (hi : i < 7) : b ≠ A i := ne_a h.1 (h.2.1 i hi)
theorem ra_up (h : ra_M g M b A cap gr now mem logs safe fl runs marks f) (i : Nat) (hi : i < 7) (v : Nat → Int32) : ra_M g (mp_u M (A i) (ar_i (gx_I g) (ra_sz i) v)) b A cap gr now mem logs safe fl runs marks (va_up f i v) := by
  refine ⟨(mp_un (ra_ne h hi)).trans h.1, fun j hj => ?_, h.2.2⟩
  by_cases hij : j = i
  · subst hij
    rw [mp_us, va_up_self]
  · rw [mp_un (fun z => hij (h.2.2 j i hj hi z)), va_up_ne _ _ hij]
    exact h.2.1 j hj
theorem ra_put (h : ra_M g M b A cap gr now mem logs safe fl runs marks f) {now' mem' logs' safe' fl' runs' marks' : Nat} : ra_M g (mp_u M b (.inr (ci_M, ob_M A cap gr now' mem' logs' safe' fl' runs' marks'))) b A cap gr now' mem' logs' safe' fl' runs' marks' f :=
  ⟨mp_us, fun j hj => (mp_un (Ne.symm (ra_ne h hj))).trans (h.2.1 j hj), h.2.2⟩
theorem ra_ku {i : Nat} (hi : i < 7) {e : va_E} : mp_k (ra_P b A) M (mp_u M (A i) e) := mp_k.up (Or.inr ⟨i, hi, rfl⟩)
theorem ra_kb {e : va_E} : mp_k (ra_P b A) M (mp_u M b e) := mp_k.up (Or.inl rfl)
end RA

def tr (el : List en_E) (P : Nat → Prop) (T : tb_T) : Prop := (∀ (i : Nat) (e : en_E), el[i]? = some e → P i → T (en_s e) = some e) ∧ (∀ (s : Nat) (e : en_E), T s = some e → ∃ i : Nat, el[i]? = some e ∧ P i) ∧ (∀ (i j : Nat) (e e' : en_E), el[i]? = some e → el[j]? = some e' → P i → P j → en_s e = en_s e' → i = j)
def lw (f : Nat → Int32) (el : List en_E) : Prop := ∀ (i : Nat) (e : en_E), el[i]? = some e → rw_e f (7 * i) e ∧ en_ok e
theorem cn_bij (sl : Nat → Nat) : ∀ (n : Nat) (P Q : Nat → Bool), (∀ i, i < n → P i = true → sl i < 704 ∧ Q (sl i) = true) → (∀ s, s < 704 → Q s = true → ∃ i, i < n ∧ P i = true ∧ sl i = s) → (∀ i j, i < n → j < n → P i = true → P j = true → sl i = sl j → i = j) → cn P n = cn Q 704
  | 0, P, Q, _, h2, _ => by
    have h : cn Q 704 = 0 := cn_z 704 (fun s hs => by
      cases hq : Q s with
      | false => rfl
      | true =>
        obtain ⟨i, hi, -⟩ := h2 s hs hq
        omega)
    show 0 = cn Q 704
    exact h.symm
  | n + 1, P, Q, h1, h2, h3 => by
    show cn P n + (if P n = true then 1 else 0) = cn Q 704
    cases hp : P n with
    | false =>
      have ih := cn_bij sl n P Q (fun i hi hpi => h1 i (by omega) hpi) (fun s hs hq => ?_) (fun i j hi hj => h3 i j (by omega) (by omega))
      · rw [ih]
        simp
      · obtain ⟨i, hi, h4, h5⟩ := h2 s hs hq
        refine ⟨i, ?_, h4, h5⟩
        by_cases hin : i = n
        · subst hin
          rw [hp] at h4
          cases h4
        · omega
    | true =>
      obtain ⟨g1, g2⟩ := h1 n (by omega) hp
      have ih := cn_bij sl n P (fun s => Q s && decide (s ≠ sl n)) (fun i hi hpi => ?_) (fun s hs hq => ?_) (fun i j hi hj => h3 i j (by omega) (by omega))
      · rw [ih, if_pos rfl]
        refine (cn_inc (P := fun s => Q s && decide (s ≠ sl n)) (Q := Q) (s := sl n) 704 g1 ?_ g2 (fun j hj hne => ?_)).symm
        · simp
        · simp [hne]
      · obtain ⟨a1, a2⟩ := h1 i (by omega) hpi
        refine ⟨a1, ?_⟩
        have : sl i ≠ sl n := fun z => by
          have := h3 i n (by omega) (by omega) hpi hp z
          omega
        simp [a2, this]
      · have hq2 : Q s = true ∧ s ≠ sl n := by simpa using hq
        obtain ⟨i, hi, h4, h5⟩ := h2 s hs hq2.1
        refine ⟨i, ?_, h4, h5⟩
        by_cases hin : i = n
        · subst hin
          exact absurd h5.symm hq2.2
        · omega
noncomputable def tr_P (el : List en_E) (P : Nat → Prop) (i : Nat) : Bool := bo (P i)
theorem tr_n {el : List en_E} {P : Nat → Prop} {T : tb_T} (h : tr el P T) (ok : tb_ok T) (oke : ∀ (i : Nat) (e : en_E), el[i]? = some e → en_ok e) : cn (fun i => bo (P i)) el.length = tb_n T := by
  refine cn_bij (fun i => en_s (el.getD i (0, 0, 0, 0, 0, 0, 0))) el.length _ _ (fun i hi hp => ?_) (fun s hs hq => ?_) (fun i j hi hj hp1 hp2 hs => ?_)
  · have e1 : el[i]? = some (el.getD i (0, 0, 0, 0, 0, 0, 0)) := by simp [hi]
    refine ⟨en_s_lt (oke i _ e1), ?_⟩
    show (T _).isSome = true
    rw [h.1 i _ e1 (bo_t.mp hp)]
    rfl
  · have hq2 : (T s).isSome = true := hq
    cases he : T s with
    | none => rw [he] at hq2; cases hq2
    | some e =>
      obtain ⟨i, h1, h2⟩ := h.2.1 s e he
      have hi := (List.getElem?_eq_some_iff.mp h1).1
      refine ⟨i, hi, bo_t.mpr h2, ?_⟩
      have e1 : el.getD i (0, 0, 0, 0, 0, 0, 0) = e := by simp [h1]
      show en_s (el.getD i _) = s
      rw [e1]
      exact (ok s e he).2
  · have e1 : el[i]? = some (el.getD i (0, 0, 0, 0, 0, 0, 0)) := by simp [hi]
    have e2 : el[j]? = some (el.getD j (0, 0, 0, 0, 0, 0, 0)) := by simp [hj]
    exact h.2.2 i j _ _ e1 e2 (bo_t.mp hp1) (bo_t.mp hp2) hs
theorem tr_w {el : List en_E} {P : Nat → Prop} {T : tb_T} (h : tr el P T) (ok : tb_ok T) (oke : ∀ (i : Nat) (e : en_E), el[i]? = some e → en_ok e) : cn (fun i => bo (P i) && tb_i el[i]?) el.length = tb_w T := by
  refine cn_bij (fun i => en_s (el.getD i (0, 0, 0, 0, 0, 0, 0))) el.length _ _ (fun i hi hp => ?_) (fun s hs hq => ?_) (fun i j hi hj hp1 hp2 hs => ?_)
  · have e1 : el[i]? = some (el.getD i (0, 0, 0, 0, 0, 0, 0)) := by simp [hi]
    have hp2 : bo (P i) = true ∧ tb_i el[i]? = true := by simpa using hp
    refine ⟨en_s_lt (oke i _ e1), ?_⟩
    show tb_i (T _) = true
    rw [h.1 i _ e1 (bo_t.mp hp2.1), ← e1]
    exact hp2.2
  · have hq2 : tb_i (T s) = true := hq
    cases he : T s with
    | none => rw [he] at hq2; cases hq2
    | some e =>
      obtain ⟨i, h1, h2⟩ := h.2.1 s e he
      have hi := (List.getElem?_eq_some_iff.mp h1).1
      refine ⟨i, hi, ?_, ?_⟩
      · have : bo (P i) = true := bo_t.mpr h2
        rw [he] at hq2
        simp [this, h1, hq2]
      · have e1 : el.getD i (0, 0, 0, 0, 0, 0, 0) = e := by simp [h1]
        show en_s (el.getD i _) = s
        rw [e1]
        exact (ok s e he).2
  · have e1 : el[i]? = some (el.getD i (0, 0, 0, 0, 0, 0, 0)) := by simp [hi]
    have e2 : el[j]? = some (el.getD j (0, 0, 0, 0, 0, 0, 0)) := by simp [hj]
    have a1 : bo (P i) = true ∧ tb_i el[i]? = true := by simpa using hp1
    have a2 : bo (P j) = true ∧ tb_i el[j]? = true := by simpa using hp2
    exact h.2.2 i j _ _ e1 e2 (bo_t.mp a1.1) (bo_t.mp a2.1) hs

