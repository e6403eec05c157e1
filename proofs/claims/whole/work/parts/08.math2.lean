def tb_mi (T U : tb_T) (i : Nat) : tb_T := fun s => if s < i then en_m (T s) (U s) else T s
theorem tb_mi_0 {T U : tb_T} : tb_mi T U 0 = T := by
  funext s
  exact if_neg (Nat.not_lt_zero s)
theorem tb_mi_e {T U : tb_T} (hT : tb_ok T) (hU : tb_ok U) : tb_mi T U 704 = tb_m T U := by
  funext s
  unfold tb_mi tb_m
  by_cases hs : s < 704
  · rw [if_pos hs]
  · rw [if_neg hs]
    cases h : T s with
    | some e => exact absurd (tb_lt hT h) hs
    | none =>
      cases h2 : U s with
      | some e => exact absurd (tb_lt hU h2) hs
      | none => rfl
theorem tb_mi_n {T U : tb_T} {i : Nat} (h : U i = none) : tb_mi T U (i + 1) = tb_mi T U i := by
  funext s
  unfold tb_mi
  by_cases h1 : s < i
  · rw [if_pos h1, if_pos (by omega)]
  · rw [if_neg h1]
    by_cases h2 : s = i
    · subst h2
      rw [if_pos (by omega), h]
      cases T s <;> rfl
    · rw [if_neg (by omega)]
theorem tb_mi_s {T U : tb_T} {i : Nat} {e : en_E} (h : U i = some e) (hs : en_s e = i) : tb_a (tb_mi T U i) e = tb_mi T U (i + 1) := by
  funext s
  unfold tb_a
  rw [hs]
  by_cases h2 : s = i
  · subst h2
    rw [va_up_self]
    unfold tb_mi
    rw [if_neg (Nat.lt_irrefl _), if_pos (Nat.lt_succ_self _), h]
  · rw [va_up_ne _ _ h2]
    unfold tb_mi
    by_cases h3 : s < i
    · rw [if_pos h3, if_pos (by omega)]
    · rw [if_neg h3, if_neg (by omega)]
theorem tb_ok_mi {T U : tb_T} (hT : tb_ok T) (hU : tb_ok U) (i : Nat) : tb_ok (tb_mi T U i) := by
  intro s e h
  unfold tb_mi at h
  split at h
  · exact tb_ok_m hT hU s e h
  · exact hT s e h
noncomputable def tb_di (T : tb_T) (i : Nat) : tb_T := fun s => if s < i then tb_d T s else T s
theorem tb_d_w {T : tb_T} {s : Nat} {e : en_E} (h : T s = some e) (hk : en_k e = 2) : tb_d T s = some e := by
  unfold tb_d
  rw [h]
  simp only
  rw [if_neg]
  intro z
  exact (bo_t.mp z).1 hk
theorem tb_d_s {T : tb_T} {s : Nat} {e : en_E} (h : tb_d T s = some e) : T s = some e := by
  unfold tb_d at h
  cases hs : T s with
  | none => rw [hs] at h; cases h
  | some f =>
    rw [hs] at h
    simp only at h
    split at h
    · cases h
    · exact h
theorem tb_di_s {T : tb_T} {i s : Nat} {e : en_E} (h : tb_di T i s = some e) : T s = some e := by
  unfold tb_di at h
  split at h
  · exact tb_d_s h
  · exact h
theorem tb_di_c {T : tb_T} {i r c p : Nat} : tb_c (tb_di T i) r c p ↔ tb_c T r c p := by
  constructor
  · rintro ⟨s, e, h1, h2⟩
    exact ⟨s, e, tb_di_s h1, h2⟩
  · rintro ⟨s, e, h1, h2, h3⟩
    refine ⟨s, e, ?_, h2, h3⟩
    unfold tb_di
    split
    · exact tb_d_w h1 h2
    · exact h1
theorem tb_di_0 {T : tb_T} : tb_di T 0 = T := by
  funext s
  exact if_neg (Nat.not_lt_zero s)
theorem tb_di_e {T : tb_T} (h : tb_ok T) : tb_di T 128 = tb_d T := by
  funext s
  unfold tb_di
  by_cases hs : s < 128
  · rw [if_pos hs]
  · rw [if_neg hs]
    cases h2 : T s with
    | none => unfold tb_d; rw [h2]
    | some e =>
      obtain ⟨g1, g2⟩ := h s e h2
      rw [tb_d_w h2 (Classical.byContradiction fun z => hs (by rw [← g2]; exact (en_s_128 g1).mpr z))]
theorem tb_di_n {T : tb_T} {i : Nat} (h : tb_d T i = T i) : tb_di T (i + 1) = tb_di T i := by
  funext s
  unfold tb_di
  by_cases h1 : s < i
  · rw [if_pos h1, if_pos (by omega)]
  · rw [if_neg h1]
    by_cases h2 : s = i
    · subst h2
      rw [if_pos (by omega), h]
    · rw [if_neg (by omega)]
theorem tb_di_d {T : tb_T} {i : Nat} (h : tb_d T i = none) : va_up (tb_di T i) i none = tb_di T (i + 1) := by
  funext s
  by_cases h2 : s = i
  · subst h2
    rw [va_up_self]
    unfold tb_di
    rw [if_pos (Nat.lt_succ_self _), h]
  · rw [va_up_ne _ _ h2]
    unfold tb_di
    by_cases h3 : s < i
    · rw [if_pos h3, if_pos (by omega)]
    · rw [if_neg h3, if_neg (by omega)]
theorem tb_ok_di {T : tb_T} (h : tb_ok T) (i : Nat) : tb_ok (tb_di T i) := fun s e he => h s e (tb_di_s he)
def tb_oi (now grace : Nat) (T : tb_T) (i : Nat) : tb_T := fun s => if s < i then tb_o now grace T s else T s
theorem tb_oi_0 {now grace : Nat} {T : tb_T} : tb_oi now grace T 0 = T := by
  funext s
  exact if_neg (Nat.not_lt_zero s)
theorem tb_oi_e {now grace : Nat} {T : tb_T} (h : tb_ok T) : tb_oi now grace T 704 = tb_o now grace T := by
  funext s
  unfold tb_oi
  by_cases hs : s < 704
  · rw [if_pos hs]
  · rw [if_neg hs]
    cases h2 : T s with
    | none => unfold tb_o; rw [h2]
    | some e => exact absurd (tb_lt h h2) hs
theorem tb_oi_n {now grace : Nat} {T : tb_T} {i : Nat} (h : tb_o now grace T i = T i) : tb_oi now grace T (i + 1) = tb_oi now grace T i := by
  funext s
  unfold tb_oi
  by_cases h1 : s < i
  · rw [if_pos h1, if_pos (by omega)]
  · rw [if_neg h1]
    by_cases h2 : s = i
    · subst h2
      rw [if_pos (by omega), h]
    · rw [if_neg (by omega)]
theorem tb_oi_d {now grace : Nat} {T : tb_T} {i : Nat} (h : tb_o now grace T i = none) : va_up (tb_oi now grace T i) i none = tb_oi now grace T (i + 1) := by
  funext s
  by_cases h2 : s = i
  · subst h2
    rw [va_up_self]
    unfold tb_oi
    rw [if_pos (Nat.lt_succ_self _), h]
  · rw [va_up_ne _ _ h2]
    unfold tb_oi
    by_cases h3 : s < i
    · rw [if_pos h3, if_pos (by omega)]
    · rw [if_neg h3, if_neg (by omega)]
theorem tb_oi_i {now grace : Nat} {T : tb_T} {i : Nat} : tb_oi now grace T i i = T i := if_neg (Nat.lt_irrefl i)
theorem tb_di_i {T : tb_T} {i : Nat} : tb_di T i i = T i := if_neg (Nat.lt_irrefl i)
theorem tb_mi_i {T U : tb_T} {i : Nat} : tb_mi T U i i = T i := if_neg (Nat.lt_irrefl i)
theorem old_iff {now t grace : Nat} (h1 : now ≤ 100000) (h2 : t < 2 ^ 31) (h3 : grace ≤ 100) : nI now - nI t < nI grace ↔ ¬ (t + grace ≤ now) := by
  rw [Int32.lt_iff_toInt_lt, Int32.toInt_sub, nI_toInt (by omega), nI_toInt h2, nI_toInt (by omega)]
  rw [Int.bmod_eq_of_le_mul_two (by omega) (by omega)]
  omega
