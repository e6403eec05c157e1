def rl_r (fe fo fk ft : Nat → Int32) (el : List en_E) (ow mk : Nat → Nat) (marks : Nat) (rs : st_R) : Prop := lw fe el ∧ (∀ i, i < el.length → fo i = nI (ow i) ∧ ow i ≤ marks) ∧ (∀ k, k < rs.length → fk k = nI (mk k) ∧ 0 < mk k ∧ mk k ≤ marks ∧ ft k = nI (st_ti rs k)) ∧ (∀ k k', k < rs.length → k' < rs.length → mk k = mk k' → k = k') ∧ (∀ i, i < el.length → ow i = 0 ∨ ∃ k, k < rs.length ∧ ow i = mk k) ∧ (∀ k, k < rs.length → tr el (fun i => ow i = mk k) (st_tb rs k))
theorem j1_hit {ow mk : Nat → Nat} {i0 K mx i : Nat} (h : j1 ow mk i0 K mx i = mk K) (hK : i0 ≤ K) (hmx : mk K ≠ mx) : j1 ow mk i0 (K + 1) mx i = mx := by
  by_cases hG : jG ow mk i0 K i
  · unfold j1 at h
    rw [if_pos (bo_t.mpr hG)] at h
    exact absurd h.symm hmx
  · rw [j1_no hG] at h
    exact if_pos (bo_t.mpr ⟨K, hK, by omega, h⟩)
theorem j1_miss {ow mk : Nat → Nat} {i0 K mx i : Nat} (h : j1 ow mk i0 K mx i ≠ mk K) : j1 ow mk i0 (K + 1) mx i = j1 ow mk i0 K mx i := by
  by_cases hG : jG ow mk i0 K i
  · obtain ⟨k, h1, h2, h3⟩ := id hG
    unfold j1
    rw [if_pos (bo_t.mpr hG), if_pos (bo_t.mpr ⟨k, h1, by omega, h3⟩)]
  · rw [j1_no hG] at h
    rw [j1_no hG, j1_no]
    rintro ⟨k, h1, h2, h3⟩
    by_cases hk : k = K
    · subst hk
      exact h h3
    · exact hG ⟨k, h1, by omega, h3⟩
theorem va_cm {α : Type} (f : Nat → α) {i j : Nat} (a c : α) (h : i ≠ j) : va_up (va_up f i a) j c = va_up (va_up f j c) i a := by
  funext q
  by_cases h1 : q = j
  · subst h1
    rw [va_up_self, va_up_ne _ _ (Ne.symm h), va_up_self]
  · rw [va_up_ne _ _ h1]
    by_cases h2 : q = i
    · subst h2
      rw [va_up_self, va_up_self]
    · rw [va_up_ne _ _ h2, va_up_ne _ _ h2, va_up_ne _ _ h1]

def ao (fo : Nat → Int32) (n : Nat) (o : Nat → Nat) : Prop := ∀ i, i < n → fo i = nI (o i)
theorem ao_up {fo : Nat → Int32} {n : Nat} {o o' : Nat → Nat} {E : Nat} {v : Int32} (h : ao fo n o) (hv : v = nI (o' E)) (ho : ∀ i, i < n → i ≠ E → o' i = o i) : ao (upd fo E v) n o' := by
  intro i hi
  unfold upd
  by_cases hE : i = E
  · subst hE
    rw [if_pos rfl, hv]
  · rw [if_neg hE, h i hi, ho i hi hE]
def mixo (o o' : Nat → Nat) (E i : Nat) : Nat := if i < E then o' i else o i
theorem mixo_0 {o o' : Nat → Nat} : mixo o o' 0 = o := by
  funext i
  exact if_neg (Nat.not_lt_zero i)
theorem mixo_E {o o' : Nat → Nat} {E : Nat} : mixo o o' E E = o E := if_neg (Nat.lt_irrefl E)
theorem mixo_s {o o' : Nat → Nat} {E : Nat} : mixo o o' (E + 1) E = o' E := if_pos (Nat.lt_succ_self E)
theorem mixo_n {o o' : Nat → Nat} {E i : Nat} (h : i ≠ E) : mixo o o' (E + 1) i = mixo o o' E i := by
  unfold mixo
  by_cases h1 : i < E
  · rw [if_pos h1, if_pos (by omega)]
  · rw [if_neg h1, if_neg (by omega)]
theorem mixo_or {o o' : Nat → Nat} {E i : Nat} : mixo o o' E i = o' i ∨ mixo o o' E i = o i := by
  unfold mixo
  split
  · exact Or.inl rfl
  · exact Or.inr rfl
theorem mixo_up {o o' : Nat → Nat} {E : Nat} : va_up (mixo o o' E) E (o' E) = mixo o o' (E + 1) := by
  funext i
  by_cases h : i = E
  · subst h
    rw [va_up_self, mixo_s]
  · rw [va_up_ne _ _ h, mixo_n h]
noncomputable def jall (el : List en_E) (now gr : Nat) (all : Bool) (ow mk : Nat → Nat) (i0 K mx : Nat) : Nat → Nat := if all = true then j4 el now gr (j3 el (j2 el (j1 ow mk i0 K mx) mx) mx) mx else j3 el (j2 el (j1 ow mk i0 K mx) mx) mx

