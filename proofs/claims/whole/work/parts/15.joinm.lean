def jG (ow mk : Nat → Nat) (i0 K i : Nat) : Prop := ∃ k, i0 ≤ k ∧ k < K ∧ ow i = mk k
noncomputable def j1 (ow mk : Nat → Nat) (i0 K mx i : Nat) : Nat := if bo (jG ow mk i0 K i) = true then mx else ow i
def lo (el : List en_E) (i j : Nat) : Prop := ∃ e f : en_E, el[i]? = some e ∧ el[j]? = some f ∧ en_s e = en_s f ∧ (en_w f e = true ∨ (i < j ∧ en_w e f = false))
noncomputable def j2 (el : List en_E) (o : Nat → Nat) (mx i : Nat) : Nat := if bo (o i = mx ∧ ∃ j, o j = mx ∧ lo el i j) = true then 0 else o i
noncomputable def j3 (el : List en_E) (o : Nat → Nat) (mx i : Nat) : Nat := if bo (o i = mx ∧ ∃ e, el[i]? = some e ∧ en_k e ≠ 2 ∧ ∃ (j : Nat) (f : en_E), o j = mx ∧ el[j]? = some f ∧ en_cv f (en_r e) (en_c e) (en_p e)) = true then 0 else o i
noncomputable def j4 (el : List en_E) (now gr : Nat) (o : Nat → Nat) (mx i : Nat) : Nat := if bo (o i = mx ∧ ∃ e, el[i]? = some e ∧ en_t e + gr ≤ now) = true then 0 else o i
theorem lo_ii {el : List en_E} {i : Nat} : ¬ lo el i i := by
  rintro ⟨e, f, h1, h2, -, h3⟩
  cases h1.symm.trans h2
  rcases h3 with h3 | h3
  · rw [en_w_self] at h3
    cases h3
  · omega
theorem lo_tr {el : List en_E} {i j k : Nat} (h : lo el i j) (h2 : lo el j k) : lo el i k := by
  obtain ⟨e, f, a1, a2, a3, a4⟩ := h
  obtain ⟨f', d, b1, b2, b3, b4⟩ := h2
  cases a2.symm.trans b1
  refine ⟨e, d, a1, b2, a3.trans b3, ?_⟩
  rcases a4 with a4 | ⟨a4, a5⟩
  · rcases b4 with b4 | ⟨b4, b5⟩
    · exact Or.inl (en_w_tr b4 a4)
    · left
      cases hz : en_w d e with
      | true => rfl
      | false =>
        rw [en_w_tn hz b5] at a4
        cases a4
  · rcases b4 with b4 | ⟨b4, b5⟩
    · left
      cases hz : en_w d e with
      | true => rfl
      | false =>
        rw [en_w_tn a5 hz] at b4
        cases b4
    · exact Or.inr ⟨by omega, en_w_tn b5 a5⟩
theorem lo_tot {el : List en_E} {i j : Nat} {e f : en_E} (h1 : el[i]? = some e) (h2 : el[j]? = some f) (hs : en_s e = en_s f) (hne : i ≠ j) : lo el i j ∨ lo el j i := by
  cases hz : en_w f e with
  | true => exact Or.inl ⟨e, f, h1, h2, hs, Or.inl hz⟩
  | false =>
    cases hz2 : en_w e f with
    | true => exact Or.inr ⟨f, e, h2, h1, hs.symm, Or.inl hz2⟩
    | false =>
      rcases Nat.lt_or_gt_of_ne hne with h | h
      · exact Or.inl ⟨e, f, h1, h2, hs, Or.inr ⟨h, hz2⟩⟩
      · exact Or.inr ⟨f, e, h2, h1, hs.symm, Or.inr ⟨h, hz⟩⟩
theorem lo_max (el : List en_E) (P : Nat → Prop) : ∀ n, (∃ i, i < n ∧ P i) → ∃ t, t < n ∧ P t ∧ ∀ j, j < n → P j → ¬ lo el t j
  | 0, h => by
    obtain ⟨i, hi, -⟩ := h
    omega
  | n + 1, h => by
    by_cases hP : P n
    · by_cases h2 : ∃ i, i < n ∧ P i
      · obtain ⟨t, h3, h4, h5⟩ := lo_max el P n h2
        by_cases hl : lo el t n
        · refine ⟨n, by omega, hP, fun j hj hPj z => ?_⟩
          by_cases hjn : j = n
          · subst hjn
            exact lo_ii z
          · exact h5 j (by omega) hPj (lo_tr hl z)
        · refine ⟨t, by omega, h4, fun j hj hPj z => ?_⟩
          by_cases hjn : j = n
          · subst hjn
            exact hl z
          · exact h5 j (by omega) hPj z
      · refine ⟨n, by omega, hP, fun j hj hPj z => ?_⟩
        by_cases hjn : j = n
        · subst hjn
          exact lo_ii z
        · exact h2 ⟨j, by omega, hPj⟩
    · obtain ⟨i, hi, hPi⟩ := h
      have hin : i ≠ n := fun z => hP (z ▸ hPi)
      obtain ⟨t, h3, h4, h5⟩ := lo_max el P n ⟨i, by omega, hPi⟩
      refine ⟨t, by omega, h4, fun j hj hPj z => ?_⟩
      by_cases hjn : j = n
      · subst hjn
        exact hP hPj
      · exact h5 j (by omega) hPj z

theorem lo_top {el : List en_E} {o : Nat → Nat} {mx i : Nat} {e : en_E} (hi : o i = mx) (he : el[i]? = some e) : ∃ (t : Nat) (et : en_E), o t = mx ∧ el[t]? = some et ∧ en_s et = en_s e ∧ ∀ j, o j = mx → ¬ lo el t j := by
  obtain ⟨t, h1, ⟨et, h2, h3, h4⟩, h5⟩ := lo_max el (fun j => ∃ e', el[j]? = some e' ∧ o j = mx ∧ en_s e' = en_s e) el.length ⟨i, (List.getElem?_eq_some_iff.mp he).1, e, he, hi, rfl⟩
  refine ⟨t, et, h3, h2, h4, fun j hj z => ?_⟩
  obtain ⟨e1, f1, a1, a2, a3, -⟩ := id z
  cases h2.symm.trans a1
  exact h5 j (List.getElem?_eq_some_iff.mp a2).1 ⟨f1, a2, hj, a3.symm.trans h4⟩ z
theorem lo_top2 {el : List en_E} {o : Nat → Nat} {mx i : Nat} {e : en_E} (hi : o i = mx) (he : el[i]? = some e) (hd : ∃ j, o j = mx ∧ lo el i j) : ∃ t, o t = mx ∧ lo el i t ∧ ∀ j, o j = mx → ¬ lo el t j := by
  obtain ⟨t, et, h1, h2, h3, h4⟩ := lo_top hi he
  have hne : i ≠ t := by
    intro z
    subst z
    obtain ⟨j, a1, a2⟩ := hd
    exact h4 j a1 a2
  rcases lo_tot he h2 h3.symm hne with h | h
  · exact ⟨t, h1, h, h4⟩
  · exact absurd h (h4 i hi)
theorem j1_mx {ow mk : Nat → Nat} {i0 K mx i : Nat} (h : ow i ≠ mx) : j1 ow mk i0 K mx i = mx ↔ jG ow mk i0 K i := by
  unfold j1
  by_cases hG : jG ow mk i0 K i
  · rw [if_pos (bo_t.mpr hG)]
    exact ⟨fun _ => hG, fun _ => rfl⟩
  · rw [if_neg (by rw [bo_t]; exact hG)]
    exact ⟨fun z => absurd z h, fun z => absurd z hG⟩
theorem j1_no {ow mk : Nat → Nat} {i0 K mx i : Nat} (h : ¬ jG ow mk i0 K i) : j1 ow mk i0 K mx i = ow i := if_neg (by rw [bo_t]; exact h)
theorem j1_0 {ow mk : Nat → Nat} {i0 mx : Nat} : j1 ow mk i0 i0 mx = ow := by
  funext i
  exact j1_no (fun ⟨k, h1, h2, _⟩ => by omega)
theorem j2_mx {el : List en_E} {o : Nat → Nat} {mx i : Nat} (h0 : mx ≠ 0) : j2 el o mx i = mx ↔ (o i = mx ∧ ∀ j, o j = mx → ¬ lo el i j) := by
  unfold j2
  by_cases hd : o i = mx ∧ ∃ j, o j = mx ∧ lo el i j
  · rw [if_pos (bo_t.mpr hd)]
    obtain ⟨h1, j, h2, h3⟩ := hd
    exact ⟨fun z => absurd z.symm h0, fun z => absurd h3 (z.2 j h2)⟩
  · rw [if_neg (by rw [bo_t]; exact hd)]
    exact ⟨fun z => ⟨z, fun j hj hl => hd ⟨z, j, hj, hl⟩⟩, fun z => z.1⟩
theorem j2_no {el : List en_E} {o : Nat → Nat} {mx i : Nat} (h : o i ≠ mx) : j2 el o mx i = o i := if_neg (by rw [bo_t]; exact fun z => h z.1)
theorem j2_or {el : List en_E} {o : Nat → Nat} {mx i : Nat} : j2 el o mx i = 0 ∨ j2 el o mx i = o i := by
  unfold j2
  split
  · exact Or.inl rfl
  · exact Or.inr rfl
theorem j3_mx {el : List en_E} {o : Nat → Nat} {mx i : Nat} (h0 : mx ≠ 0) : j3 el o mx i = mx ↔ (o i = mx ∧ ∀ e, el[i]? = some e → en_k e ≠ 2 → ∀ (j : Nat) (f : en_E), o j = mx → el[j]? = some f → ¬ en_cv f (en_r e) (en_c e) (en_p e)) := by
  unfold j3
  by_cases hd : o i = mx ∧ ∃ e, el[i]? = some e ∧ en_k e ≠ 2 ∧ ∃ (j : Nat) (f : en_E), o j = mx ∧ el[j]? = some f ∧ en_cv f (en_r e) (en_c e) (en_p e)
  · rw [if_pos (bo_t.mpr hd)]
    obtain ⟨h1, e, h2, h3, j, f, h4, h5, h6⟩ := hd
    exact ⟨fun z => absurd z.symm h0, fun z => absurd h6 (z.2 e h2 h3 j f h4 h5)⟩
  · rw [if_neg (by rw [bo_t]; exact hd)]
    exact ⟨fun z => ⟨z, fun e h2 h3 j f h4 h5 h6 => hd ⟨z, e, h2, h3, j, f, h4, h5, h6⟩⟩, fun z => z.1⟩
theorem j3_no {el : List en_E} {o : Nat → Nat} {mx i : Nat} (h : o i ≠ mx) : j3 el o mx i = o i := if_neg (by rw [bo_t]; exact fun z => h z.1)
theorem j3_or {el : List en_E} {o : Nat → Nat} {mx i : Nat} : j3 el o mx i = 0 ∨ j3 el o mx i = o i := by
  unfold j3
  split
  · exact Or.inl rfl
  · exact Or.inr rfl
theorem j3_w {el : List en_E} {o : Nat → Nat} {mx i : Nat} {e : en_E} (he : el[i]? = some e) (hk : en_k e = 2) : j3 el o mx i = o i := if_neg (by
  rw [bo_t]
  rintro ⟨-, e', h1, h2, -⟩
  cases he.symm.trans h1
  exact h2 hk)
theorem j4_mx {el : List en_E} {now gr : Nat} {o : Nat → Nat} {mx i : Nat} (h0 : mx ≠ 0) : j4 el now gr o mx i = mx ↔ (o i = mx ∧ ∀ e, el[i]? = some e → ¬ en_t e + gr ≤ now) := by
  unfold j4
  by_cases hd : o i = mx ∧ ∃ e, el[i]? = some e ∧ en_t e + gr ≤ now
  · rw [if_pos (bo_t.mpr hd)]
    obtain ⟨h1, e, h2, h3⟩ := hd
    exact ⟨fun z => absurd z.symm h0, fun z => absurd h3 (z.2 e h2)⟩
  · rw [if_neg (by rw [bo_t]; exact hd)]
    exact ⟨fun z => ⟨z, fun e h2 h3 => hd ⟨z, e, h2, h3⟩⟩, fun z => z.1⟩
theorem j4_no {el : List en_E} {now gr : Nat} {o : Nat → Nat} {mx i : Nat} (h : o i ≠ mx) : j4 el now gr o mx i = o i := if_neg (by rw [bo_t]; exact fun z => h z.1)
theorem j4_or {el : List en_E} {now gr : Nat} {o : Nat → Nat} {mx i : Nat} : j4 el now gr o mx i = 0 ∨ j4 el now gr o mx i = o i := by
  unfold j4
  split
  · exact Or.inl rfl
  · exact Or.inr rfl

theorem tr_2 {el : List en_E} {o : Nat → Nat} {mx : Nat} {ts : List tb_T} (h0 : mx ≠ 0) (hok : ∀ t, t ∈ ts → tb_ok t) (h1 : ∀ (i : Nat) (e : en_E), el[i]? = some e → o i = mx → ∃ t, t ∈ ts ∧ t (en_s e) = some e) (h2 : ∀ t, t ∈ ts → ∀ (s : Nat) (e : en_E), t s = some e → ∃ i : Nat, el[i]? = some e ∧ o i = mx) : tr el (fun i => j2 el o mx i = mx) (ts.foldl tb_m tb_0) := by
  have hX : ∀ s, en_X (fun e => ∃ t, t ∈ ts ∧ t s = some e) ((ts.foldl tb_m tb_0) s) := fun s => en_X_cg (fun e => ⟨fun z => z.elim (fun z => absurd z not_false) id, fun z => Or.inr z⟩) (tb_X_f ts tb_0 s (fun _ => False) (fun _ z => z))
  have hS : ∀ s e, (∃ t, t ∈ ts ∧ t s = some e) → en_ok e ∧ en_s e = s := fun s e ⟨t, a1, a2⟩ => hok t a1 s e a2
  have live : ∀ (i : Nat) (e : en_E), el[i]? = some e → j2 el o mx i = mx → en_X (fun e' => ∃ t, t ∈ ts ∧ t (en_s e) = some e') (some e) := by
    intro i e he hi
    obtain ⟨a1, a2⟩ := (j2_mx h0).mp hi
    refine ⟨h1 i e he a1, fun f hf => ?_⟩
    obtain ⟨t, b1, b2⟩ := id hf
    obtain ⟨j, c1, c2⟩ := h2 t b1 _ f b2
    cases hz : en_w f e with
    | false => rfl
    | true => exact absurd ⟨e, f, he, c1, (hS _ f hf).2.symm, Or.inl hz⟩ (a2 j c2)
  refine ⟨fun i e he hi => en_X_u (hS (en_s e)) (hX _) (live i e he hi), fun s e he => ?_, fun i j e e' he he' hi hj hs => ?_⟩
  · have hx := hX s
    rw [he] at hx
    obtain ⟨t, b1, b2⟩ := hx.1
    obtain ⟨i, c1, c2⟩ := h2 t b1 s e b2
    obtain ⟨u, eu, d1, d2, d3, d4⟩ := lo_top c2 c1
    have hu : j2 el o mx u = mx := (j2_mx h0).mpr ⟨d1, d4⟩
    have hse := (hS s e hx.1).2
    have hl := live u eu d2 hu
    rw [d3, hse] at hl
    have := en_X_u (hS s) hx hl
    cases this
    exact ⟨u, d2, hu⟩
  · obtain ⟨a1, a2⟩ := (j2_mx h0).mp hi
    obtain ⟨b1, b2⟩ := (j2_mx h0).mp hj
    apply Classical.byContradiction
    intro hne
    rcases lo_tot he he' hs hne with z | z
    · exact a2 j b1 z
    · exact b2 i a1 z
theorem tr_3 {el : List en_E} {o : Nat → Nat} {mx : Nat} {T : tb_T} (h0 : mx ≠ 0) (h : tr el (fun i => o i = mx) T) : tr el (fun i => j3 el o mx i = mx) (tb_d T) := by
  have cov : ∀ r c p, (∃ (j : Nat) (f : en_E), o j = mx ∧ el[j]? = some f ∧ en_cv f r c p) ↔ tb_c T r c p := by
    intro r c p
    constructor
    · rintro ⟨j, f, a1, a2, a3⟩
      exact ⟨en_s f, f, h.1 j f a2 a1, a3⟩
    · rintro ⟨s, f, a1, a2⟩
      obtain ⟨j, b1, b2⟩ := h.2.1 s f a1
      exact ⟨j, f, b2, b1, a2⟩
  refine ⟨fun i e he hi => ?_, fun s e he => ?_, fun i j e e' he he' hi hj hs => h.2.2 i j e e' he he' ((j3_mx h0).mp hi).1 ((j3_mx h0).mp hj).1 hs⟩
  · obtain ⟨a1, a2⟩ := (j3_mx h0).mp hi
    unfold tb_d
    rw [h.1 i e he a1]
    simp only
    rw [if_neg]
    rw [bo_t]
    rintro ⟨b1, b2⟩
    obtain ⟨j, f, c1, c2, c3⟩ := (cov _ _ _).mpr b2
    exact a2 e he b1 j f c1 c2 c3
  · have hT := tb_d_s he
    obtain ⟨i, b1, b2⟩ := h.2.1 s e hT
    refine ⟨i, b1, (j3_mx h0).mpr ⟨b2, fun e' g1 g2 j f g3 g4 g5 => ?_⟩⟩
    cases b1.symm.trans g1
    unfold tb_d at he
    rw [hT] at he
    simp only at he
    rw [if_pos (bo_t.mpr ⟨g2, (cov _ _ _).mp ⟨j, f, g3, g4, g5⟩⟩)] at he
    cases he
theorem tr_4 {el : List en_E} {now gr : Nat} {o : Nat → Nat} {mx : Nat} {T : tb_T} (h0 : mx ≠ 0) (h : tr el (fun i => o i = mx) T) : tr el (fun i => j4 el now gr o mx i = mx) (tb_o now gr T) := by
  refine ⟨fun i e he hi => ?_, fun s e he => ?_, fun i j e e' he he' hi hj hs => h.2.2 i j e e' he he' ((j4_mx h0).mp hi).1 ((j4_mx h0).mp hj).1 hs⟩
  · obtain ⟨a1, a2⟩ := (j4_mx h0).mp hi
    unfold tb_o
    rw [h.1 i e he a1]
    simp only
    rw [if_neg (a2 e he)]
  · unfold tb_o at he
    cases hT : T s with
    | none => rw [hT] at he; cases he
    | some f =>
      rw [hT] at he
      simp only at he
      split at he
      · cases he
      · next hno =>
        cases he
        obtain ⟨i, b1, b2⟩ := h.2.1 s e hT
        refine ⟨i, b1, (j4_mx h0).mpr ⟨b2, fun e' g1 g2 => ?_⟩⟩
        cases b1.symm.trans g1
        exact hno g2
theorem tr_cg {el : List en_E} {P P' : Nat → Prop} {T : tb_T} (h : tr el P T) (hp : ∀ i, i < el.length → (P i ↔ P' i)) : tr el P' T := by
  have lt : ∀ {i : Nat} {e : en_E}, el[i]? = some e → i < el.length := fun h => (List.getElem?_eq_some_iff.mp h).1
  refine ⟨fun i e he hi => h.1 i e he ((hp i (lt he)).mpr hi), fun s e he => ?_, fun i j e e' he he' hi hj hs => h.2.2 i j e e' he he' ((hp i (lt he)).mpr hi) ((hp j (lt he')).mpr hj) hs⟩
  obtain ⟨i, a1, a2⟩ := h.2.1 s e he
  exact ⟨i, a1, (hp i (lt a1)).mp a2⟩
