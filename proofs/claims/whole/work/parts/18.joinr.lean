theorem st_j_len {now gr : Nat} {rs : st_R} {i0 tier : Nat} (h : i0 ≤ rs.length) : (st_j now gr rs i0 tier).length = i0 + 1 := by
  unfold st_j
  rw [List.length_append, List.length_take, Nat.min_eq_left h]
  rfl
theorem st_j_lo {now gr : Nat} {rs : st_R} {i0 tier k : Nat} (h : i0 ≤ rs.length) (hk : k < i0) : (st_j now gr rs i0 tier).getD k (0, tb_0) = rs.getD k (0, tb_0) := by
  unfold st_j
  rw [List.getD_eq_getElem?_getD, List.getD_eq_getElem?_getD, List.getElem?_append_left (by rw [List.length_take, Nat.min_eq_left h]; exact hk), List.getElem?_take, if_pos hk]
theorem st_j_hi {now gr : Nat} {rs : st_R} {i0 tier : Nat} (h : i0 ≤ rs.length) : (st_j now gr rs i0 tier).getD i0 (0, tb_0) = (tier, tb_j now gr (decide (i0 = 0)) ((rs.drop i0).map Prod.snd)) := by
  unfold st_j
  rw [List.getD_eq_getElem?_getD, List.getElem?_append_right (by rw [List.length_take, Nat.min_eq_left h]; exact Nat.le_refl _), List.length_take, Nat.min_eq_left h, Nat.sub_self]
  rfl
theorem mem_dr {rs : st_R} {i0 : Nat} {t : tb_T} : t ∈ (rs.drop i0).map Prod.snd ↔ ∃ k, i0 ≤ k ∧ k < rs.length ∧ st_tb rs k = t := by
  constructor
  · intro h
    obtain ⟨r, h1, h2⟩ := List.mem_map.mp h
    obtain ⟨j, hj⟩ := List.getElem?_of_mem h1
    rw [List.getElem?_drop] at hj
    have hlt := (List.getElem?_eq_some_iff.mp hj).1
    refine ⟨i0 + j, by omega, hlt, ?_⟩
    unfold st_tb
    rw [List.getD_eq_getElem?_getD, hj]
    exact h2
  · rintro ⟨k, h1, h2, h3⟩
    refine List.mem_map.mpr ⟨rs.getD k (0, tb_0), ?_, h3⟩
    refine List.mem_of_getElem? (i := k - i0) ?_
    rw [List.getElem?_drop, show i0 + (k - i0) = k by omega, List.getD_eq_getElem?_getD, List.getElem?_eq_getElem h2]
    rfl
theorem rl_join {fe fo fk ft f3 : Nat → Int32} {el : List en_E} {ow mk : Nat → Nat} {marks now gr i0 tier : Nat} {rs : st_R} (R : rl_r fe fo fk ft el ow mk marks rs) (hi0 : i0 < rs.length) (hok : ∀ k, k < rs.length → tb_ok (st_tb rs k)) (ha : ao f3 el.length (jall el now gr (decide (i0 = 0)) ow mk i0 rs.length (marks + 1))) : rl_r fe f3 (upd fk i0 (nI (marks + 1))) (upd ft i0 (nI tier)) el (jall el now gr (decide (i0 = 0)) ow mk i0 rs.length (marks + 1)) (va_up mk i0 (marks + 1)) (marks + 1) (st_j now gr rs i0 tier) := by
  obtain ⟨R1, R2, R3, R4, R5, R6⟩ := R
  have h0 : marks + 1 ≠ 0 := by omega
  have one : ∀ i, i < el.length → (j1 ow mk i0 rs.length (marks + 1) i = marks + 1 ↔ jG ow mk i0 rs.length i) := fun i hi => j1_mx (by have := (R2 i hi).2; omega)
  have noG : ∀ i, i < el.length → ¬ jG ow mk i0 rs.length i → jall el now gr (decide (i0 = 0)) ow mk i0 rs.length (marks + 1) i = ow i := by
    intro i hi hG
    have e1 : j1 ow mk i0 rs.length (marks + 1) i = ow i := j1_no hG
    have n1 : j1 ow mk i0 rs.length (marks + 1) i ≠ marks + 1 := fun z => hG ((one i hi).mp z)
    have e2 : j2 el (j1 ow mk i0 rs.length (marks + 1)) (marks + 1) i = ow i := by rw [j2_no n1, e1]
    have n2 : j2 el (j1 ow mk i0 rs.length (marks + 1)) (marks + 1) i ≠ marks + 1 := by rw [e2, ← e1]; exact n1
    have e3 : j3 el (j2 el (j1 ow mk i0 rs.length (marks + 1)) (marks + 1)) (marks + 1) i = ow i := by rw [j3_no n2, e2]
    have n3 : j3 el (j2 el (j1 ow mk i0 rs.length (marks + 1)) (marks + 1)) (marks + 1) i ≠ marks + 1 := by rw [e3, ← e1]; exact n1
    unfold jall
    split
    · rw [j4_no n3, e3]
    · exact e3
  have yeG : ∀ i, i < el.length → jG ow mk i0 rs.length i → jall el now gr (decide (i0 = 0)) ow mk i0 rs.length (marks + 1) i = 0 ∨ jall el now gr (decide (i0 = 0)) ow mk i0 rs.length (marks + 1) i = marks + 1 := by
    intro i hi hG
    have e1 := (one i hi).mpr hG
    have e3 : j3 el (j2 el (j1 ow mk i0 rs.length (marks + 1)) (marks + 1)) (marks + 1) i = 0 ∨ j3 el (j2 el (j1 ow mk i0 rs.length (marks + 1)) (marks + 1)) (marks + 1) i = marks + 1 := by
      rcases j3_or (el := el) (o := j2 el (j1 ow mk i0 rs.length (marks + 1)) (marks + 1)) (mx := marks + 1) (i := i) with z | z
      · exact Or.inl z
      · rw [z]
        rcases j2_or (el := el) (o := j1 ow mk i0 rs.length (marks + 1)) (mx := marks + 1) (i := i) with y | y
        · exact Or.inl y
        · rw [y]
          exact Or.inr e1
    unfold jall
    split
    · rcases j4_or (el := el) (now := now) (gr := gr) (o := j3 el (j2 el (j1 ow mk i0 rs.length (marks + 1)) (marks + 1)) (marks + 1)) (mx := marks + 1) (i := i) with z | z
      · exact Or.inl z
      · rw [z]
        exact e3
    · exact e3
  have hlen : (st_j now gr rs i0 tier).length = i0 + 1 := st_j_len (Nat.le_of_lt hi0)
  have mlt : ∀ k, k < i0 → va_up mk i0 (marks + 1) k = mk k := fun k hk => va_up_ne _ _ (by omega)
  refine ⟨R1, fun i hi => ⟨ha i hi, ?_⟩, fun k hk => ?_, fun k k' hk hk' he => ?_, fun i hi => ?_, fun k hk => ?_⟩
  · by_cases hG : jG ow mk i0 rs.length i
    · rcases yeG i hi hG with z | z <;> omega
    · rw [noG i hi hG]
      have := (R2 i hi).2
      omega
  · rw [hlen] at hk
    by_cases hki : k = i0
    · subst hki
      unfold st_ti
      rw [pk_us, pk_us, va_up_self, st_j_hi (Nat.le_of_lt hi0)]
      exact ⟨rfl, by omega, Nat.le_refl _, rfl⟩
    · obtain ⟨a1, a2, a3, a4⟩ := R3 k (by omega)
      unfold st_ti
      rw [pk_un hki, pk_un hki, mlt k (by omega), st_j_lo (Nat.le_of_lt hi0) (by omega)]
      exact ⟨a1, a2, by omega, a4⟩
  · rw [hlen] at hk hk'
    by_cases hki : k = i0 <;> by_cases hki' : k' = i0
    · omega
    · rw [hki, va_up_self, mlt k' (by omega)] at he
      have := (R3 k' (by omega)).2.2.1
      omega
    · rw [hki', va_up_self, mlt k (by omega)] at he
      have := (R3 k (by omega)).2.2.1
      omega
    · rw [mlt k (by omega), mlt k' (by omega)] at he
      exact R4 k k' (by omega) (by omega) he
  · by_cases hG : jG ow mk i0 rs.length i
    · rcases yeG i hi hG with z | z
      · exact Or.inl z
      · exact Or.inr ⟨i0, by omega, by rw [va_up_self]; exact z⟩
    · rw [noG i hi hG]
      rcases R5 i hi with z | ⟨k, a1, a2⟩
      · exact Or.inl z
      · by_cases hk : k < i0
        · exact Or.inr ⟨k, by omega, by rw [mlt k hk]; exact a2⟩
        · exact absurd ⟨k, by omega, a1, a2⟩ hG
  · rw [hlen] at hk
    by_cases hki : k = i0
    · subst hki
      unfold st_tb
      rw [st_j_hi (Nat.le_of_lt hi0), va_up_self]
      have t2 : tr el (fun i => j2 el (j1 ow mk k rs.length (marks + 1)) (marks + 1) i = marks + 1) (((rs.drop k).map Prod.snd).foldl tb_m tb_0) := by
        refine tr_2 h0 (fun t ht => ?_) (fun i e he hi => ?_) (fun t ht s e hs => ?_)
        · obtain ⟨k', a1, a2, rfl⟩ := mem_dr.mp ht
          exact hok k' a2
        · obtain ⟨k', a1, a2, a3⟩ := (one i (List.getElem?_eq_some_iff.mp he).1).mp hi
          exact ⟨st_tb rs k', mem_dr.mpr ⟨k', a1, a2, rfl⟩, (R6 k' a2).1 i e he a3⟩
        · obtain ⟨k', a1, a2, rfl⟩ := mem_dr.mp ht
          obtain ⟨i, b1, b2⟩ := (R6 k' a2).2.1 s e hs
          exact ⟨i, b1, (one i (List.getElem?_eq_some_iff.mp b1).1).mpr ⟨k', a1, a2, b2⟩⟩
      have t3 := tr_3 h0 t2
      by_cases hk0 : k = 0
      · have hd : decide (k = 0) = true := decide_eq_true hk0
        have hj : jall el now gr (decide (k = 0)) ow mk k rs.length (marks + 1) = j4 el now gr (j3 el (j2 el (j1 ow mk k rs.length (marks + 1)) (marks + 1)) (marks + 1)) (marks + 1) := if_pos hd
        have ht : tb_j now gr (decide (k = 0)) ((rs.drop k).map Prod.snd) = tb_o now gr (tb_d (((rs.drop k).map Prod.snd).foldl tb_m tb_0)) := if_pos hd
        rw [hj]
        show tr el _ (tb_j now gr (decide (k = 0)) ((rs.drop k).map Prod.snd))
        rw [ht]
        exact tr_4 h0 t3
      · have hd : ¬ decide (k = 0) = true := by rw [decide_eq_true_eq]; exact hk0
        have hj : jall el now gr (decide (k = 0)) ow mk k rs.length (marks + 1) = j3 el (j2 el (j1 ow mk k rs.length (marks + 1)) (marks + 1)) (marks + 1) := if_neg hd
        have ht : tb_j now gr (decide (k = 0)) ((rs.drop k).map Prod.snd) = tb_d (((rs.drop k).map Prod.snd).foldl tb_m tb_0) := if_neg hd
        rw [hj]
        show tr el _ (tb_j now gr (decide (k = 0)) ((rs.drop k).map Prod.snd))
        rw [ht]
        exact t3
    · have hk2 : k < i0 := by omega
      obtain ⟨a1, a2, a3, a4⟩ := R3 k (by omega)
      unfold st_tb
      rw [st_j_lo (Nat.le_of_lt hi0) hk2, mlt k hk2]
      refine tr_cg (R6 k (by omega)) (fun i hi => ?_)
      by_cases hG : jG ow mk i0 rs.length i
      · obtain ⟨k', b1, b2, b3⟩ := id hG
        constructor
        · intro z
          have := R4 k k' (by omega) b2 (z.symm.trans b3)
          omega
        · intro z
          rcases yeG i hi hG with y | y <;> omega
      · rw [noG i hi hG]
