def st_b (S : st_S) (c : Nat) : Prop := c ≤ 512 ∧ tb_ok (st_mem S) ∧ (∀ e, e ∈ st_log S → en_ok e) ∧ (∀ k, k < (st_runs S).length → tb_ok (st_tb (st_runs S) k)) ∧ st_safe S ≤ (st_log S).length ∧ (st_log S).length ≤ c ∧ (st_runs S).length ≤ c ∧ st_now S ≤ 100 * c ∧ 2 ≤ st_cap S ∧ st_cap S ≤ 20 ∧ st_gr S ≤ 50 ∧ st_mem S = (st_log S).foldl tb_a tb_0 ∧ tb_n (st_mem S) ≤ st_cap S ∧ st_3 (st_runs S) = false ∧ (∀ k, k < (st_runs S).length → st_ti (st_runs S) k ≤ 600 * c)
theorem fold_n : ∀ (l : List en_E) (T : tb_T), (∀ e, e ∈ l → en_ok e) → tb_n T ≤ tb_n (l.foldl tb_a T) ∧ tb_n (l.foldl tb_a T) ≤ tb_n T + l.length
  | [], T, _ => by
    rw [List.foldl_nil]
    exact ⟨Nat.le_refl _, Nat.le_add_right _ _⟩
  | e :: l, T, h => by
    obtain ⟨a1, a2⟩ := fold_n l (tb_a T e) (fun e' he' => h e' (List.mem_cons_of_mem _ he'))
    obtain ⟨b1, b2, -⟩ := tb_n_a (T := T) (h e List.mem_cons_self)
    simp only [List.foldl_cons, List.length_cons]
    omega
theorem fold_ok : ∀ (l : List en_E) (T : tb_T), tb_ok T → (∀ e, e ∈ l → en_ok e) → tb_ok (l.foldl tb_a T)
  | [], _, h, _ => h
  | e :: l, T, h, he => fold_ok l (tb_a T e) (tb_ok_a h (he e List.mem_cons_self)) (fun e' h' => he e' (List.mem_cons_of_mem _ h'))
theorem st_b_ml {S : st_S} {c : Nat} (h : st_b S c) : tb_n (st_mem S) ≤ (st_log S).length := by
  obtain ⟨h1, h2, h3, h4, h5, h6, h7, h8, h9, h10, h11, h12, h13, h14, h15⟩ := h
  have := (fold_n (st_log S) tb_0 h3).2
  rw [← h12, tb_n_0] at this
  omega
theorem st_g_b (now gr : Nat) : ∀ (n : Nat) (rs : st_R) (B : Nat), (∀ k, k < rs.length → tb_ok (st_tb rs k)) → (∀ k, k < rs.length → st_ti rs k ≤ B) → (∀ k, k < (st_g now gr n rs).length → tb_ok (st_tb (st_g now gr n rs) k)) ∧ (∀ k, k < (st_g now gr n rs).length → st_ti (st_g now gr n rs) k ≤ B + n) ∧ (st_g now gr n rs).length ≤ rs.length
  | 0, rs, B, h1, h2 => ⟨h1, h2, Nat.le_refl _⟩
  | n + 1, rs, B, h1, h2 => by
    unfold st_g
    split
    · next h3 =>
      have h4 := of_decide_eq_true h3
      have hlen : (st_j now gr rs (rs.length - 3) (st_ti rs (rs.length - 3) + 1)).length = rs.length - 3 + 1 := st_j_len (by omega)
      have q1 : ∀ k, k < (st_j now gr rs (rs.length - 3) (st_ti rs (rs.length - 3) + 1)).length → tb_ok (st_tb (st_j now gr rs (rs.length - 3) (st_ti rs (rs.length - 3) + 1)) k) := by
        intro k hk
        rw [hlen] at hk
        by_cases hki : k = rs.length - 3
        · rw [hki]
          unfold st_tb
          rw [st_j_hi (by omega)]
          refine tb_ok_j (fun t ht => ?_)
          obtain ⟨k', c1, c2, rfl⟩ := mem_dr.mp ht
          exact h1 k' c2
        · unfold st_tb
          rw [st_j_lo (by omega) (by omega)]
          exact h1 k (by omega)
      have q2 : ∀ k, k < (st_j now gr rs (rs.length - 3) (st_ti rs (rs.length - 3) + 1)).length → st_ti (st_j now gr rs (rs.length - 3) (st_ti rs (rs.length - 3) + 1)) k ≤ B + 1 := by
        intro k hk
        rw [hlen] at hk
        by_cases hki : k = rs.length - 3
        · have := h2 (rs.length - 3) (by omega)
          rw [hki]
          unfold st_ti
          rw [st_j_hi (by omega)]
          show st_ti rs (rs.length - 3) + 1 ≤ B + 1
          omega
        · have := h2 k (by omega)
          unfold st_ti
          rw [st_j_lo (by omega) (by omega)]
          unfold st_ti at this
          omega
      obtain ⟨a1, a2, a3⟩ := st_g_b now gr n (st_j now gr rs (rs.length - 3) (st_ti rs (rs.length - 3) + 1)) (B + 1) q1 q2
      exact ⟨a1, fun k hk => by have := a2 k hk; omega, by omega⟩
    · exact ⟨h1, fun k hk => by have := h2 k hk; omega, Nat.le_refl _⟩
theorem st_b_up {S : st_S} {c : Nat} (h : st_b S c) (hc : c < 512) : st_b S (c + 1) := by
  obtain ⟨h1, h2, h3, h4, h5, h6, h7, h8, h9, h10, h11, h12, h13, h14, h15⟩ := h
  exact ⟨by omega, h2, h3, h4, h5, by omega, by omega, by omega, h9, h10, h11, h12, h13, h14, fun k hk => by have := h15 k hk; omega⟩

theorem st_b_f {S : st_S} {c : Nat} (hc : c < 512) (h2 : tb_ok (st_mem S)) (h4 : ∀ k, k < (st_runs S).length → tb_ok (st_tb (st_runs S) k)) (h7 : (st_runs S).length ≤ c) (h8 : st_now S ≤ 100 * c) (h9 : 2 ≤ st_cap S) (h10 : st_cap S ≤ 20) (h11 : st_gr S ≤ 50) (h15 : ∀ k, k < (st_runs S).length → st_ti (st_runs S) k ≤ 600 * c) (hn : tb_n (st_mem S) ≠ 0) : st_b (st_f S) (c + 1) := by
  have hsf : st_f S = (st_cap S, st_gr S, st_now S, tb_0, [], 0, st_g (st_now S) (st_gr S) ((st_runs S).length + 1) (st_runs S ++ [(0, st_mem S)])) := if_neg hn
  have hlen := st_len_app (rs := st_runs S) (r := (0, st_mem S))
  have q1 : ∀ k, k < (st_runs S ++ [(0, st_mem S)]).length → tb_ok (st_tb (st_runs S ++ [(0, st_mem S)]) k) := by
    intro k hk
    rw [hlen] at hk
    unfold st_tb
    by_cases hki : k = (st_runs S).length
    · rw [hki, st_app_hi]
      exact h2
    · rw [st_app_lo (by omega)]
      exact h4 k (by omega)
  have q2 : ∀ k, k < (st_runs S ++ [(0, st_mem S)]).length → st_ti (st_runs S ++ [(0, st_mem S)]) k ≤ 600 * c := by
    intro k hk
    rw [hlen] at hk
    unfold st_ti
    by_cases hki : k = (st_runs S).length
    · rw [hki, st_app_hi]
      exact Nat.zero_le _
    · have := h15 k (by omega)
      rw [st_app_lo (by omega)]
      exact this
  obtain ⟨a1, a2, a3⟩ := st_g_b (st_now S) (st_gr S) ((st_runs S).length + 1) (st_runs S ++ [(0, st_mem S)]) (600 * c) q1 q2
  rw [hsf]
  refine ⟨by omega, tb_ok_0, fun e he => (by cases he), a1, Nat.le_refl _, Nat.zero_le _, ?_, ?_, h9, h10, h11, rfl, ?_, st_g_fix _ _ _ _ (by omega), fun k hk => ?_⟩
  · show (st_g (st_now S) (st_gr S) ((st_runs S).length + 1) (st_runs S ++ [(0, st_mem S)])).length ≤ c + 1
    omega
  · show st_now S ≤ 100 * (c + 1)
    omega
  · show tb_n tb_0 ≤ st_cap S
    rw [tb_n_0]
    omega
  · have := a2 k hk
    show st_ti (st_g (st_now S) (st_gr S) ((st_runs S).length + 1) (st_runs S ++ [(0, st_mem S)])) k ≤ 600 * (c + 1)
    omega
theorem st_b_flush {S : st_S} {c : Nat} (h : st_b S c) (hc : c < 512) : st_b (st_f S) (c + 1) := by
  by_cases hn : tb_n (st_mem S) = 0
  · have hs0 : st_f S = S := if_pos hn
    rw [hs0]
    exact st_b_up h hc
  · obtain ⟨h1, h2, h3, h4, h5, h6, h7, h8, h9, h10, h11, h12, h13, h14, h15⟩ := h
    exact st_b_f hc h2 h4 h7 h8 h9 h10 h11 h15 hn
theorem st_b_a {S : st_S} {c : Nat} {e : en_E} (h : st_b S c) (hc : c < 512) (ok : en_ok e) : st_b (st_a S e) (c + 1) := by
  obtain ⟨h1, h2, h3, h4, h5, h6, h7, h8, h9, h10, h11, h12, h13, h14, h15⟩ := h
  obtain ⟨na1, na2, na3⟩ := tb_n_a (T := st_mem S) ok
  unfold st_a
  split
  · exact st_b_f (S := (st_cap S, st_gr S, st_now S, tb_a (st_mem S) e, st_log S ++ [e], st_safe S, st_runs S)) hc (tb_ok_a h2 ok) h4 h7 h8 h9 h10 h11 h15 (by show tb_n (tb_a (st_mem S) e) ≠ 0; omega)
  · next hcap =>
    refine ⟨by omega, tb_ok_a h2 ok, fun e' he' => ?_, h4, ?_, ?_, ?_, ?_, h9, h10, h11, ?_, ?_, h14, fun k hk => ?_⟩
    · rcases List.mem_append.mp he' with z | z
      · exact h3 e' z
      · rw [List.mem_singleton.mp z]
        exact ok
    · show st_safe S ≤ (st_log S ++ [e]).length
      rw [List.length_append]
      omega
    · show (st_log S ++ [e]).length ≤ c + 1
      rw [List.length_append]
      show (st_log S).length + 1 ≤ c + 1
      omega
    · show (st_runs S).length ≤ c + 1
      omega
    · show st_now S ≤ 100 * (c + 1)
      omega
    · show tb_a (st_mem S) e = (st_log S ++ [e]).foldl tb_a tb_0
      rw [List.foldl_append, ← h12]
      rfl
    · show tb_n (tb_a (st_mem S) e) ≤ st_cap S
      omega
    · have := h15 k hk
      show st_ti (st_runs S) k ≤ 600 * (c + 1)
      omega
theorem st_b_cr {S : st_S} {c : Nat} (h : st_b S c) (hc : c < 512) : st_b (st_cr S) (c + 1) := by
  obtain ⟨h1, h2, h3, h4, h5, h6, h7, h8, h9, h10, h11, h12, h13, h14, h15⟩ := h
  have okt : ∀ e, e ∈ (st_log S).take (st_safe S) → en_ok e := fun e he => h3 e (List.mem_of_mem_take he)
  refine ⟨by omega, fold_ok _ _ tb_ok_0 okt, okt, h4, ?_, ?_, ?_, ?_, h9, h10, h11, rfl, ?_, h14, fun k hk => ?_⟩
  · show st_safe S ≤ ((st_log S).take (st_safe S)).length
    rw [List.length_take, Nat.min_eq_left h5]
    exact Nat.le_refl _
  · show ((st_log S).take (st_safe S)).length ≤ c + 1
    rw [List.length_take]
    omega
  · show (st_runs S).length ≤ c + 1
    omega
  · show st_now S ≤ 100 * (c + 1)
    omega
  · show tb_n (((st_log S).take (st_safe S)).foldl tb_a tb_0) ≤ st_cap S
    have := (fold_n ((st_log S).drop (st_safe S)) (((st_log S).take (st_safe S)).foldl tb_a tb_0) (fun e he => h3 e (List.mem_of_mem_drop he))).1
    rw [← List.foldl_append, List.take_append_drop, ← h12] at this
    omega
  · have := h15 k hk
    show st_ti (st_runs S) k ≤ 600 * (c + 1)
    omega
theorem st_top_le : ∀ (rs : st_R) (m B : Nat), m ≤ B → (∀ r, r ∈ rs → r.1 ≤ B) → rs.foldl (fun m r => max m r.1) m ≤ B
  | [], m, B, h, _ => h
  | r :: rs, m, B, h, hr => st_top_le rs (max m r.1) B (Nat.max_le.mpr ⟨h, hr r List.mem_cons_self⟩) (fun r' h' => hr r' (List.mem_cons_of_mem _ h'))
noncomputable def st_me (S : st_S) : st_S := if (st_runs S).length = 0 then S else (st_cap S, st_gr S, st_now S, st_mem S, st_log S, st_safe S, st_j (st_now S) (st_gr S) (st_runs S) 0 (st_top (st_runs S)))
theorem st_b_me {S : st_S} {c : Nat} (h : st_b S c) (hc : c < 512) : st_b (st_me S) (c + 1) := by
  unfold st_me
  split
  · exact st_b_up h hc
  · next hne =>
    obtain ⟨h1, h2, h3, h4, h5, h6, h7, h8, h9, h10, h11, h12, h13, h14, h15⟩ := h
    have hlen : (st_j (st_now S) (st_gr S) (st_runs S) 0 (st_top (st_runs S))).length = 1 := st_j_len (Nat.zero_le _)
    have hk0 : ∀ k, k < (st_j (st_now S) (st_gr S) (st_runs S) 0 (st_top (st_runs S))).length → k = 0 := fun k hk => by rw [hlen] at hk; omega
    refine ⟨by omega, h2, h3, fun k hk => ?_, h5, ?_, ?_, ?_, h9, h10, h11, h12, h13, ?_, fun k hk => ?_⟩
    · rw [hk0 k hk]
      unfold st_tb
      show tb_ok ((st_j (st_now S) (st_gr S) (st_runs S) 0 (st_top (st_runs S))).getD 0 (0, tb_0)).2
      rw [st_j_hi (Nat.zero_le _)]
      show tb_ok (tb_j (st_now S) (st_gr S) (decide (0 = 0)) (((st_runs S).drop 0).map Prod.snd))
      refine tb_ok_j (fun t ht => ?_)
      obtain ⟨k', c1, c2, rfl⟩ := mem_dr.mp ht
      exact h4 k' c2
    · show (st_log S).length ≤ c + 1
      omega
    · show (st_j (st_now S) (st_gr S) (st_runs S) 0 (st_top (st_runs S))).length ≤ c + 1
      omega
    · show st_now S ≤ 100 * (c + 1)
      omega
    · exact decide_eq_false (fun z => by
        have z1 := z.1
        rw [show (st_runs (st_cap S, st_gr S, st_now S, st_mem S, st_log S, st_safe S, st_j (st_now S) (st_gr S) (st_runs S) 0 (st_top (st_runs S)))).length = 1 from hlen] at z1
        omega)
    · rw [hk0 k hk]
      unfold st_ti
      show ((st_j (st_now S) (st_gr S) (st_runs S) 0 (st_top (st_runs S))).getD 0 (0, tb_0)).1 ≤ 600 * (c + 1)
      rw [st_j_hi (Nat.zero_le _)]
      show st_top (st_runs S) ≤ 600 * (c + 1)
      refine st_top_le (st_runs S) 0 _ (Nat.zero_le _) (fun r hr => ?_)
      obtain ⟨k', hk'⟩ := List.getElem?_of_mem hr
      have hlt := (List.getElem?_eq_some_iff.mp hk').1
      have := h15 k' hlt
      unfold st_ti at this
      rw [List.getD_eq_getElem?_getD, hk'] at this
      have h9 : r.1 ≤ 600 * c := this
      omega
def e_put (S : st_S) (r c p v l : Int32) : en_E := (0, r.toInt.toNat, c.toInt.toNat, c.toInt.toNat, p.toInt.toNat, v, if l = 0 then 2147483647 else st_now S + l.toInt.toNat)
def e_del (S : st_S) (r c p : Int32) : en_E := (1, r.toInt.toNat, c.toInt.toNat, c.toInt.toNat, p.toInt.toNat, 0, st_now S)
def e_wip (S : st_S) (r c l p : Int32) : en_E := (2, r.toInt.toNat, c.toInt.toNat, l.toInt.toNat, p.toInt.toNat, 0, st_now S)
def li_ok (l : Int32) : Bool := decide (0 ≤ l.toInt ∧ l.toInt ≤ 100)
noncomputable def sx_put (S : st_S) (r c p v l : Int32) : st_S := if (pl r c && (sp_ok p && li_ok l)) = true then st_a S (e_put S r c p v l) else S
noncomputable def sx_del (S : st_S) (r c p : Int32) : st_S := if (pl r c && sp_ok p) = true then st_a S (e_del S r c p) else S
noncomputable def sx_wip (S : st_S) (r c l p : Int32) : st_S := if (pl r c && (pl r l && (decide (c.toInt ≤ l.toInt) && sp_ok p))) = true then st_a S (e_wip S r c l p) else S
theorem li_of {l : Int32} (h : li_ok l = true) : ∃ i : Nat, i ≤ 100 ∧ l = nI i := by
  obtain ⟨h1, h2⟩ := of_decide_eq_true h
  obtain ⟨i, a1, rfl⟩ := nI_of (x := l) (by rw [Int32.lt_iff_toInt_lt, i0]; omega)
  rw [nI_toInt a1] at h1 h2
  exact ⟨i, by omega, rfl⟩
theorem nI_tn {i : Nat} (h : i < 2 ^ 31) : (nI i).toInt.toNat = i := by
  rw [nI_toInt h]
  rfl
theorem ok_put {S : st_S} {n r c p : Nat} {v : Int32} {l : Nat} (h : st_b S n) (hr : r < 16) (hc : c < 8) (hp : p ≤ 9999) (hl : l ≤ 100) : en_ok (e_put S (nI r) (nI c) (nI p) v (nI l)) := by
  have h8 := h.2.2.2.2.2.2.2.1
  have h1 := h.1
  unfold e_put
  rw [nI_tn (by omega), nI_tn (by omega), nI_tn (by omega), nI_tn (by omega)]
  refine ⟨Nat.zero_le _, hr, Nat.le_refl _, hc, fun _ => rfl, hp, fun z => absurd rfl z, ?_⟩
  show (if nI l = 0 then 2147483647 else st_now S + l) ≤ 100000 ∨ ((0 : Nat) = 0 ∧ (if nI l = 0 then 2147483647 else st_now S + l) = 2147483647)
  split
  · exact Or.inr ⟨rfl, rfl⟩
  · left
    omega
theorem ok_del {S : st_S} {n r c p : Nat} (h : st_b S n) (hr : r < 16) (hc : c < 8) (hp : p ≤ 9999) : en_ok (e_del S (nI r) (nI c) (nI p)) := by
  have h8 := h.2.2.2.2.2.2.2.1
  have h1 := h.1
  unfold e_del
  rw [nI_tn (by omega), nI_tn (by omega), nI_tn (by omega)]
  exact ⟨by show 1 ≤ 2; decide, hr, Nat.le_refl _, hc, fun _ => rfl, hp, fun _ => rfl, Or.inl (by show st_now S ≤ 100000; omega)⟩
theorem ok_wip {S : st_S} {n r c l p : Nat} (h : st_b S n) (hr : r < 16) (hc : c ≤ l) (hl : l < 8) (hp : p ≤ 9999) : en_ok (e_wip S (nI r) (nI c) (nI l) (nI p)) := by
  have h8 := h.2.2.2.2.2.2.2.1
  have h1 := h.1
  unfold e_wip
  rw [nI_tn (by omega), nI_tn (by omega), nI_tn (by omega), nI_tn (by omega)]
  exact ⟨by show 2 ≤ 2; decide, hr, hc, hl, fun z => absurd rfl z, hp, fun _ => rfl, Or.inl (by show st_now S ≤ 100000; omega)⟩
