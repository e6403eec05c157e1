def rw (g : gx_T) (M : mp_M) (b : Nat) (A : Nat → Nat) (S : st_S) (n1 n2 : Nat) : Prop := ∃ (ml el : List en_E) (ow mk : Nat → Nat) (marks : Nat) (f : Nat → Nat → Int32), ra_M g M b A (st_cap S) (st_gr S) (st_now S) ml.length (st_log S).length (st_safe S) el.length (st_runs S).length marks f ∧ lw (f 0) ml ∧ tr ml (fun _ => True) (st_mem S) ∧ ml.length = tb_n (st_mem S) ∧ lw (f 1) (st_log S) ∧ rl_r (f 2) (f 3) (f 4) (f 5) el ow mk marks (st_runs S) ∧ el.length + (st_log S).length ≤ n1 ∧ marks ≤ n2
theorem lw_nil {f : Nat → Int32} : lw f [] := fun i e h => by simp at h
theorem tr_nil : tr [] (fun _ => True) tb_0 := ⟨fun i e h => (by simp at h), fun s e h => (by cases h), fun i j e e' h => (by simp at h)⟩
theorem st_len_app {rs : st_R} {r : Nat × tb_T} : (rs ++ [r]).length = rs.length + 1 := by rw [List.length_append]; rfl
theorem st_app_lo {rs : st_R} {r : Nat × tb_T} {k : Nat} (h : k < rs.length) : (rs ++ [r]).getD k (0, tb_0) = rs.getD k (0, tb_0) := by
  rw [List.getD_eq_getElem?_getD, List.getD_eq_getElem?_getD, List.getElem?_append_left h]
theorem st_app_hi {rs : st_R} {r : Nat × tb_T} : (rs ++ [r]).getD rs.length (0, tb_0) = r := by
  rw [List.getD_eq_getElem?_getD, List.getElem?_append_right (Nat.le_refl _), Nat.sub_self]
  rfl
theorem rl_push {fe fo fk ft f2 f3 : Nat → Int32} {el ml : List en_E} {ow mk : Nat → Nat} {marks : Nat} {rs : st_R} {T : tb_T} (R : rl_r fe fo fk ft el ow mk marks rs) (hl : lw f2 (el ++ ml)) (ht : tr ml (fun _ => True) T) (h3 : ∀ i, i < el.length → f3 i = nI (ow i)) (h4 : ∀ i, el.length ≤ i → i < el.length + ml.length → f3 i = nI (marks + 1)) : rl_r f2 f3 (upd fk rs.length (nI (marks + 1))) (upd ft rs.length (nI 0)) (el ++ ml) (fun i => if i < el.length then ow i else marks + 1) (va_up mk rs.length (marks + 1)) (marks + 1) (rs ++ [(0, T)]) := by
  obtain ⟨R1, R2, R3, R4, R5, R6⟩ := R
  have mlt : ∀ k, k < rs.length → va_up mk rs.length (marks + 1) k = mk k := fun k hk => va_up_ne _ _ (by omega)
  have cas : ∀ (i : Nat) (e : en_E), (el ++ ml)[i]? = some e → (i < el.length ∧ el[i]? = some e) ∨ (el.length ≤ i ∧ ml[i - el.length]? = some e) := by
    intro i e h
    by_cases hi : i < el.length
    · rw [List.getElem?_append_left hi] at h
      exact Or.inl ⟨hi, h⟩
    · rw [List.getElem?_append_right (by omega)] at h
      exact Or.inr ⟨by omega, h⟩
  refine ⟨hl, fun i hi => ?_, fun k hk => ?_, fun k k' hk hk' he => ?_, fun i hi => ?_, fun k hk => ?_⟩
  · rw [List.length_append] at hi
    by_cases hil : i < el.length
    · simp only [hil, if_true]
      exact ⟨h3 i hil, by have := (R2 i hil).2; omega⟩
    · simp only [hil, if_false]
      exact ⟨h4 i (by omega) hi, Nat.le_refl _⟩
  · rw [st_len_app] at hk
    by_cases hki : k = rs.length
    · subst hki
      unfold st_ti
      rw [pk_us, pk_us, va_up_self, st_app_hi]
      exact ⟨rfl, by omega, Nat.le_refl _, rfl⟩
    · obtain ⟨a1, a2, a3, a4⟩ := R3 k (by omega)
      unfold st_ti
      rw [pk_un hki, pk_un hki, mlt k (by omega), st_app_lo (by omega)]
      exact ⟨a1, a2, by omega, a4⟩
  · rw [st_len_app] at hk hk'
    by_cases hki : k = rs.length <;> by_cases hki' : k' = rs.length
    · omega
    · rw [hki, va_up_self, mlt k' (by omega)] at he
      have := (R3 k' (by omega)).2.2.1
      omega
    · rw [hki', va_up_self, mlt k (by omega)] at he
      have := (R3 k (by omega)).2.2.1
      omega
    · rw [mlt k (by omega), mlt k' (by omega)] at he
      exact R4 k k' (by omega) (by omega) he
  · rw [st_len_app]
    by_cases hil : i < el.length
    · simp only [hil, if_true]
      rcases R5 i hil with z | ⟨k, a1, a2⟩
      · exact Or.inl z
      · exact Or.inr ⟨k, by omega, by rw [mlt k a1]; exact a2⟩
    · simp only [hil, if_false]
      exact Or.inr ⟨rs.length, by omega, by rw [va_up_self]⟩
  · rw [st_len_app] at hk
    by_cases hki : k = rs.length
    · subst hki
      unfold st_tb
      rw [st_app_hi, va_up_self]
      refine ⟨fun i e he hi => ?_, fun s e he => ?_, fun i j e e' he he' hi hj hs => ?_⟩
      · rcases cas i e he with ⟨a1, a2⟩ | ⟨a1, a2⟩
        · simp only [a1, if_true] at hi
          have := (R2 i a1).2
          omega
        · exact ht.1 _ e a2 trivial
      · obtain ⟨i, a1, -⟩ := ht.2.1 s e he
        refine ⟨el.length + i, ?_, ?_⟩
        · rw [List.getElem?_append_right (by omega), Nat.add_sub_cancel_left]
          exact a1
        · simp only
          rw [if_neg (by omega)]
      · rcases cas i e he with ⟨a1, a2⟩ | ⟨a1, a2⟩
        · simp only [a1, if_true] at hi
          have := (R2 i a1).2
          omega
        · rcases cas j e' he' with ⟨b1, b2⟩ | ⟨b1, b2⟩
          · simp only [b1, if_true] at hj
            have := (R2 j b1).2
            omega
          · have := ht.2.2 _ _ e e' a2 b2 trivial trivial hs
            omega
    · obtain ⟨a1, a2, a3, a4⟩ := R3 k (by omega)
      have h6 := R6 k (by omega)
      unfold st_tb
      rw [st_app_lo (by omega), mlt k (by omega)]
      refine ⟨fun i e he hi => ?_, fun s e he => ?_, fun i j e e' he he' hi hj hs => ?_⟩
      · rcases cas i e he with ⟨b1, b2⟩ | ⟨b1, b2⟩
        · simp only [b1, if_true] at hi
          exact h6.1 i e b2 hi
        · simp only at hi
          rw [if_neg (by omega)] at hi
          omega
      · obtain ⟨i, b1, b2⟩ := h6.2.1 s e he
        have hlt := (List.getElem?_eq_some_iff.mp b1).1
        refine ⟨i, by rw [List.getElem?_append_left hlt]; exact b1, ?_⟩
        simp only
        rw [if_pos hlt]
        exact b2
      · rcases cas i e he with ⟨b1, b2⟩ | ⟨b1, b2⟩
        · simp only [b1, if_true] at hi
          rcases cas j e' he' with ⟨c1, c2⟩ | ⟨c1, c2⟩
          · simp only [c1, if_true] at hj
            exact h6.2.2 i j e e' b2 c2 hi hj hs
          · simp only at hj
            rw [if_neg (by omega)] at hj
            omega
        · simp only at hi
          rw [if_neg (by omega)] at hi
          omega
set_option maxHeartbeats 4000000 in
set_option maxRecDepth 100000 in
theorem c_M_flushAll (g : gx_T) {M : mp_M} {b : Nat} {A : Nat → Nat} {S : st_S} {n1 n2 : Nat} (h0 : rw g M b A S n1 n2) (hn1 : n1 ≤ 520) (hrs : (st_runs S).length < 520) (hn2 : n2 + (st_runs S).length + 5 < 1000000) (hnow : st_now S ≤ 100000) (hgr : st_gr S ≤ 100) (hml : tb_n (st_mem S) ≤ (st_log S).length) (hok : tb_ok (st_mem S)) (hoks : ∀ k, k < (st_runs S).length → tb_ok (st_tb (st_runs S) k)) (hti : ∀ k, k < (st_runs S).length → st_ti (st_runs S) k < 1000000) (h24 : tb_n (st_mem S) < 24) (h3 : tb_n (st_mem S) = 0 → st_3 (st_runs S) = false) : Ct g yXM_flushAll cXM_flushAll 3 (some .int) 5 [.ref b] M (pi_ (fun r M' => r = nI (tb_n (st_mem S)) ∧ mp_k (ra_P b A) M M' ∧ rw g M' b A (st_f S) n1 (n2 + (st_runs S).length + 3))) 0 0 := by
  refine ct_intro (L0 := [some (.ref b), none, none]) (by decide) (Nat.le_of_ble_eq_true rfl) rfl rfl (fun x C Rx I => ?_)
  obtain ⟨ml, el, ow, mk, marks, f, h, hl0, ht, hn, hl1, R, hb1, hb2⟩ := h0
  have st_gn : ∀ (n : Nat) (rs' : st_R), st_3 rs' = false → st_g (st_now S) (st_gr S) n rs' = rs' := by
    intro n rs' hz
    cases n with
    | zero => rfl
    | succ n =>
      unfold st_g
      rw [if_neg (by rw [hz]; decide)]
  have loop : ∀ (n : Nat) (rs' : st_R) (M' : mp_M) (el' : List en_E) (ow' mk' : Nat → Nat) (marks' mem' logs' safe' : Nat) (f' : Nat → Nat → Int32), rs'.length ≤ n → rs'.length ≤ 520 → marks' + n < 1000000 → el'.length ≤ 520 → mp_k (ra_P b A) M M' → ra_M g M' b A (st_cap S) (st_gr S) (st_now S) mem' logs' safe' el'.length rs'.length marks' f' → rl_r (f' 2) (f' 3) (f' 4) (f' 5) el' ow' mk' marks' rs' → (∀ k, k < rs'.length → tb_ok (st_tb rs' k)) → (∀ k, k < rs'.length → st_ti rs' k + n < 2000000) → (∀ (M2 : mp_M) (ow2 mk2 : Nat → Nat) (marks2 : Nat) (f2 : Nat → Nat → Int32), mp_k (ra_P b A) M M2 → f2 0 = f' 0 → f2 1 = f' 1 → ra_M g M2 b A (st_cap S) (st_gr S) (st_now S) mem' logs' safe' el'.length (st_g (st_now S) (st_gr S) n rs').length marks2 f2 → rl_r (f2 2) (f2 3) (f2 4) (f2 5) el' ow2 mk2 marks2 (st_g (st_now S) (st_gr S) n rs') → marks2 ≤ marks' + n → ∀ L2, VV g x M2 0 0 204 [some (.ref b), some (.int (nI ml.length)), L2] []) → ∀ L2, VV g x M' 0 0 125 [some (.ref b), some (.int (nI ml.length)), L2] [] := by
    intro n
    induction n with
    | zero =>
      intro rs' M' el' ow' mk' marks' mem' logs' safe' f' h1 h2 h3 h4 hk h' R' hok' hti' fin L2
      first | refine v_aload_n C 126 dXM_flushAll_125 rfl rfl ?_ | refine v_aload_nN C 126 dXM_flushAll_125 rfl rfl ?_ | refine v_aload_nQ C 126 dXM_flushAll_125 rfl rfl ?_
      refine gt_XM_88 C 129 dXM_flushAll_126 rfl h'.1 rfl ?_
      refine v_iconst C 130 dXM_flushAll_129 rfl (nI 3) (by decide) ?_
      refine v_icmp_lt C 133 204 dXM_flushAll_130 rfl rfl (fun h9 => ?_) (fun h9 => False.elim (by first | exact h9 (nI_lt (show rs'.length < 3 by omega) (by decide)) | exact absurd h9 (nI_lt (show rs'.length < 3 by omega) (by decide))))
      exact fin M' ow' mk' marks' f' hk rfl rfl h' R' (by omega) _
    | succ n ih =>
      intro rs' M' el' ow' mk' marks' mem' logs' safe' f' h1 h2 h3 h4 hk h' R' hok' hti' fin L2
      have ext : st_3 rs' = false → ∀ L2, VV g x M' 0 0 204 [some (.ref b), some (.int (nI ml.length)), L2] [] := by
        intro hz L2
        rw [st_gn (n + 1) rs' hz] at fin
        exact fin M' ow' mk' marks' f' hk rfl rfl h' R' (by omega) _
      have hA5 := h'.2.1 5 (by decide)
      have tv : ∀ k, k < rs'.length → f' 5 k = nI (st_ti rs' k) := fun k hk => (R'.2.2.1 k hk).2.2.2
      first | refine v_aload_n C 126 dXM_flushAll_125 rfl rfl ?_ | refine v_aload_nN C 126 dXM_flushAll_125 rfl rfl ?_ | refine v_aload_nQ C 126 dXM_flushAll_125 rfl rfl ?_
      refine gt_XM_88 C 129 dXM_flushAll_126 rfl h'.1 rfl ?_
      refine v_iconst C 130 dXM_flushAll_129 rfl (nI 3) (by decide) ?_
      refine v_icmp_lt C 133 204 dXM_flushAll_130 rfl rfl (fun hlt => ?_) (fun hlt => ?_)
      · rw [nI_ltI (by omega) (by decide)] at hlt
        exact ext (decide_eq_false (fun z => by omega)) _
      · rw [nI_ltI (by omega) (by decide)] at hlt
        have b1 := hti' (rs'.length - 1) (by omega)
        have b2 := hti' (rs'.length - 2) (by omega)
        have b3 := hti' (rs'.length - 3) (by omega)
        first | refine v_aload_n C 134 dXM_flushAll_133 rfl rfl ?_ | refine v_aload_nN C 134 dXM_flushAll_133 rfl rfl ?_ | refine v_aload_nQ C 134 dXM_flushAll_133 rfl rfl ?_
        refine gt_XM_25 C 137 dXM_flushAll_134 rfl h'.1 rfl ?_
        first | refine v_aload_n C 138 dXM_flushAll_137 rfl rfl ?_ | refine v_aload_nN C 138 dXM_flushAll_137 rfl rfl ?_ | refine v_aload_nQ C 138 dXM_flushAll_137 rfl rfl ?_
        refine gt_XM_88 C 141 dXM_flushAll_138 rfl h'.1 rfl ?_
        refine v_iconst C 142 dXM_flushAll_141 rfl (nI 1) (by decide) ?_
        refine v_isub C 143 dXM_flushAll_142 rfl ?_
        refine v_iald C 144 dXM_flushAll_143 rfl hA5 (rs'.length - 1) (pk_sub (by omega)) (show rs'.length - 1 < 520 by omega) (ra_sz_lt 5) ?_
        rw [tv _ (by omega)]
        first | refine v_aload_n C 145 dXM_flushAll_144 rfl rfl ?_ | refine v_aload_nN C 145 dXM_flushAll_144 rfl rfl ?_ | refine v_aload_nQ C 145 dXM_flushAll_144 rfl rfl ?_
        refine gt_XM_25 C 148 dXM_flushAll_145 rfl h'.1 rfl ?_
        first | refine v_aload_n C 149 dXM_flushAll_148 rfl rfl ?_ | refine v_aload_nN C 149 dXM_flushAll_148 rfl rfl ?_ | refine v_aload_nQ C 149 dXM_flushAll_148 rfl rfl ?_
        refine gt_XM_88 C 152 dXM_flushAll_149 rfl h'.1 rfl ?_
        refine v_iconst C 153 dXM_flushAll_152 rfl (nI 2) (by decide) ?_
        refine v_isub C 154 dXM_flushAll_153 rfl ?_
        refine v_iald C 155 dXM_flushAll_154 rfl hA5 (rs'.length - 2) (pk_sub (by omega)) (show rs'.length - 2 < 520 by omega) (ra_sz_lt 5) ?_
        rw [tv _ (by omega)]
        refine v_icmp_ne C 158 204 dXM_flushAll_155 rfl rfl (fun ha => ?_) (fun ha => ?_)
        · exact ext (decide_eq_false (fun z => ha (by rw [z.2.1, z.2.2]))) _
        · rw [nI_eq (by omega) (by omega)] at ha
          first | refine v_aload_n C 159 dXM_flushAll_158 rfl rfl ?_ | refine v_aload_nN C 159 dXM_flushAll_158 rfl rfl ?_ | refine v_aload_nQ C 159 dXM_flushAll_158 rfl rfl ?_
          refine gt_XM_25 C 162 dXM_flushAll_159 rfl h'.1 rfl ?_
          first | refine v_aload_n C 163 dXM_flushAll_162 rfl rfl ?_ | refine v_aload_nN C 163 dXM_flushAll_162 rfl rfl ?_ | refine v_aload_nQ C 163 dXM_flushAll_162 rfl rfl ?_
          refine gt_XM_88 C 166 dXM_flushAll_163 rfl h'.1 rfl ?_
          refine v_iconst C 167 dXM_flushAll_166 rfl (nI 2) (by decide) ?_
          refine v_isub C 168 dXM_flushAll_167 rfl ?_
          refine v_iald C 169 dXM_flushAll_168 rfl hA5 (rs'.length - 2) (pk_sub (by omega)) (show rs'.length - 2 < 520 by omega) (ra_sz_lt 5) ?_
          rw [tv _ (by omega)]
          first | refine v_aload_n C 170 dXM_flushAll_169 rfl rfl ?_ | refine v_aload_nN C 170 dXM_flushAll_169 rfl rfl ?_ | refine v_aload_nQ C 170 dXM_flushAll_169 rfl rfl ?_
          refine gt_XM_25 C 173 dXM_flushAll_170 rfl h'.1 rfl ?_
          first | refine v_aload_n C 174 dXM_flushAll_173 rfl rfl ?_ | refine v_aload_nN C 174 dXM_flushAll_173 rfl rfl ?_ | refine v_aload_nQ C 174 dXM_flushAll_173 rfl rfl ?_
          refine gt_XM_88 C 177 dXM_flushAll_174 rfl h'.1 rfl ?_
          refine v_iconst C 178 dXM_flushAll_177 rfl (nI 3) (by decide) ?_
          refine v_isub C 179 dXM_flushAll_178 rfl ?_
          refine v_iald C 180 dXM_flushAll_179 rfl hA5 (rs'.length - 3) (pk_sub (by omega)) (show rs'.length - 3 < 520 by omega) (ra_sz_lt 5) ?_
          rw [tv _ (by omega)]
          refine v_icmp_ne C 183 204 dXM_flushAll_180 rfl rfl (fun hb => ?_) (fun hb => ?_)
          · exact ext (decide_eq_false (fun z => hb (by rw [z.2.1]))) _
          · rw [nI_eq (by omega) (by omega)] at hb
            have h33 : st_3 rs' = true := decide_eq_true ⟨by omega, hb, ha.trans hb⟩
            first | refine v_aload_n C 184 dXM_flushAll_183 rfl rfl ?_ | refine v_aload_nN C 184 dXM_flushAll_183 rfl rfl ?_ | refine v_aload_nQ C 184 dXM_flushAll_183 rfl rfl ?_
            refine v_iconst C 185 dXM_flushAll_184 rfl (nI 3) (by decide) ?_
            first | refine v_aload_n C 186 dXM_flushAll_185 rfl rfl ?_ | refine v_aload_nN C 186 dXM_flushAll_185 rfl rfl ?_ | refine v_aload_nQ C 186 dXM_flushAll_185 rfl rfl ?_
            refine gt_XM_25 C 189 dXM_flushAll_186 rfl h'.1 rfl ?_
            first | refine v_aload_n C 190 dXM_flushAll_189 rfl rfl ?_ | refine v_aload_nN C 190 dXM_flushAll_189 rfl rfl ?_ | refine v_aload_nQ C 190 dXM_flushAll_189 rfl rfl ?_
            refine gt_XM_88 C 193 dXM_flushAll_190 rfl h'.1 rfl ?_
            refine v_iconst C 194 dXM_flushAll_193 rfl (nI 1) (by decide) ?_
            refine v_isub C 195 dXM_flushAll_194 rfl ?_
            refine v_iald C 196 dXM_flushAll_195 rfl hA5 (rs'.length - 1) (pk_sub (by omega)) (show rs'.length - 1 < 520 by omega) (ra_sz_lt 5) ?_
            rw [tv _ (by omega), ha, hb]
            refine v_iconst C 197 dXM_flushAll_196 rfl (nI 1) (by decide) ?_
            refine v_iadd C 198 dXM_flushAll_197 rfl ?_
            refine v_top _ (.int (nI (st_ti rs' (rs'.length - 3) + 1))) (congrArg Value.int (nI_add _ 1)) ?_
            refine v_rv 201 (cl_XM_94 C ((c_M_join g h' R' (rs'.length - 3) 3 (st_ti rs' (rs'.length - 3) + 1) (by omega) (by omega) h4 h2 (by omega) hnow hgr)) h'.1 dXM_flushAll_198 rfl rfl (Nat.le_of_ble_eq_true rfl) (Nat.le_of_ble_eq_true rfl) (Nat.le_of_ble_eq_true rfl) (by omega) (by omega)) rfl (fun M2 hM2 => ?_)
            obtain ⟨f3, f4, f5, hk2, h2', e4, e5, hao⟩ := hM2
            refine v_goto C 125 dXM_flushAll_201 rfl ?_
            have hR2 := rl_join (tier := st_ti rs' (rs'.length - 3) + 1) R' (show rs'.length - 3 < rs'.length by omega) hok' hao
            have hlen : (st_j (st_now S) (st_gr S) rs' (rs'.length - 3) (st_ti rs' (rs'.length - 3) + 1)).length = rs'.length - 3 + 1 := st_j_len (by omega)
            have hst : st_g (st_now S) (st_gr S) (n + 1) rs' = st_g (st_now S) (st_gr S) n (st_j (st_now S) (st_gr S) rs' (rs'.length - 3) (st_ti rs' (rs'.length - 3) + 1)) := by
              rw [st_g, if_pos h33]
            rw [hst] at fin
            subst e4 e5
            refine ih (st_j (st_now S) (st_gr S) rs' (rs'.length - 3) (st_ti rs' (rs'.length - 3) + 1)) M2 el' _ _ (marks' + 1) mem' logs' safe' (va_up (va_up (va_up f' 4 (upd (f' 4) (rs'.length - 3) (nI (marks' + 1)))) 5 (upd (f' 5) (rs'.length - 3) (nI (st_ti rs' (rs'.length - 3) + 1)))) 3 f3) (by omega) (by omega) (by omega) h4 (hk.tr hk2) (by rw [hlen]; exact h2') hR2 (fun k hk9 => ?_) (fun k hk9 => ?_) (fun M3 ow3 mk3 marks3 f9 a1 a2 a3 a4 a5 a6 => fin M3 ow3 mk3 marks3 f9 a1 a2 a3 a4 a5 (by omega)) _
            · rw [hlen] at hk9
              by_cases hki : k = rs'.length - 3
              · subst hki
                unfold st_tb
                rw [st_j_hi (by omega)]
                refine tb_ok_j (fun t ht => ?_)
                obtain ⟨k', c1, c2, rfl⟩ := mem_dr.mp ht
                exact hok' k' c2
              · unfold st_tb
                rw [st_j_lo (by omega) (by omega)]
                exact hok' k (by omega)
            · rw [hlen] at hk9
              by_cases hki : k = rs'.length - 3
              · subst hki
                unfold st_ti
                rw [st_j_hi (by omega)]
                show st_ti rs' (rs'.length - 3) + 1 + n < 2000000
                omega
              · have := hti' k (by omega)
                unfold st_ti
                rw [st_j_lo (by omega) (by omega)]
                unfold st_ti at this
                omega
  have rets : ∀ (M2 : mp_M) (n3 : Nat), mp_k (ra_P b A) M M2 → rw g M2 b A (st_f S) n1 n3 → n3 ≤ n2 + (st_runs S).length + 3 → ∀ L2, VV g x M2 0 0 204 [some (.ref b), some (.int (nI ml.length)), L2] [] := by
    intro M2 n3 hk2 hr hle L2
    refine v_iload_n C 205 dXM_flushAll_204 rfl rfl ?_
    obtain ⟨ml9, el9, ow9, mk9, marks9, f9, q1, q2, q3, q4, q5, q6, q7, q8⟩ := hr
    refine v_iret C Rx dXM_flushAll_205 (by omega) (by omega) ⟨_, rfl, by rw [hn], hk2, ml9, el9, ow9, mk9, marks9, f9, q1, q2, q3, q4, q5, q6, q7, by omega⟩
  have hmlen : ml.length < 24 := by rw [hn]; exact h24
  first | refine v_aload_n C 1 dXM_flushAll_0 rfl rfl ?_ | refine v_aload_nN C 1 dXM_flushAll_0 rfl rfl ?_ | refine v_aload_nQ C 1 dXM_flushAll_0 rfl rfl ?_
  refine gt_XM_42 C 4 dXM_flushAll_1 rfl h.1 rfl ?_
  refine v_istore_n C 5 _ dXM_flushAll_4 rfl (Nat.lt_of_lt_of_le (Nat.lt_succ_self _) (Nat.le_of_ble_eq_true rfl)) rfl ?_
  refine v_iload_n C 6 dXM_flushAll_5 rfl rfl ?_
  refine v_if_le C 9 125 dXM_flushAll_6 rfl rfl (fun hz => ?_) (fun hz => ?_)
  · have hm0 : ml.length = 0 := (nI_eq (a := ml.length) (b := 0) (by omega) (by decide)).mp (Int32.le_antisymm hz (nI_pos' (by omega)))
    have hs0 : st_f S = S := if_pos (by rw [← hn]; exact hm0)
    have h30 := h3 (by rw [← hn]; exact hm0)
    refine loop (st_runs S).length (st_runs S) M el ow mk marks _ _ _ f (Nat.le_refl _) (by omega) (by omega) (by omega) mp_k.rf h R hoks (fun k hk => by have := hti k hk; omega) (fun M2 ow2 mk2 marks2 f2 a1 a2 a3 a4 a5 a6 L2 => ?_) _
    rw [st_gn _ _ h30] at a4 a5
    refine rets M2 (n2 + (st_runs S).length) a1 ?_ (by omega) _
    rw [hs0]
    exact ⟨ml, el, ow2, mk2, marks2, f2, a4, by rw [a2]; exact hl0, ht, hn, by rw [a3]; exact hl1, a5, hb1, by omega⟩
  · have hm1 : 0 < ml.length := by
      rcases Nat.eq_zero_or_pos ml.length with z | z
      · rw [z] at hz
        exact absurd (Int32.le_refl _) hz
      · exact z
    have hsf : st_f S = (st_cap S, st_gr S, st_now S, tb_0, [], 0, st_g (st_now S) (st_gr S) ((st_runs S).length + 1) (st_runs S ++ [(0, st_mem S)])) := if_neg (by rw [← hn]; omega)
    have cp : ∀ (n m : Nat) (M' : mp_M) (f2 f3 : Nat → Int32), m + n = ml.length → mp_k (ra_P b A) M M' → ra_M g M' b A (st_cap S) (st_gr S) (st_now S) ml.length (st_log S).length (st_safe S) (el.length + m) (st_runs S).length (marks + 1) (va_up (va_up f 2 f2) 3 f3) → lw f2 (el ++ ml.take m) → (∀ i, i < el.length → f3 i = nI (ow i)) → (∀ i, el.length ≤ i → i < el.length + m → f3 i = nI (marks + 1)) → (∀ (M' : mp_M) (f2 f3 : Nat → Int32), mp_k (ra_P b A) M M' → ra_M g M' b A (st_cap S) (st_gr S) (st_now S) ml.length (st_log S).length (st_safe S) (el.length + ml.length) (st_runs S).length (marks + 1) (va_up (va_up f 2 f2) 3 f3) → lw f2 (el ++ ml) → (∀ i, i < el.length → f3 i = nI (ow i)) → (∀ i, el.length ≤ i → i < el.length + ml.length → f3 i = nI (marks + 1)) → ∀ L2, VV g x M' 0 0 77 [some (.ref b), some (.int (nI ml.length)), L2] []) → VV g x M' 0 0 21 [some (.ref b), some (.int (nI ml.length)), some (.int (nI m))] [] := by
      intro n
      induction n with
      | zero =>
        intro m M' f2 f3 hm hk h' q1 q2 q3 fin
        have hml9 : m = ml.length := by omega
        subst hml9
        refine v_iload_n C 22 dXM_flushAll_21 rfl rfl ?_
        refine v_iload_n C 23 dXM_flushAll_22 rfl rfl ?_
        refine v_icmp_ge C 26 77 dXM_flushAll_23 rfl rfl (fun h9 => ?_) (fun h9 => False.elim (by first | exact h9 (nI_le (Nat.le_refl ml.length) (by omega)) | exact absurd h9 (nI_le (Nat.le_refl ml.length) (by omega))))
        rw [List.take_length] at q1
        exact fin M' f2 f3 hk h' q1 q2 q3 _
      | succ n ih =>
        intro m M' f2 f3 hm hk h' q1 q2 q3 fin
        obtain ⟨e, he⟩ : ∃ e, ml[m]? = some e := ⟨_, List.getElem?_eq_getElem (show m < ml.length by omega)⟩
        obtain ⟨hwe, ok⟩ := hl0 m e he
        have hA0 := h'.2.1 0 (by decide)
        have hA2 := h'.2.1 2 (by decide)
        rw [va_up_ne _ _ (by decide), va_up_ne _ _ (by decide)] at hA0
        rw [va_up_ne _ _ (by decide), va_up_self] at hA2
        have hne : A 0 ≠ A 2 := fun z => by have := h'.2.2 0 2 (by decide) (by decide) z; omega
        refine v_iload_n C 22 dXM_flushAll_21 rfl rfl ?_
        refine v_iload_n C 23 dXM_flushAll_22 rfl rfl ?_
        refine v_icmp_ge C 26 77 dXM_flushAll_23 rfl rfl (fun h9 => False.elim (by first | exact h9 (nI_ge (show m < ml.length by omega) (by omega)) | exact absurd h9 (nI_ge (show m < ml.length by omega) (by omega)))) (fun h9 => ?_)
        first | refine v_aload_n C 27 dXM_flushAll_26 rfl rfl ?_ | refine v_aload_nN C 27 dXM_flushAll_26 rfl rfl ?_ | refine v_aload_nQ C 27 dXM_flushAll_26 rfl rfl ?_
        refine gt_XM_7 C 30 dXM_flushAll_27 rfl h'.1 rfl ?_
        refine v_bipush C 32 dXM_flushAll_30 rfl (nI 7) (by decide) ?_
        refine v_iload_n C 33 dXM_flushAll_32 rfl rfl ?_
        refine v_imul C 34 dXM_flushAll_33 rfl ?_
        refine v_top _ (.int (nI (7 * m))) (congrArg Value.int (pk_mul 7 m)) ?_
        first | refine v_aload_n C 35 dXM_flushAll_34 rfl rfl ?_ | refine v_aload_nN C 35 dXM_flushAll_34 rfl rfl ?_ | refine v_aload_nQ C 35 dXM_flushAll_34 rfl rfl ?_
        refine gt_XM_16 C 38 dXM_flushAll_35 rfl h'.1 rfl ?_
        refine v_bipush C 40 dXM_flushAll_38 rfl (nI 7) (by decide) ?_
        first | refine v_aload_n C 41 dXM_flushAll_40 rfl rfl ?_ | refine v_aload_nN C 41 dXM_flushAll_40 rfl rfl ?_ | refine v_aload_nQ C 41 dXM_flushAll_40 rfl rfl ?_
        refine gt_XM_85 C 44 dXM_flushAll_41 rfl h'.1 rfl ?_
        refine v_imul C 45 dXM_flushAll_44 rfl ?_
        refine v_top _ (.int (nI (7 * (el.length + m)))) (congrArg Value.int (pk_mul 7 _)) ?_
        refine v_rv 48 (cl_XM_52 C ((c_M_copy g hA0 hA2 hne (ra_sz_lt 0) (ra_sz_lt 2) (show 7 * m + 6 < 168 by omega) (show 7 * (el.length + m) + 6 < 3640 by omega))) dXM_flushAll_45 rfl rfl (Nat.le_of_ble_eq_true rfl) (Nat.le_of_ble_eq_true rfl) (Nat.le_of_ble_eq_true rfl) (by omega) (by omega)) rfl (fun M1 hM1 => ?_)
        subst hM1
        have h2 := ra_up h' 2 (by decide) (cp7 (f 0) f2 (7 * m) (7 * (el.length + m)) 7)
        rw [va_cm _ _ _ (show 3 ≠ 2 by decide), bx_uu] at h2
        have hB3 := h2.2.1 3 (by decide)
        rw [va_up_self] at hB3
        first | refine v_aload_n C 49 dXM_flushAll_48 rfl rfl ?_ | refine v_aload_nN C 49 dXM_flushAll_48 rfl rfl ?_ | refine v_aload_nQ C 49 dXM_flushAll_48 rfl rfl ?_
        refine gt_XM_19 C 52 dXM_flushAll_49 rfl h2.1 rfl ?_
        first | refine v_aload_n C 53 dXM_flushAll_52 rfl rfl ?_ | refine v_aload_nN C 53 dXM_flushAll_52 rfl rfl ?_ | refine v_aload_nQ C 53 dXM_flushAll_52 rfl rfl ?_
        refine gt_XM_85 C 56 dXM_flushAll_53 rfl h2.1 rfl ?_
        first | refine v_aload_n C 57 dXM_flushAll_56 rfl rfl ?_ | refine v_aload_nN C 57 dXM_flushAll_56 rfl rfl ?_ | refine v_aload_nQ C 57 dXM_flushAll_56 rfl rfl ?_
        refine gt_XM_82 C 60 dXM_flushAll_57 rfl h2.1 rfl ?_
        refine v_iast C 61 dXM_flushAll_60 rfl hB3 (el.length + m) rfl (show el.length + m < 520 by omega) (ra_sz_lt 3) ?_
        have h4 := ra_up h2 3 (by decide) (upd f3 (el.length + m) (nI (marks + 1)))
        rw [bx_uu] at h4
        first | refine v_aload_n C 62 dXM_flushAll_61 rfl rfl ?_ | refine v_aload_nN C 62 dXM_flushAll_61 rfl rfl ?_ | refine v_aload_nQ C 62 dXM_flushAll_61 rfl rfl ?_
        refine v_dup C 63 dXM_flushAll_62 rfl rfl ?_
        refine gt_XM_85 C 66 dXM_flushAll_63 rfl h4.1 rfl ?_
        refine v_iconst C 67 dXM_flushAll_66 rfl (nI 1) (by decide) ?_
        refine v_iadd C 68 dXM_flushAll_67 rfl ?_
        refine v_top _ (.int (nI (el.length + m + 1))) (congrArg Value.int (nI_add _ 1)) ?_
        refine pt_XM_85 C 71 dXM_flushAll_68 rfl rfl rfl h4.1 (Nat.lt_of_lt_of_le (Nat.lt_succ_self _) (Nat.le_of_ble_eq_true rfl)) (ob_M A (st_cap S) (st_gr S) (st_now S) ml.length (st_log S).length (st_safe S) (el.length + m + 1) (st_runs S).length (marks + 1)) rfl ?_
        have h5 := ra_put h4 (now' := st_now S) (mem' := ml.length) (logs' := (st_log S).length) (safe' := st_safe S) (fl' := el.length + m + 1) (runs' := (st_runs S).length) (marks' := marks + 1)
        refine v_iinc C 74 _ (nI (m + 1)) dXM_flushAll_71 rfl rfl (nI_1 m) rfl ?_
        refine v_goto C 21 dXM_flushAll_74 rfl ?_
        have hlt2 : (el ++ ml.take m).length = el.length + m := by
          rw [List.length_append, List.length_take, Nat.min_eq_left (by omega)]
        have hq1 := lw_app (f := f 0) (p := 7 * m) q1 hwe ok
        rw [hlt2] at hq1
        have htk : el ++ ml.take m ++ [e] = el ++ ml.take (m + 1) := by
          rw [List.append_assoc, List.take_add_one, he]
          rfl
        rw [htk] at hq1
        refine ih (m + 1) _ _ _ (by omega) (hk.tr ((ra_ku (by decide)).tr ((ra_ku (by decide)).tr ra_kb))) h5 hq1 (fun i hi => ?_) (fun i hi1 hi2 => ?_) fin
        · rw [pk_un (by omega)]
          exact q2 i hi
        · by_cases hie : i = el.length + m
          · rw [hie, pk_us]
          · rw [pk_un hie]
            exact q3 i hi1 (by omega)
    first | refine v_aload_n C 10 dXM_flushAll_9 rfl rfl ?_ | refine v_aload_nN C 10 dXM_flushAll_9 rfl rfl ?_ | refine v_aload_nQ C 10 dXM_flushAll_9 rfl rfl ?_
    refine v_dup C 11 dXM_flushAll_10 rfl rfl ?_
    refine gt_XM_82 C 14 dXM_flushAll_11 rfl h.1 rfl ?_
    refine v_iconst C 15 dXM_flushAll_14 rfl (nI 1) (by decide) ?_
    refine v_iadd C 16 dXM_flushAll_15 rfl ?_
    refine v_top _ (.int (nI (marks + 1))) (congrArg Value.int (nI_add marks 1)) ?_
    refine pt_XM_82 C 19 dXM_flushAll_16 rfl rfl rfl h.1 (Nat.lt_of_lt_of_le (Nat.lt_succ_self _) (Nat.le_of_ble_eq_true rfl)) (ob_M A (st_cap S) (st_gr S) (st_now S) ml.length (st_log S).length (st_safe S) el.length (st_runs S).length (marks + 1)) rfl ?_
    have hp := ra_put h (now' := st_now S) (mem' := ml.length) (logs' := (st_log S).length) (safe' := st_safe S) (fl' := el.length) (runs' := (st_runs S).length) (marks' := marks + 1)
    refine v_iconst C 20 dXM_flushAll_19 rfl (nI 0) (by decide) ?_
    refine v_istore_n C 21 _ dXM_flushAll_20 rfl (Nat.lt_of_lt_of_le (Nat.lt_succ_self _) (Nat.le_of_ble_eq_true rfl)) rfl ?_
    refine cp ml.length 0 _ (f 2) (f 3) (by omega) ra_kb ?_ ?_ (fun i hi => (R.2.1 i hi).1) (fun i hi1 hi2 => by omega) (fun M' f2 f3 hk h' q1 q2 q3 L2 => ?_)
    · rw [va_up_id, va_up_id]
      exact hp
    · rw [List.take_zero, List.append_nil]
      exact R.1
    · have hA4 := h'.2.1 4 (by decide)
      rw [va_up_ne _ _ (by decide), va_up_ne _ _ (by decide)] at hA4
      first | refine v_aload_n C 78 dXM_flushAll_77 rfl rfl ?_ | refine v_aload_nN C 78 dXM_flushAll_77 rfl rfl ?_ | refine v_aload_nQ C 78 dXM_flushAll_77 rfl rfl ?_
      refine gt_XM_22 C 81 dXM_flushAll_78 rfl h'.1 rfl ?_
      first | refine v_aload_n C 82 dXM_flushAll_81 rfl rfl ?_ | refine v_aload_nN C 82 dXM_flushAll_81 rfl rfl ?_ | refine v_aload_nQ C 82 dXM_flushAll_81 rfl rfl ?_
      refine gt_XM_88 C 85 dXM_flushAll_82 rfl h'.1 rfl ?_
      first | refine v_aload_n C 86 dXM_flushAll_85 rfl rfl ?_ | refine v_aload_nN C 86 dXM_flushAll_85 rfl rfl ?_ | refine v_aload_nQ C 86 dXM_flushAll_85 rfl rfl ?_
      refine gt_XM_82 C 89 dXM_flushAll_86 rfl h'.1 rfl ?_
      refine v_iast C 90 dXM_flushAll_89 rfl hA4 (st_runs S).length rfl (show (st_runs S).length < 520 by omega) (ra_sz_lt 4) ?_
      have h2 := ra_up h' 4 (by decide) (upd (f 4) (st_runs S).length (nI (marks + 1)))
      have hA5 := h2.2.1 5 (by decide)
      rw [va_up_ne _ _ (by decide), va_up_ne _ _ (by decide), va_up_ne _ _ (by decide)] at hA5
      first | refine v_aload_n C 91 dXM_flushAll_90 rfl rfl ?_ | refine v_aload_nN C 91 dXM_flushAll_90 rfl rfl ?_ | refine v_aload_nQ C 91 dXM_flushAll_90 rfl rfl ?_
      refine gt_XM_25 C 94 dXM_flushAll_91 rfl h2.1 rfl ?_
      first | refine v_aload_n C 95 dXM_flushAll_94 rfl rfl ?_ | refine v_aload_nN C 95 dXM_flushAll_94 rfl rfl ?_ | refine v_aload_nQ C 95 dXM_flushAll_94 rfl rfl ?_
      refine gt_XM_88 C 98 dXM_flushAll_95 rfl h2.1 rfl ?_
      refine v_iconst C 99 dXM_flushAll_98 rfl (nI 0) (by decide) ?_
      refine v_iast C 100 dXM_flushAll_99 rfl hA5 (st_runs S).length rfl (show (st_runs S).length < 520 by omega) (ra_sz_lt 5) ?_
      have h5 := ra_up h2 5 (by decide) (upd (f 5) (st_runs S).length (nI 0))
      first | refine v_aload_n C 101 dXM_flushAll_100 rfl rfl ?_ | refine v_aload_nN C 101 dXM_flushAll_100 rfl rfl ?_ | refine v_aload_nQ C 101 dXM_flushAll_100 rfl rfl ?_
      refine v_dup C 102 dXM_flushAll_101 rfl rfl ?_
      refine gt_XM_88 C 105 dXM_flushAll_102 rfl h5.1 rfl ?_
      refine v_iconst C 106 dXM_flushAll_105 rfl (nI 1) (by decide) ?_
      refine v_iadd C 107 dXM_flushAll_106 rfl ?_
      refine v_top _ (.int (nI ((st_runs S).length + 1))) (congrArg Value.int (nI_add _ 1)) ?_
      refine pt_XM_88 C 110 dXM_flushAll_107 rfl rfl rfl h5.1 (Nat.lt_of_lt_of_le (Nat.lt_succ_self _) (Nat.le_of_ble_eq_true rfl)) (ob_M A (st_cap S) (st_gr S) (st_now S) ml.length (st_log S).length (st_safe S) (el.length + ml.length) ((st_runs S).length + 1) (marks + 1)) rfl ?_
      first | refine v_aload_n C 111 dXM_flushAll_110 rfl rfl ?_ | refine v_aload_nN C 111 dXM_flushAll_110 rfl rfl ?_ | refine v_aload_nQ C 111 dXM_flushAll_110 rfl rfl ?_
      refine v_iconst C 112 dXM_flushAll_111 rfl (nI 0) (by decide) ?_
      refine pt_XM_42 C 115 dXM_flushAll_112 rfl rfl rfl mp_us (Nat.lt_of_lt_of_le (Nat.lt_succ_self _) (Nat.le_of_ble_eq_true rfl)) (ob_M A (st_cap S) (st_gr S) (st_now S) 0 (st_log S).length (st_safe S) (el.length + ml.length) ((st_runs S).length + 1) (marks + 1)) rfl ?_
      first | refine v_aload_n C 116 dXM_flushAll_115 rfl rfl ?_ | refine v_aload_nN C 116 dXM_flushAll_115 rfl rfl ?_ | refine v_aload_nQ C 116 dXM_flushAll_115 rfl rfl ?_
      refine v_iconst C 117 dXM_flushAll_116 rfl (nI 0) (by decide) ?_
      refine pt_XM_56 C 120 dXM_flushAll_117 rfl rfl rfl mp_us (Nat.lt_of_lt_of_le (Nat.lt_succ_self _) (Nat.le_of_ble_eq_true rfl)) (ob_M A (st_cap S) (st_gr S) (st_now S) 0 0 (st_safe S) (el.length + ml.length) ((st_runs S).length + 1) (marks + 1)) rfl ?_
      first | refine v_aload_n C 121 dXM_flushAll_120 rfl rfl ?_ | refine v_aload_nN C 121 dXM_flushAll_120 rfl rfl ?_ | refine v_aload_nQ C 121 dXM_flushAll_120 rfl rfl ?_
      refine v_iconst C 122 dXM_flushAll_121 rfl (nI 0) (by decide) ?_
      refine pt_XM_91 C 125 dXM_flushAll_122 rfl rfl rfl mp_us (Nat.lt_of_lt_of_le (Nat.lt_succ_self _) (Nat.le_of_ble_eq_true rfl)) (ob_M A (st_cap S) (st_gr S) (st_now S) 0 0 0 (el.length + ml.length) ((st_runs S).length + 1) (marks + 1)) rfl ?_
      rw [mp_uu, mp_uu, mp_uu]
      have h6 := ra_put h5 (now' := st_now S) (mem' := 0) (logs' := 0) (safe' := 0) (fl' := el.length + ml.length) (runs' := (st_runs S).length + 1) (marks' := marks + 1)
      have hkk := hk.tr ((ra_ku (b := b) (A := A) (i := 4) (by decide) (e := ar_i (gx_I g) (ra_sz 4) (upd (f 4) (st_runs S).length (nI (marks + 1))))).tr ((ra_ku (b := b) (A := A) (i := 5) (by decide) (e := ar_i (gx_I g) (ra_sz 5) (upd (f 5) (st_runs S).length (nI 0)))).tr (ra_kb (b := b) (A := A) (e := .inr (ci_M, ob_M A (st_cap S) (st_gr S) (st_now S) 0 0 0 (el.length + ml.length) ((st_runs S).length + 1) (marks + 1))))))
      have hR := rl_push (f3 := f3) R q1 ht q2 q3
      have hlen := st_len_app (rs := st_runs S) (r := (0, st_mem S))
      refine loop ((st_runs S).length + 1) (st_runs S ++ [(0, st_mem S)]) _ (el ++ ml) (fun i => if i < el.length then ow i else marks + 1) (va_up mk (st_runs S).length (marks + 1)) (marks + 1) 0 0 0 (va_up (va_up (va_up (va_up f 2 f2) 3 f3) 4 (upd (f 4) (st_runs S).length (nI (marks + 1)))) 5 (upd (f 5) (st_runs S).length (nI 0))) (by omega) (by omega) (by omega) (by rw [List.length_append]; omega) hkk (by rw [List.length_append, hlen]; exact h6) hR (fun k hk9 => ?_) (fun k hk9 => ?_) (fun M2 ow2 mk2 marks2 f9 a1 a2 a3 a4 a5 a6 L2 => ?_) _
      · rw [hlen] at hk9
        unfold st_tb
        by_cases hki : k = (st_runs S).length
        · rw [hki, st_app_hi]
          exact hok
        · rw [st_app_lo (by omega)]
          exact hoks k (by omega)
      · rw [hlen] at hk9
        unfold st_ti
        by_cases hki : k = (st_runs S).length
        · rw [hki, st_app_hi]
          show 0 + _ < 2000000
          omega
        · have := hti k (by omega)
          rw [st_app_lo (by omega)]
          unfold st_ti at this
          omega
      · refine rets M2 (marks + 1 + ((st_runs S).length + 1)) a1 ?_ (by omega) _
        rw [hsf]
        exact ⟨[], el ++ ml, ow2, mk2, marks2, f9, a4, lw_nil, tr_nil, tb_n_0.symm, lw_nil, a5, by rw [List.length_append]; show el.length + ml.length + 0 ≤ n1; omega, a6⟩

