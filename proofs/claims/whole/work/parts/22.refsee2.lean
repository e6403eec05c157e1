theorem st_v_np {S : st_S} {r c : Int32} (h : pl r c = false) : st_v S r c = none := if_neg (of_decide_eq_false h)
theorem st_v_pl {S : st_S} {i j : Nat} (hi : i < 16) (hj : j < 8) : st_v S (nI i) (nI j) = (match st_w S (i * 8 + j) with
    | none => none
    | some e => if en_k e = 0 ∧ st_now S < en_t e ∧ bo (st_cov S i j (en_p e)) = false then some e else none) := by
  unfold st_v
  rw [nI_toInt (by omega), nI_toInt (by omega), if_pos ⟨by omega, by omega, by omega, by omega⟩]
  rfl
theorem st_v_no {S : st_S} {i j : Nat} {e : en_E} (hi : i < 16) (hj : j < 8) (hw : st_w S (i * 8 + j) = some e) (hn : ¬ (en_k e = 0 ∧ st_now S < en_t e ∧ bo (st_cov S i j (en_p e)) = false)) : st_v S (nI i) (nI j) = none := by
  rw [st_v_pl hi hj, hw]
  exact if_neg hn
theorem st_v_ye {S : st_S} {i j : Nat} {e : en_E} (hi : i < 16) (hj : j < 8) (hw : st_w S (i * 8 + j) = some e) (hn : en_k e = 0 ∧ st_now S < en_t e ∧ bo (st_cov S i j (en_p e)) = false) : st_v S (nI i) (nI j) = some e := by
  rw [st_v_pl hi hj, hw]
  exact if_pos hn
theorem cov_iff {fe fo fk ft : Nat → Int32} {ml el : List en_E} {ow mk : Nat → Nat} {marks : Nat} {S : st_S} (ht : tr ml (fun _ => True) (st_mem S)) (R : rl_r fe fo fk ft el ow mk marks (st_runs S)) (hoks : ∀ k, k < (st_runs S).length → tb_ok (st_tb (st_runs S) k)) {i j p : Nat} : st_cov S i j p ↔ ((∃ (q : Nat) (e : en_E), el[q]? = some e ∧ 0 < ow q ∧ en_cv e i j p) ∨ ∃ (m : Nat) (e : en_E), ml[m]? = some e ∧ en_cv e i j p) := by
  constructor
  · rintro (⟨s, e, h1, h2⟩ | ⟨t, h1, s, e, h2, h3⟩)
    · obtain ⟨m, a1, -⟩ := ht.2.1 s e h1
      exact Or.inr ⟨m, e, a1, h2⟩
    · obtain ⟨q, a1, a2, a3⟩ := (rl_mem R hoks).mpr ⟨t, h1, h2⟩
      exact Or.inl ⟨q, e, a1, a2, h3⟩
  · rintro (⟨q, e, h1, h2, h3⟩ | ⟨m, e, h1, h2⟩)
    · obtain ⟨t, a1, a2⟩ := (rl_mem R hoks).mp ⟨q, h1, h2, rfl⟩
      exact Or.inr ⟨t, a1, en_s e, e, a2, h3⟩
    · exact Or.inl ⟨en_s e, e, ht.1 m e h1 trivial, h2⟩
set_option maxHeartbeats 4000000 in
set_option maxRecDepth 100000 in
theorem c_M_isPlace (g : gx_T) {M : mp_M} (r c : Int32) : Ct g yXM_isPlace cXM_isPlace 2 (some .boolean) 1 [.int r, .int c] M (pi_ (fun v M' => M = M' ∧ v = bI (pl r c))) 0 0 := by
  refine ct_intro (L0 := [some (.int r), some (.int c)]) (by decide) (Nat.le_of_ble_eq_true rfl) rfl rfl (fun x C Rx I => ?_)
  have k15 : (nI 15).toInt = 15 := by decide
  have k7 : (nI 7).toInt = 7 := by decide
  have z : pl r c = false → VV g x M 0 0 24 [some (.int r), some (.int c)] [] := fun h => by
    refine v_iconst C 25 dXM_isPlace_24 rfl (nI 0) (by decide) ?_
    refine v_zret C Rx dXM_isPlace_25 (by omega) (by omega) (Or.inl rfl) ⟨_, rfl, rfl, (bI_f h).symm⟩
  refine v_iload_n C 1 dXM_isPlace_0 rfl rfl ?_
  refine v_if_lt C 4 24 dXM_isPlace_1 rfl rfl (fun h1 => ?_) (fun h1 => ?_)
  · exact z (decide_eq_false (fun q => by rw [Int32.lt_iff_toInt_lt, i0] at h1; omega))
  · refine v_iload_n C 5 dXM_isPlace_4 rfl rfl ?_
    refine v_bipush C 7 dXM_isPlace_5 rfl (nI 15) (by decide) ?_
    refine v_icmp_gt C 10 24 dXM_isPlace_7 rfl rfl (fun h2 => ?_) (fun h2 => ?_)
    · exact z (decide_eq_false (fun q => by rw [Int32.lt_iff_toInt_lt, k15] at h2; omega))
    · refine v_iload_n C 11 dXM_isPlace_10 rfl rfl ?_
      refine v_if_lt C 14 24 dXM_isPlace_11 rfl rfl (fun h3 => ?_) (fun h3 => ?_)
      · exact z (decide_eq_false (fun q => by rw [Int32.lt_iff_toInt_lt, i0] at h3; omega))
      · refine v_iload_n C 15 dXM_isPlace_14 rfl rfl ?_
        refine v_bipush C 17 dXM_isPlace_15 rfl (nI 7) (by decide) ?_
        refine v_icmp_gt C 20 24 dXM_isPlace_17 rfl rfl (fun h4 => ?_) (fun h4 => ?_)
        · exact z (decide_eq_false (fun q => by rw [Int32.lt_iff_toInt_lt, k7] at h4; omega))
        · refine v_iconst C 21 dXM_isPlace_20 rfl (nI 1) (by decide) ?_
          refine v_goto C 25 dXM_isPlace_21 rfl ?_
          rw [Int32.lt_iff_toInt_lt, i0] at h1 h3
          rw [Int32.lt_iff_toInt_lt, k15] at h2
          rw [Int32.lt_iff_toInt_lt, k7] at h4
          refine v_zret C Rx dXM_isPlace_25 (by omega) (by omega) (Or.inr rfl) ⟨_, rfl, rfl, (bI_t (decide_eq_true ⟨by omega, by omega, by omega, by omega⟩)).symm⟩
set_option maxHeartbeats 4000000 in
set_option maxRecDepth 100000 in
theorem c_M_isStamp (g : gx_T) {M : mp_M} (p : Int32) : Ct g yXM_isStamp cXM_isStamp 1 (some .boolean) 1 [.int p] M (pi_ (fun v M' => M = M' ∧ v = bI (sp_ok p))) 0 0 := by
  refine ct_intro (L0 := [some (.int p)]) (by decide) (Nat.le_of_ble_eq_true rfl) rfl rfl (fun x C Rx I => ?_)
  have k9 : (nI 9999).toInt = 9999 := by decide
  have z : sp_ok p = false → VV g x M 0 0 15 [some (.int p)] [] := fun h => by
    refine v_iconst C 16 dXM_isStamp_15 rfl (nI 0) (by decide) ?_
    refine v_zret C Rx dXM_isStamp_16 (by omega) (by omega) (Or.inl rfl) ⟨_, rfl, rfl, (bI_f h).symm⟩
  refine v_iload_n C 1 dXM_isStamp_0 rfl rfl ?_
  refine v_if_lt C 4 15 dXM_isStamp_1 rfl rfl (fun h1 => ?_) (fun h1 => ?_)
  · exact z (decide_eq_false (fun q => by rw [Int32.lt_iff_toInt_lt, i0] at h1; omega))
  · refine v_iload_n C 5 dXM_isStamp_4 rfl rfl ?_
    refine v_sipush C 8 dXM_isStamp_5 rfl (nI 9999) (by decide) ?_
    refine v_icmp_gt C 11 15 dXM_isStamp_8 rfl rfl (fun h2 => ?_) (fun h2 => ?_)
    · exact z (decide_eq_false (fun q => by rw [Int32.lt_iff_toInt_lt, k9] at h2; omega))
    · refine v_iconst C 12 dXM_isStamp_11 rfl (nI 1) (by decide) ?_
      refine v_goto C 16 dXM_isStamp_12 rfl ?_
      rw [Int32.lt_iff_toInt_lt, i0] at h1
      rw [Int32.lt_iff_toInt_lt, k9] at h2
      refine v_zret C Rx dXM_isStamp_16 (by omega) (by omega) (Or.inr rfl) ⟨_, rfl, rfl, (bI_t (decide_eq_true ⟨by omega, by omega⟩)).symm⟩
set_option maxHeartbeats 4000000 in
set_option maxRecDepth 100000 in
theorem c_M_seen (g : gx_T) {M : mp_M} {b : Nat} {A : Nat → Nat} {S : st_S} {ml el : List en_E} {ow mk : Nat → Nat} {marks : Nat} {f : Nat → Nat → Int32} (h : ra_M g M b A (st_cap S) (st_gr S) (st_now S) ml.length (st_log S).length (st_safe S) el.length (st_runs S).length marks f) (hl0 : lw (f 0) ml) (ht : tr ml (fun _ => True) (st_mem S)) (R : rl_r (f 2) (f 3) (f 4) (f 5) el ow mk marks (st_runs S)) (hel : el.length ≤ 520) (hml : ml.length < 24) (hmk : marks < 1000000) (hok : tb_ok (st_mem S)) (hoks : ∀ k, k < (st_runs S).length → tb_ok (st_tb (st_runs S) k)) (hnow : st_now S ≤ 100000) (r c : Int32) : Ct g yXM_seen cXM_seen 5 (some .boolean) 4 [.ref b, .int r, .int c] M (pi_ (fun v M' => ∃ f6 : Nat → Int32, M' = mp_u M (A 6) (ar_i (gx_I g) 7 f6) ∧ v = bI (st_v S r c).isSome ∧ ∀ e, st_v S r c = some e → rw_e f6 0 e)) 0 0 := by
  refine ct_intro (L0 := [some (.ref b), some (.int r), some (.int c), none, none]) (by decide) (Nat.le_of_ble_eq_true rfl) rfl rfl (fun x C Rx I => ?_)
  obtain ⟨R1, R2, R3, R4, R5, R6⟩ := id R
  have hA0 := h.2.1 0 (by decide)
  have hA2 := h.2.1 2 (by decide)
  have hA3 := h.2.1 3 (by decide)
  have hA6 := h.2.1 6 (by decide)
  have hM6 : mp_u M (A 6) (ar_i (gx_I g) 7 (f 6)) = M := mp_same hA6
  have quit : ∀ L4, st_v S r c = none → VV g x M 0 0 26 [some (.ref b), some (.int r), some (.int c), some (.int (-1000000)), L4] [] := by
    intro L4 hz
    refine v_iconst C 27 dXM_seen_26 rfl (nI 0) (by decide) ?_
    refine v_zret C Rx dXM_seen_27 (by omega) (by omega) (Or.inl rfl) ⟨_, rfl, f 6, hM6.symm, by rw [hz]; rfl, fun e z => by rw [hz] at z; cases z⟩
  refine v_iload_n C 1 dXM_seen_0 rfl rfl ?_
  refine v_iload_n C 2 dXM_seen_1 rfl rfl ?_
  refine v_ri 5 (cl_XM_67 C ((c_M_isPlace g (M := M) r c)) dXM_seen_2 rfl rfl (Nat.le_of_ble_eq_true rfl) (Nat.le_of_ble_eq_true rfl) (Nat.le_of_ble_eq_true rfl) (by omega) (by omega)) rfl (fun v M1 hv => ?_)
  obtain ⟨rfl, rfl⟩ := hv
  refine v_if_eq C 8 17 dXM_seen_5 rfl rfl (fun hp => ?_) (fun hp => ?_)
  · rw [bI_0] at hp
    refine ld_XM_106 C 19 dXM_seen_17 rfl ?_
    refine v_istore_n C 20 _ dXM_seen_19 rfl (Nat.lt_of_lt_of_le (Nat.lt_succ_self _) (Nat.le_of_ble_eq_true rfl)) rfl ?_
    refine v_iload_n C 21 dXM_seen_20 rfl rfl ?_
    refine ld_XM_106 C 23 dXM_seen_21 rfl ?_
    refine v_icmp_ne C 26 28 dXM_seen_23 rfl rfl (fun h9 => False.elim (by first | exact h9 ((fun z => z rfl)) | exact absurd h9 ((fun z => z rfl)))) (fun h9 => ?_)
    exact quit _ (st_v_np hp)
  · obtain ⟨i, j, hi, hj, rfl, rfl⟩ := pl_of (r := r) (c := c) (by cases hz : pl r c with | true => rfl | false => exact absurd (bI_0.mpr hz) hp)
    first | refine v_aload_n C 9 dXM_seen_8 rfl rfl ?_ | refine v_aload_nN C 9 dXM_seen_8 rfl rfl ?_ | refine v_aload_nQ C 9 dXM_seen_8 rfl rfl ?_
    refine v_iload_n C 10 dXM_seen_9 rfl rfl ?_
    refine v_iload_n C 11 dXM_seen_10 rfl rfl ?_
    refine v_ri 14 (cl_XM_107 C ((c_M_winner g h hl0 ht R hel hml hmk hok hoks i j hi hj)) h.1 dXM_seen_11 rfl rfl (Nat.le_of_ble_eq_true rfl) (Nat.le_of_ble_eq_true rfl) (Nat.le_of_ble_eq_true rfl) (by omega) (by omega)) rfl (fun v M1 hv => ?_)
    obtain ⟨rfl, hwn⟩ := hv
    refine v_goto C 19 dXM_seen_14 rfl ?_
    refine v_istore_n C 20 _ dXM_seen_19 rfl (Nat.lt_of_lt_of_le (Nat.lt_succ_self _) (Nat.le_of_ble_eq_true rfl)) rfl ?_
    refine v_iload_n C 21 dXM_seen_20 rfl rfl ?_
    refine ld_XM_106 C 23 dXM_seen_21 rfl ?_
    have aft : ∀ (e : en_E), st_w S (i * 8 + j) = some e → ∀ (f6 : Nat → Int32), rw_e f6 0 e → ∀ L3 L4, VV g x (mp_u M (A 6) (ar_i (gx_I g) 7 f6)) 0 0 62 [some (.ref b), some (.int (nI i)), some (.int (nI j)), L3, L4] [] := by
      intro e hw f6 h6 L3 L4
      have h' := ra_up h 6 (by decide) f6
      have hB0 := h'.2.1 0 (by decide)
      have hB2 := h'.2.1 2 (by decide)
      have hB3 := h'.2.1 3 (by decide)
      rw [va_up_ne _ _ (by decide)] at hB0 hB2 hB3
      have ok : en_ok e := by
        have := st_w_X S (i * 8 + j)
        rw [hw] at this
        rcases this.1 with z | z
        · exact (hok _ _ z).1
        · obtain ⟨q, a1, -⟩ := (rl_mem R hoks).mpr z
          exact (R1 q e a1).2
      have o1 := ok.1
      have o2 := ok.2.2.2.2.2.1
      have o3 := ok.2.2.2.2.2.2.2
      have end0 : ∀ pc, pc = 95 ∨ pc = 142 ∨ pc = 185 → ¬ (en_k e = 0 ∧ st_now S < en_t e ∧ bo (st_cov S i j (en_p e)) = false) → ∀ L3 L4, VV g x (mp_u M (A 6) (ar_i (gx_I g) 7 f6)) 0 0 pc [some (.ref b), some (.int (nI i)), some (.int (nI j)), L3, L4] [] := by
        intro pc hpc hno L3 L4
        have hz := st_v_no hi hj hw hno
        rcases hpc with rfl | rfl | rfl
        · refine v_iconst C 96 dXM_seen_95 rfl (nI 0) (by decide) ?_
          refine v_zret C Rx dXM_seen_96 (by omega) (by omega) (Or.inl rfl) ⟨_, rfl, f6, rfl, by rw [hz]; rfl, fun e z => by rw [hz] at z; cases z⟩
        · refine v_iconst C 143 dXM_seen_142 rfl (nI 0) (by decide) ?_
          refine v_zret C Rx dXM_seen_143 (by omega) (by omega) (Or.inl rfl) ⟨_, rfl, f6, rfl, by rw [hz]; rfl, fun e z => by rw [hz] at z; cases z⟩
        · refine v_iconst C 186 dXM_seen_185 rfl (nI 0) (by decide) ?_
          refine v_zret C Rx dXM_seen_186 (by omega) (by omega) (Or.inl rfl) ⟨_, rfl, f6, rfl, by rw [hz]; rfl, fun e z => by rw [hz] at z; cases z⟩
      have cov := cov_iff (i := i) (j := j) (p := en_p e) ht R hoks
      have l2 : en_k e = 0 → st_now S < en_t e → (∀ (q : Nat) (e' : en_E), el[q]? = some e' → 0 < ow q → ¬ en_cv e' i j (en_p e)) → ∀ (n m : Nat), m + n = ml.length → (∀ (q : Nat) (e' : en_E), q < m → ml[q]? = some e' → ¬ en_cv e' i j (en_p e)) → ∀ L3, VV g x (mp_u M (A 6) (ar_i (gx_I g) 7 f6)) 0 0 153 [some (.ref b), some (.int (nI i)), some (.int (nI j)), L3, some (.int (nI m))] [] := by
        intro hk0 hnw hel0 n
        induction n with
        | zero =>
          intro m hm hno L3
          refine v_iload C 155 dXM_seen_153 rfl rfl ?_
          first | refine v_aload_n C 156 dXM_seen_155 rfl rfl ?_ | refine v_aload_nN C 156 dXM_seen_155 rfl rfl ?_ | refine v_aload_nQ C 156 dXM_seen_155 rfl rfl ?_
          refine gt_XM_42 C 159 dXM_seen_156 rfl h'.1 rfl ?_
          refine v_icmp_ge C 162 193 dXM_seen_159 rfl rfl (fun h9 => ?_) (fun h9 => False.elim (by first | exact h9 (nI_le (show ml.length ≤ m by omega) (by omega)) | exact absurd h9 (nI_le (show ml.length ≤ m by omega) (by omega))))
          refine v_iconst C 194 dXM_seen_193 rfl (nI 1) (by decide) ?_
          have hz : st_v S (nI i) (nI j) = some e := st_v_ye hi hj hw ⟨hk0, hnw, bo_f.mpr (fun z => by
            rcases cov.mp z with ⟨q, e', a1, a2, a3⟩ | ⟨q, e', a1, a2⟩
            · exact hel0 q e' a1 a2 a3
            · exact hno q e' (by have := (List.getElem?_eq_some_iff.mp a1).1; omega) a1 a2)⟩
          refine v_zret C Rx dXM_seen_194 (by omega) (by omega) (Or.inr rfl) ⟨_, rfl, f6, rfl, by rw [hz]; rfl, fun e9 z => by rw [hz] at z; cases z; exact h6⟩
        | succ n ih =>
          intro m hm hno L3
          obtain ⟨e2, he2⟩ : ∃ e2, ml[m]? = some e2 := ⟨_, List.getElem?_eq_getElem (show m < ml.length by omega)⟩
          obtain ⟨hwe, oke⟩ := hl0 m e2 he2
          refine v_iload C 155 dXM_seen_153 rfl rfl ?_
          first | refine v_aload_n C 156 dXM_seen_155 rfl rfl ?_ | refine v_aload_nN C 156 dXM_seen_155 rfl rfl ?_ | refine v_aload_nQ C 156 dXM_seen_155 rfl rfl ?_
          refine gt_XM_42 C 159 dXM_seen_156 rfl h'.1 rfl ?_
          refine v_icmp_ge C 162 193 dXM_seen_159 rfl rfl (fun h9 => False.elim (by first | exact h9 (nI_ge (show m < ml.length by omega) (by omega)) | exact absurd h9 (nI_ge (show m < ml.length by omega) (by omega)))) (fun h9 => ?_)
          first | refine v_aload_n C 163 dXM_seen_162 rfl rfl ?_ | refine v_aload_nN C 163 dXM_seen_162 rfl rfl ?_ | refine v_aload_nQ C 163 dXM_seen_162 rfl rfl ?_
          refine gt_XM_7 C 166 dXM_seen_163 rfl h'.1 rfl ?_
          refine v_bipush C 168 dXM_seen_166 rfl (nI 7) (by decide) ?_
          refine v_iload C 170 dXM_seen_168 rfl rfl ?_
          refine v_imul C 171 dXM_seen_170 rfl ?_
          refine v_top _ (.int (nI (7 * m))) (congrArg Value.int (pk_mul 7 m)) ?_
          refine v_iload_n C 172 dXM_seen_171 rfl rfl ?_
          refine v_iload_n C 173 dXM_seen_172 rfl rfl ?_
          first | refine v_aload_n C 174 dXM_seen_173 rfl rfl ?_ | refine v_aload_nN C 174 dXM_seen_173 rfl rfl ?_ | refine v_aload_nQ C 174 dXM_seen_173 rfl rfl ?_
          refine gt_XM_28 C 177 dXM_seen_174 rfl h'.1 rfl ?_
          refine v_iconst C 178 dXM_seen_177 rfl (nI 4) (by decide) ?_
          refine v_iald C 179 dXM_seen_178 rfl mp_us 4 rfl (by decide) (by decide) ?_
          rw [show f6 4 = nI (en_p e) from h6.2.2.2.2.1]
          refine v_ri 182 (cl_XM_98 C ((c_M_covers g hB0 (ra_sz_lt 0) (show 7 * m + 6 < 168 by omega) hwe oke i j (en_p e) hi hj o2)) dXM_seen_179 rfl rfl (Nat.le_of_ble_eq_true rfl) (Nat.le_of_ble_eq_true rfl) (Nat.le_of_ble_eq_true rfl) (by omega) (by omega)) rfl (fun v M1 hv => ?_)
          obtain ⟨e1, rfl⟩ := hv
          subst e1
          refine v_if_eq C 185 187 dXM_seen_182 rfl rfl (fun hc => ?_) (fun hc => ?_)
          · rw [bI_0, bo_f] at hc
            refine v_iinc C 190 _ (nI (m + 1)) dXM_seen_187 rfl rfl (nI_1 m) rfl ?_
            refine v_goto C 153 dXM_seen_190 rfl ?_
            refine ih (m + 1) (by omega) (fun q e' hq a1 => ?_) _
            by_cases hqm : q = m
            · subst hqm
              cases he2.symm.trans a1
              exact hc
            · exact hno q e' (by omega) a1
          · have hc2 : en_cv e2 i j (en_p e) := Classical.byContradiction fun z => hc (bI_0.mpr (bo_f.mpr z))
            exact end0 185 (Or.inr (Or.inr rfl)) (fun z => by rw [bo_f] at z; exact z.2.2 (cov.mpr (Or.inr ⟨m, e2, he2, hc2⟩))) _ _
      have l1 : en_k e = 0 → st_now S < en_t e → ∀ (n E : Nat), E + n = el.length → (∀ (q : Nat) (e' : en_E), q < E → el[q]? = some e' → 0 < ow q → ¬ en_cv e' i j (en_p e)) → ∀ L3, VV g x (mp_u M (A 6) (ar_i (gx_I g) 7 f6)) 0 0 100 [some (.ref b), some (.int (nI i)), some (.int (nI j)), L3, some (.int (nI E))] [] := by
        intro hk0 hnw n
        induction n with
        | zero =>
          intro E hE hno L3
          refine v_iload C 102 dXM_seen_100 rfl rfl ?_
          first | refine v_aload_n C 103 dXM_seen_102 rfl rfl ?_ | refine v_aload_nN C 103 dXM_seen_102 rfl rfl ?_ | refine v_aload_nQ C 103 dXM_seen_102 rfl rfl ?_
          refine gt_XM_85 C 106 dXM_seen_103 rfl h'.1 rfl ?_
          refine v_icmp_ge C 109 150 dXM_seen_106 rfl rfl (fun h9 => ?_) (fun h9 => False.elim (by first | exact h9 (nI_le (show el.length ≤ E by omega) (by omega)) | exact absurd h9 (nI_le (show el.length ≤ E by omega) (by omega))))
          refine v_iconst C 151 dXM_seen_150 rfl (nI 0) (by decide) ?_
          refine v_istore C 153 _ dXM_seen_151 rfl (Nat.lt_of_lt_of_le (Nat.lt_succ_self _) (Nat.le_of_ble_eq_true rfl)) rfl ?_
          exact l2 hk0 hnw (fun q e' a1 a2 => hno q e' (by have := (List.getElem?_eq_some_iff.mp a1).1; omega) a1 a2) ml.length 0 (by omega) (fun q e' hq => absurd hq (Nat.not_lt_zero q)) _
        | succ n ih =>
          intro E hE hno L3
          obtain ⟨e2, he2⟩ : ∃ e2, el[E]? = some e2 := ⟨_, List.getElem?_eq_getElem (show E < el.length by omega)⟩
          obtain ⟨hwe, oke⟩ := R1 E e2 he2
          obtain ⟨w1, w2⟩ := R2 E (by omega)
          have nxt : (0 < ow E → ¬ en_cv e2 i j (en_p e)) → ∀ L3, VV g x (mp_u M (A 6) (ar_i (gx_I g) 7 f6)) 0 0 144 [some (.ref b), some (.int (nI i)), some (.int (nI j)), L3, some (.int (nI E))] [] := by
            intro hz L3
            refine v_iinc C 147 _ (nI (E + 1)) dXM_seen_144 rfl rfl (nI_1 E) rfl ?_
            refine v_goto C 100 dXM_seen_147 rfl ?_
            refine ih (E + 1) (by omega) (fun q e' hq a1 a2 => ?_) _
            by_cases hqE : q = E
            · subst hqE
              cases he2.symm.trans a1
              exact hz a2
            · exact hno q e' (by omega) a1 a2
          refine v_iload C 102 dXM_seen_100 rfl rfl ?_
          first | refine v_aload_n C 103 dXM_seen_102 rfl rfl ?_ | refine v_aload_nN C 103 dXM_seen_102 rfl rfl ?_ | refine v_aload_nQ C 103 dXM_seen_102 rfl rfl ?_
          refine gt_XM_85 C 106 dXM_seen_103 rfl h'.1 rfl ?_
          refine v_icmp_ge C 109 150 dXM_seen_106 rfl rfl (fun h9 => False.elim (by first | exact h9 (nI_ge (show E < el.length by omega) (by omega)) | exact absurd h9 (nI_ge (show E < el.length by omega) (by omega)))) (fun h9 => ?_)
          first | refine v_aload_n C 110 dXM_seen_109 rfl rfl ?_ | refine v_aload_nN C 110 dXM_seen_109 rfl rfl ?_ | refine v_aload_nQ C 110 dXM_seen_109 rfl rfl ?_
          refine gt_XM_19 C 113 dXM_seen_110 rfl h'.1 rfl ?_
          refine v_iload C 115 dXM_seen_113 rfl rfl ?_
          refine v_iald C 116 dXM_seen_115 rfl hB3 E rfl (show E < 520 by omega) (ra_sz_lt 3) ?_
          rw [w1]
          refine v_if_le C 119 144 dXM_seen_116 rfl rfl (fun q0 => ?_) (fun q0 => ?_)
          · exact nxt (fun z => absurd q0 (nI_nle z (by omega))) _
          · have q0' : 0 < ow E := by
              rcases Nat.eq_zero_or_pos (ow E) with z | z
              · rw [z] at q0
                exact absurd (Int32.le_refl _) q0
              · exact z
            first | refine v_aload_n C 120 dXM_seen_119 rfl rfl ?_ | refine v_aload_nN C 120 dXM_seen_119 rfl rfl ?_ | refine v_aload_nQ C 120 dXM_seen_119 rfl rfl ?_
            refine gt_XM_16 C 123 dXM_seen_120 rfl h'.1 rfl ?_
            refine v_bipush C 125 dXM_seen_123 rfl (nI 7) (by decide) ?_
            refine v_iload C 127 dXM_seen_125 rfl rfl ?_
            refine v_imul C 128 dXM_seen_127 rfl ?_
            refine v_top _ (.int (nI (7 * E))) (congrArg Value.int (pk_mul 7 E)) ?_
            refine v_iload_n C 129 dXM_seen_128 rfl rfl ?_
            refine v_iload_n C 130 dXM_seen_129 rfl rfl ?_
            first | refine v_aload_n C 131 dXM_seen_130 rfl rfl ?_ | refine v_aload_nN C 131 dXM_seen_130 rfl rfl ?_ | refine v_aload_nQ C 131 dXM_seen_130 rfl rfl ?_
            refine gt_XM_28 C 134 dXM_seen_131 rfl h'.1 rfl ?_
            refine v_iconst C 135 dXM_seen_134 rfl (nI 4) (by decide) ?_
            refine v_iald C 136 dXM_seen_135 rfl mp_us 4 rfl (by decide) (by decide) ?_
            rw [show f6 4 = nI (en_p e) from h6.2.2.2.2.1]
            refine v_ri 139 (cl_XM_98 C ((c_M_covers g hB2 (ra_sz_lt 2) (show 7 * E + 6 < 3640 by omega) hwe oke i j (en_p e) hi hj o2)) dXM_seen_136 rfl rfl (Nat.le_of_ble_eq_true rfl) (Nat.le_of_ble_eq_true rfl) (Nat.le_of_ble_eq_true rfl) (by omega) (by omega)) rfl (fun v M1 hv => ?_)
            obtain ⟨e1, rfl⟩ := hv
            subst e1
            refine v_if_eq C 142 144 dXM_seen_139 rfl rfl (fun hc => ?_) (fun hc => ?_)
            · rw [bI_0, bo_f] at hc
              exact nxt (fun _ => hc) _
            · have hc2 : en_cv e2 i j (en_p e) := Classical.byContradiction fun z => hc (bI_0.mpr (bo_f.mpr z))
              exact end0 142 (Or.inr (Or.inl rfl)) (fun z => by rw [bo_f] at z; exact z.2.2 (cov.mpr (Or.inl ⟨E, e2, he2, q0', hc2⟩))) _ _
      have go : en_k e = 0 → st_now S < en_t e → ∀ L3 L4, VV g x (mp_u M (A 6) (ar_i (gx_I g) 7 f6)) 0 0 97 [some (.ref b), some (.int (nI i)), some (.int (nI j)), L3, L4] [] := by
        intro hk0 hnw L3 L4
        refine v_iconst C 98 dXM_seen_97 rfl (nI 0) (by decide) ?_
        refine v_istore C 100 _ dXM_seen_98 rfl (Nat.lt_of_lt_of_le (Nat.lt_succ_self _) (Nat.le_of_ble_eq_true rfl)) rfl ?_
        exact l1 hk0 hnw el.length 0 (by omega) (fun q e' hq => absurd hq (Nat.not_lt_zero q)) _
      first | refine v_aload_n C 63 dXM_seen_62 rfl rfl ?_ | refine v_aload_nN C 63 dXM_seen_62 rfl rfl ?_ | refine v_aload_nQ C 63 dXM_seen_62 rfl rfl ?_
      refine gt_XM_28 C 66 dXM_seen_63 rfl h'.1 rfl ?_
      refine v_iconst C 67 dXM_seen_66 rfl (nI 0) (by decide) ?_
      refine v_iald C 68 dXM_seen_67 rfl mp_us 0 rfl (by decide) (by decide) ?_
      rw [show f6 0 = nI (en_k e) from h6.1]
      refine v_if_ne C 71 95 dXM_seen_68 rfl rfl (fun hk => ?_) (fun hk => ?_)
      · exact end0 95 (Or.inl rfl) (fun z => hk (by rw [z.1]; rfl)) _ _
      · have hk0 : en_k e = 0 := (nI_eq (a := en_k e) (b := 0) (by omega) (by decide)).mp hk
        first | refine v_aload_n C 72 dXM_seen_71 rfl rfl ?_ | refine v_aload_nN C 72 dXM_seen_71 rfl rfl ?_ | refine v_aload_nQ C 72 dXM_seen_71 rfl rfl ?_
        refine gt_XM_28 C 75 dXM_seen_72 rfl h'.1 rfl ?_
        refine v_bipush C 77 dXM_seen_75 rfl (nI 6) (by decide) ?_
        refine v_iald C 78 dXM_seen_77 rfl mp_us 6 rfl (by decide) (by decide) ?_
        rw [show f6 6 = tw (en_t e) from h6.2.2.2.2.2.2]
        refine v_if_lt C 81 97 dXM_seen_78 rfl rfl (fun ht1 => ?_) (fun ht1 => ?_)
        · have := (tw_n ok).mp ht1
          exact go hk0 (by omega) _ _
        · have htn : en_t e ≠ 2147483647 := fun z => ht1 ((tw_n ok).mpr z)
          first | refine v_aload_n C 82 dXM_seen_81 rfl rfl ?_ | refine v_aload_nN C 82 dXM_seen_81 rfl rfl ?_ | refine v_aload_nQ C 82 dXM_seen_81 rfl rfl ?_
          refine gt_XM_28 C 85 dXM_seen_82 rfl h'.1 rfl ?_
          refine v_bipush C 87 dXM_seen_85 rfl (nI 6) (by decide) ?_
          refine v_iald C 88 dXM_seen_87 rfl mp_us 6 rfl (by decide) (by decide) ?_
          rw [show f6 6 = tw (en_t e) from h6.2.2.2.2.2.2, show tw (en_t e) = nI (en_t e) from if_neg htn]
          first | refine v_aload_n C 89 dXM_seen_88 rfl rfl ?_ | refine v_aload_nN C 89 dXM_seen_88 rfl rfl ?_ | refine v_aload_nQ C 89 dXM_seen_88 rfl rfl ?_
          refine gt_XM_75 C 92 dXM_seen_89 rfl h'.1 rfl ?_
          refine v_icmp_gt C 95 97 dXM_seen_92 rfl rfl (fun ht2 => ?_) (fun ht2 => ?_)
          · rw [nI_ltI (by omega) (by omega)] at ht2
            exact go hk0 ht2 _ _
          · rw [nI_ltI (by omega) (by omega)] at ht2
            exact end0 95 (Or.inl rfl) (fun z => ht2 z.2.1) _ _
    rcases hwn with ⟨rfl, hw⟩ | ⟨q, e, he, hw, rfl⟩ | ⟨m, e, he, hw, rfl⟩
    · refine v_icmp_ne C 26 28 dXM_seen_23 rfl rfl (fun h9 => False.elim (by first | exact h9 ((fun z => z rfl)) | exact absurd h9 ((fun z => z rfl)))) (fun h9 => ?_)
      exact quit _ (by rw [st_v_pl hi hj, hw])
    · have hq := (List.getElem?_eq_some_iff.mp he).1
      obtain ⟨hwe, ok⟩ := R1 q e he
      have hneg : ¬ nI (7 * q) = (-1000000 : Int32) := fun z => absurd (show nI (7 * q) < 0 by rw [z]; decide) (nI_pos (by omega))
      have hne : A 2 ≠ A 6 := fun z => by have := h.2.2 2 6 (by decide) (by decide) z; omega
      refine v_icmp_ne C 26 28 dXM_seen_23 rfl rfl (fun h9 => ?_) (fun h9 => False.elim (by first | exact h9 (hneg) | exact absurd h9 (hneg)))
      refine v_iload_n C 29 dXM_seen_28 rfl rfl ?_
      refine v_if_ge C 32 39 dXM_seen_29 rfl rfl (fun h9 => ?_) (fun h9 => False.elim (by first | exact h9 (nI_pos' (show 7 * q < 2 ^ 31 by omega)) | exact absurd h9 (nI_pos' (show 7 * q < 2 ^ 31 by omega))))
      first | refine v_aload_n C 40 dXM_seen_39 rfl rfl ?_ | refine v_aload_nN C 40 dXM_seen_39 rfl rfl ?_ | refine v_aload_nQ C 40 dXM_seen_39 rfl rfl ?_
      refine gt_XM_16 C 43 dXM_seen_40 rfl h.1 rfl ?_
      refine v_iload_n C 44 dXM_seen_43 rfl rfl ?_
      refine v_if_ge C 47 53 dXM_seen_44 rfl rfl (fun h9 => ?_) (fun h9 => False.elim (by first | exact h9 (nI_pos' (show 7 * q < 2 ^ 31 by omega)) | exact absurd h9 (nI_pos' (show 7 * q < 2 ^ 31 by omega))))
      refine v_iload_n C 54 dXM_seen_53 rfl rfl ?_
      first | refine v_aload_n C 55 dXM_seen_54 rfl rfl ?_ | refine v_aload_nN C 55 dXM_seen_54 rfl rfl ?_ | refine v_aload_nQ C 55 dXM_seen_54 rfl rfl ?_
      refine gt_XM_28 C 58 dXM_seen_55 rfl h.1 rfl ?_
      refine v_iconst C 59 dXM_seen_58 rfl (nI 0) (by decide) ?_
      refine v_rv 62 (cl_XM_52 C ((c_M_copy g (q := 0) hA2 hA6 hne (ra_sz_lt 2) (ra_sz_lt 6) (show 7 * q + 6 < 3640 by omega) (by decide))) dXM_seen_59 rfl rfl (Nat.le_of_ble_eq_true rfl) (Nat.le_of_ble_eq_true rfl) (Nat.le_of_ble_eq_true rfl) (by omega) (by omega)) rfl (fun M1 hM1 => ?_)
      subst hM1
      exact aft e hw _ (cp7_e hwe) _ _
    · have hm := (List.getElem?_eq_some_iff.mp he).1
      obtain ⟨hwe, ok⟩ := hl0 m e he
      have hlt : (-1 - nI (7 * m) : Int32).toInt = -1 - (7 * m : Nat) := by
        rw [Int32.toInt_sub, nI_toInt (by omega), show (-1 : Int32).toInt = -1 by decide]
        rw [Int.bmod_eq_of_le_mul_two (by omega) (by omega)]
      have hneg : ¬ (-1 - nI (7 * m)) = (-1000000 : Int32) := fun z => by
        rw [z, show (-1000000 : Int32).toInt = -1000000 by decide] at hlt
        omega
      have hnn : ¬ 0 ≤ (-1 - nI (7 * m)) := fun z => by
        rw [Int32.le_iff_toInt_le, i0, hlt] at z
        omega
      have hne : A 0 ≠ A 6 := fun z => by have := h.2.2 0 6 (by decide) (by decide) z; omega
      have hback : -1 - (-1 - nI (7 * m)) = nI (7 * m) := by
        apply Int32.toInt_inj.mp
        rw [Int32.toInt_sub, hlt, nI_toInt (by omega), show (-1 : Int32).toInt = -1 by decide]
        rw [Int.bmod_eq_of_le_mul_two (by omega) (by omega)]
        omega
      refine v_icmp_ne C 26 28 dXM_seen_23 rfl rfl (fun h9 => ?_) (fun h9 => False.elim (by first | exact h9 (hneg) | exact absurd h9 (hneg)))
      refine v_iload_n C 29 dXM_seen_28 rfl rfl ?_
      refine v_if_ge C 32 39 dXM_seen_29 rfl rfl (fun h9 => False.elim (by first | exact h9 (hnn) | exact absurd h9 (hnn))) (fun h9 => ?_)
      first | refine v_aload_n C 33 dXM_seen_32 rfl rfl ?_ | refine v_aload_nN C 33 dXM_seen_32 rfl rfl ?_ | refine v_aload_nQ C 33 dXM_seen_32 rfl rfl ?_
      refine gt_XM_7 C 36 dXM_seen_33 rfl h.1 rfl ?_
      refine v_goto C 43 dXM_seen_36 rfl ?_
      refine v_iload_n C 44 dXM_seen_43 rfl rfl ?_
      refine v_if_ge C 47 53 dXM_seen_44 rfl rfl (fun h9 => False.elim (by first | exact h9 (hnn) | exact absurd h9 (hnn))) (fun h9 => ?_)
      refine v_iconst C 48 dXM_seen_47 rfl (-1) (by decide) ?_
      refine v_iload_n C 49 dXM_seen_48 rfl rfl ?_
      refine v_isub C 50 dXM_seen_49 rfl ?_
      refine v_top _ (.int (nI (7 * m))) (congrArg Value.int hback) ?_
      refine v_goto C 54 dXM_seen_50 rfl ?_
      first | refine v_aload_n C 55 dXM_seen_54 rfl rfl ?_ | refine v_aload_nN C 55 dXM_seen_54 rfl rfl ?_ | refine v_aload_nQ C 55 dXM_seen_54 rfl rfl ?_
      refine gt_XM_28 C 58 dXM_seen_55 rfl h.1 rfl ?_
      refine v_iconst C 59 dXM_seen_58 rfl (nI 0) (by decide) ?_
      refine v_rv 62 (cl_XM_52 C ((c_M_copy g (q := 0) hA0 hA6 hne (ra_sz_lt 0) (ra_sz_lt 6) (show 7 * m + 6 < 168 by omega) (by decide))) dXM_seen_59 rfl rfl (Nat.le_of_ble_eq_true rfl) (Nat.le_of_ble_eq_true rfl) (Nat.le_of_ble_eq_true rfl) (by omega) (by omega)) rfl (fun M1 hM1 => ?_)
      subst hM1
      exact aft e hw _ (cp7_e hwe) _ _

