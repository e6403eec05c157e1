set_option maxHeartbeats 4000000 in
set_option maxRecDepth 100000 in
theorem c_S_newest (g : gx_T) {F : Nat → Prop} {M : mp_M} {a lg rl mm : Nat} {c gr ls ss now : Int32} {ps : List (Nat × Nat)} {rs : st_R} (h2 : M a = some (.inr (ci_S, [.int c, .int gr, .ref lg, .ref rl, .ref mm, .int ls, .int ss, .int now]))) (h6 : cw_l g F M rl (ps.map Prod.fst)) (h7 : cw_r g F M ps rs) (hrs : rs.length ≤ 600) (hti : ∀ k, k < rs.length → st_ti rs k ≤ 1000000) : Ct g yXS_newestAreOfOneTier cXS_newestAreOfOneTier 4 (some .boolean) 4 [.ref a] M (pi_ (fun v M' => M = M' ∧ v = bI (st_3 rs))) 0 0 := by
  refine ct_intro (L0 := [some (.ref a), none, none, none]) (by decide) (Nat.le_of_ble_eq_true rfl) rfl rfl (fun x C Rx I => ?_)
  obtain ⟨mc, ed, l1, l2, l3⟩ := id h6
  have hpl := cw_r_len h7
  first | refine v_aload_n C 1 dXS_newestAreOfOneTier_0 rfl rfl ?_ | refine v_aload_nN C 1 dXS_newestAreOfOneTier_0 rfl rfl ?_ | refine v_aload_nQ C 1 dXS_newestAreOfOneTier_0 rfl rfl ?_
  refine gt_XS_34 C 4 dXS_newestAreOfOneTier_1 rfl h2 rfl ?_
  refine v_ri 7 (cl_XS_117 C ((c_A_size g h6)) l2 dXS_newestAreOfOneTier_4 rfl rfl (Nat.le_of_ble_eq_true rfl) (Nat.le_of_ble_eq_true rfl) (Nat.le_of_ble_eq_true rfl) (by omega) (by omega)) rfl (fun v M2 hv => ?_)
  obtain ⟨rfl, rfl⟩ := hv
  rw [hpl]
  by_cases h3 : 3 ≤ rs.length
  · have loop : ∀ (m k : Nat), k + m = rs.length → rs.length - 3 < k → (∀ j, rs.length - 3 < j → j < k → st_ti rs j = st_ti rs (rs.length - 3)) → VV g x M 0 0 35 [some (.ref a), some (.int (nI (rs.length - 3))), some (.int (nI (st_ti rs (rs.length - 3)))), some (.int (nI k))] [] := by
      intro m
      induction m with
      | zero =>
        intro k hk hk2 hj
        refine v_iload_n C 36 dXS_newestAreOfOneTier_35 rfl rfl ?_
        first | refine v_aload_n C 37 dXS_newestAreOfOneTier_36 rfl rfl ?_ | refine v_aload_nN C 37 dXS_newestAreOfOneTier_36 rfl rfl ?_ | refine v_aload_nQ C 37 dXS_newestAreOfOneTier_36 rfl rfl ?_
        refine gt_XS_34 C 40 dXS_newestAreOfOneTier_37 rfl h2 rfl ?_
        refine v_ri 43 (cl_XS_117 C ((c_A_size g h6)) l2 dXS_newestAreOfOneTier_40 rfl rfl (Nat.le_of_ble_eq_true rfl) (Nat.le_of_ble_eq_true rfl) (Nat.le_of_ble_eq_true rfl) (by omega) (by omega)) rfl (fun v M2 hv => ?_)
        obtain ⟨rfl, rfl⟩ := hv
        refine v_icmp_ge C 46 72 dXS_newestAreOfOneTier_43 rfl rfl (fun h9 => ?_) (fun h9 => False.elim (by first | exact h9 (nI_le (by omega) (by omega)) | exact absurd h9 (nI_le (by omega) (by omega))))
        refine v_iconst C 73 dXS_newestAreOfOneTier_72 rfl (nI 1) (by decide) ?_
        refine v_zret C Rx dXS_newestAreOfOneTier_73 (by omega) (by omega) (Or.inr rfl) ⟨_, rfl, rfl, (bI_t (decide_eq_true ⟨h3, hj _ (by omega) (by omega), hj _ (by omega) (by omega)⟩)).symm⟩
      | succ m ih =>
        intro k hk hk2 hj
        obtain ⟨p, p1, p2, p3⟩ := h7.at (i := k) (by omega)
        refine v_iload_n C 36 dXS_newestAreOfOneTier_35 rfl rfl ?_
        first | refine v_aload_n C 37 dXS_newestAreOfOneTier_36 rfl rfl ?_ | refine v_aload_nN C 37 dXS_newestAreOfOneTier_36 rfl rfl ?_ | refine v_aload_nQ C 37 dXS_newestAreOfOneTier_36 rfl rfl ?_
        refine gt_XS_34 C 40 dXS_newestAreOfOneTier_37 rfl h2 rfl ?_
        refine v_ri 43 (cl_XS_117 C ((c_A_size g h6)) l2 dXS_newestAreOfOneTier_40 rfl rfl (Nat.le_of_ble_eq_true rfl) (Nat.le_of_ble_eq_true rfl) (Nat.le_of_ble_eq_true rfl) (by omega) (by omega)) rfl (fun v M2 hv => ?_)
        obtain ⟨rfl, rfl⟩ := hv
        refine v_icmp_ge C 46 72 dXS_newestAreOfOneTier_43 rfl rfl (fun h9 => False.elim (by first | exact h9 (nI_ge (by omega) (by omega)) | exact absurd h9 (nI_ge (by omega) (by omega)))) (fun h9 => ?_)
        first | refine v_aload_n C 47 dXS_newestAreOfOneTier_46 rfl rfl ?_ | refine v_aload_nN C 47 dXS_newestAreOfOneTier_46 rfl rfl ?_ | refine v_aload_nQ C 47 dXS_newestAreOfOneTier_46 rfl rfl ?_
        refine gt_XS_34 C 50 dXS_newestAreOfOneTier_47 rfl h2 rfl ?_
        refine v_iload_n C 51 dXS_newestAreOfOneTier_50 rfl rfl ?_
        refine v_rq 54 (cl_XS_119 C ((c_A_get g h6 k (by omega) (by omega))) l2 dXS_newestAreOfOneTier_51 rfl rfl (Nat.le_of_ble_eq_true rfl) (Nat.le_of_ble_eq_true rfl) (Nat.le_of_ble_eq_true rfl) (by omega) (by omega)) rfl (fun o2 M2 hv => ?_)
        obtain ⟨rfl, rfl⟩ := hv
        rw [p2]
        refine ca_XS_38 C 57 dXS_newestAreOfOneTier_54 rfl p3.2.2.2.1 ?_
        refine gt_XS_123 C 60 dXS_newestAreOfOneTier_57 rfl p3.2.2.2.1 rfl ?_
        refine v_iload_n C 61 dXS_newestAreOfOneTier_60 rfl rfl ?_
        have t1 := hti k (by omega)
        have t2 := hti (rs.length - 3) (by omega)
        refine v_icmp_eq C 64 66 dXS_newestAreOfOneTier_61 rfl rfl (fun q1 => ?_) (fun q1 => ?_)
        · have q2 : st_ti rs k = st_ti rs (rs.length - 3) := (nI_eq (by omega) (by omega)).mp q1
          refine v_iinc C 69 _ (nI (k + 1)) dXS_newestAreOfOneTier_66 rfl rfl (nI_1 k) rfl ?_
          refine v_goto C 35 dXS_newestAreOfOneTier_69 rfl ?_
          refine ih (k + 1) (by omega) (by omega) (fun j hj1 hj2 => ?_)
          by_cases hjk : j = k
          · rw [hjk]
            exact q2
          · exact hj j hj1 (by omega)
        · refine v_iconst C 65 dXS_newestAreOfOneTier_64 rfl (nI 0) (by decide) ?_
          refine v_zret C Rx dXS_newestAreOfOneTier_65 (by omega) (by omega) (Or.inl rfl) ⟨_, rfl, rfl, (bI_f (decide_eq_false (fun z => q1 ?_))).symm⟩
          obtain ⟨z1, z2, z3⟩ := z
          by_cases hk3 : k = rs.length - 2
          · rw [hk3, z2]
          · rw [show k = rs.length - 1 by omega, z3]
    obtain ⟨p, p1, p2, p3⟩ := h7.at (i := rs.length - 3) (by omega)
    refine v_iconst C 8 dXS_newestAreOfOneTier_7 rfl (nI 3) (by decide) ?_
    refine v_isub C 9 dXS_newestAreOfOneTier_8 rfl ?_
    refine v_top _ (.int (nI (rs.length - 3))) (congrArg Value.int (nI_sb h3)) ?_
    refine v_istore_n C 10 _ dXS_newestAreOfOneTier_9 rfl (Nat.lt_of_lt_of_le (Nat.lt_succ_self _) (Nat.le_of_ble_eq_true rfl)) rfl ?_
    refine v_iload_n C 11 dXS_newestAreOfOneTier_10 rfl rfl ?_
    refine v_if_ge C 14 16 dXS_newestAreOfOneTier_11 rfl rfl (fun h9 => ?_) (fun h9 => False.elim (by first | exact h9 ((Int32.not_lt.mp (nI_pos (by omega)))) | exact absurd h9 ((Int32.not_lt.mp (nI_pos (by omega))))))
    first | refine v_aload_n C 17 dXS_newestAreOfOneTier_16 rfl rfl ?_ | refine v_aload_nN C 17 dXS_newestAreOfOneTier_16 rfl rfl ?_ | refine v_aload_nQ C 17 dXS_newestAreOfOneTier_16 rfl rfl ?_
    refine gt_XS_34 C 20 dXS_newestAreOfOneTier_17 rfl h2 rfl ?_
    refine v_iload_n C 21 dXS_newestAreOfOneTier_20 rfl rfl ?_
    refine v_rq 24 (cl_XS_119 C ((c_A_get g h6 (rs.length - 3) (by omega) (by omega))) l2 dXS_newestAreOfOneTier_21 rfl rfl (Nat.le_of_ble_eq_true rfl) (Nat.le_of_ble_eq_true rfl) (Nat.le_of_ble_eq_true rfl) (by omega) (by omega)) rfl (fun o2 M2 hv => ?_)
    obtain ⟨rfl, rfl⟩ := hv
    rw [p2]
    refine ca_XS_38 C 27 dXS_newestAreOfOneTier_24 rfl p3.2.2.2.1 ?_
    refine gt_XS_123 C 30 dXS_newestAreOfOneTier_27 rfl p3.2.2.2.1 rfl ?_
    refine v_istore_n C 31 _ dXS_newestAreOfOneTier_30 rfl (Nat.lt_of_lt_of_le (Nat.lt_succ_self _) (Nat.le_of_ble_eq_true rfl)) rfl ?_
    refine v_iload_n C 32 dXS_newestAreOfOneTier_31 rfl rfl ?_
    refine v_iconst C 33 dXS_newestAreOfOneTier_32 rfl (nI 1) (by decide) ?_
    refine v_iadd C 34 dXS_newestAreOfOneTier_33 rfl ?_
    refine v_top _ (.int (nI (rs.length - 3 + 1))) (congrArg Value.int (nI_add _ _)) ?_
    refine v_istore_n C 35 _ dXS_newestAreOfOneTier_34 rfl (Nat.lt_of_lt_of_le (Nat.lt_succ_self _) (Nat.le_of_ble_eq_true rfl)) rfl ?_
    refine loop 2 _ (by omega) (by omega) (fun j hj1 hj2 => ?_)
    omega
  · have hneg : ¬ (0 ≤ nI rs.length - nI 3) := by
      have : rs.length = 0 ∨ rs.length = 1 ∨ rs.length = 2 := by omega
      rcases this with h | h | h <;> rw [h] <;> decide
    refine v_iconst C 8 dXS_newestAreOfOneTier_7 rfl (nI 3) (by decide) ?_
    refine v_isub C 9 dXS_newestAreOfOneTier_8 rfl ?_
    refine v_istore_n C 10 _ dXS_newestAreOfOneTier_9 rfl (Nat.lt_of_lt_of_le (Nat.lt_succ_self _) (Nat.le_of_ble_eq_true rfl)) rfl ?_
    refine v_iload_n C 11 dXS_newestAreOfOneTier_10 rfl rfl ?_
    refine v_if_ge C 14 16 dXS_newestAreOfOneTier_11 rfl rfl (fun h9 => False.elim (by first | exact h9 ((hneg)) | exact absurd h9 ((hneg)))) (fun h9 => ?_)
    refine v_iconst C 15 dXS_newestAreOfOneTier_14 rfl (nI 0) (by decide) ?_
    refine v_zret C Rx dXS_newestAreOfOneTier_15 (by omega) (by omega) (Or.inl rfl) ⟨_, rfl, rfl, (bI_f (decide_eq_false (fun z => h3 z.1))).symm⟩
set_option maxHeartbeats 4000000 in
set_option maxRecDepth 100000 in
theorem c_S_greatestTier (g : gx_T) {F : Nat → Prop} {M : mp_M} {a lg rl mm : Nat} {c gr ls ss now : Int32} {ps : List (Nat × Nat)} {rs : st_R} (h2 : M a = some (.inr (ci_S, [.int c, .int gr, .ref lg, .ref rl, .ref mm, .int ls, .int ss, .int now]))) (h6 : cw_l g F M rl (ps.map Prod.fst)) (h7 : cw_r g F M ps rs) (hrs : rs.length ≤ 600) (hti : ∀ k, k < rs.length → st_ti rs k ≤ 1000000) : Ct g yXS_greatestTier cXS_greatestTier 3 (some .int) 4 [.ref a] M (pi_ (fun v M' => M = M' ∧ v = nI (st_top rs))) 0 0 := by
  refine ct_intro (L0 := [some (.ref a), none, none]) (by decide) (Nat.le_of_ble_eq_true rfl) rfl rfl (fun x C Rx I => ?_)
  obtain ⟨mc, ed, l1, l2, l3⟩ := id h6
  have hpl := cw_r_len h7
  have htop : ∀ k, st_top (rs.take k) ≤ 1000000 := by
    intro k
    refine st_top_le _ 0 _ (Nat.zero_le _) (fun r hr => ?_)
    obtain ⟨k', hk'⟩ := List.getElem?_of_mem (List.mem_of_mem_take hr)
    have hl := (List.getElem?_eq_some_iff.mp hk').1
    have := hti k' hl
    unfold st_ti at this
    rw [List.getD_eq_getElem?_getD, hk'] at this
    exact this
  have loop : ∀ (m k : Nat), k + m = rs.length → VV g x M 0 0 4 [some (.ref a), some (.int (nI (st_top (rs.take k)))), some (.int (nI k))] [] := by
    intro m
    induction m with
    | zero =>
      intro k hk
      refine v_iload_n C 5 dXS_greatestTier_4 rfl rfl ?_
      first | refine v_aload_n C 6 dXS_greatestTier_5 rfl rfl ?_ | refine v_aload_nN C 6 dXS_greatestTier_5 rfl rfl ?_ | refine v_aload_nQ C 6 dXS_greatestTier_5 rfl rfl ?_
      refine gt_XS_34 C 9 dXS_greatestTier_6 rfl h2 rfl ?_
      refine v_ri 12 (cl_XS_117 C ((c_A_size g h6)) l2 dXS_greatestTier_9 rfl rfl (Nat.le_of_ble_eq_true rfl) (Nat.le_of_ble_eq_true rfl) (Nat.le_of_ble_eq_true rfl) (by omega) (by omega)) rfl (fun v M2 hv => ?_)
      obtain ⟨rfl, rfl⟩ := hv
      refine v_icmp_ge C 15 40 dXS_greatestTier_12 rfl rfl (fun h9 => ?_) (fun h9 => False.elim (by first | exact h9 (nI_le (by omega) (by omega)) | exact absurd h9 (nI_le (by omega) (by omega))))
      refine v_iload_n C 41 dXS_greatestTier_40 rfl rfl ?_
      refine v_iret C Rx dXS_greatestTier_41 (by omega) (by omega) ⟨_, rfl, rfl, by rw [List.take_of_length_le (by omega)]⟩
    | succ m ih =>
      intro k hk
      obtain ⟨p, p1, p2, p3⟩ := h7.at (i := k) (by omega)
      refine v_iload_n C 5 dXS_greatestTier_4 rfl rfl ?_
      first | refine v_aload_n C 6 dXS_greatestTier_5 rfl rfl ?_ | refine v_aload_nN C 6 dXS_greatestTier_5 rfl rfl ?_ | refine v_aload_nQ C 6 dXS_greatestTier_5 rfl rfl ?_
      refine gt_XS_34 C 9 dXS_greatestTier_6 rfl h2 rfl ?_
      refine v_ri 12 (cl_XS_117 C ((c_A_size g h6)) l2 dXS_greatestTier_9 rfl rfl (Nat.le_of_ble_eq_true rfl) (Nat.le_of_ble_eq_true rfl) (Nat.le_of_ble_eq_true rfl) (by omega) (by omega)) rfl (fun v M2 hv => ?_)
      obtain ⟨rfl, rfl⟩ := hv
      refine v_icmp_ge C 15 40 dXS_greatestTier_12 rfl rfl (fun h9 => False.elim (by first | exact h9 (nI_ge (by omega) (by omega)) | exact absurd h9 (nI_ge (by omega) (by omega)))) (fun h9 => ?_)
      refine v_iload_n C 16 dXS_greatestTier_15 rfl rfl ?_
      first | refine v_aload_n C 17 dXS_greatestTier_16 rfl rfl ?_ | refine v_aload_nN C 17 dXS_greatestTier_16 rfl rfl ?_ | refine v_aload_nQ C 17 dXS_greatestTier_16 rfl rfl ?_
      refine gt_XS_34 C 20 dXS_greatestTier_17 rfl h2 rfl ?_
      refine v_iload_n C 21 dXS_greatestTier_20 rfl rfl ?_
      refine v_rq 24 (cl_XS_119 C ((c_A_get g h6 k (by omega) (by omega))) l2 dXS_greatestTier_21 rfl rfl (Nat.le_of_ble_eq_true rfl) (Nat.le_of_ble_eq_true rfl) (Nat.le_of_ble_eq_true rfl) (by omega) (by omega)) rfl (fun o2 M2 hv => ?_)
      obtain ⟨rfl, rfl⟩ := hv
      rw [p2]
      refine ca_XS_38 C 27 dXS_greatestTier_24 rfl p3.2.2.2.1 ?_
      refine gt_XS_123 C 30 dXS_greatestTier_27 rfl p3.2.2.2.1 rfl ?_
      have t1 := hti k (by omega)
      have t2 := htop k
      refine max_XS_15 C 33 dXS_greatestTier_30 rfl (Nat.le_of_ble_eq_true rfl) (Nat.le_of_ble_eq_true rfl) (by omega) (by omega) ?_
      refine v_top _ (.int (nI (st_top (rs.take (k + 1))))) (congrArg Value.int (by
          rw [st_top_s (by omega)]
          by_cases hab : st_top (rs.take k) < st_ti rs k
          · rw [if_pos (nI_lt hab (by omega)), Nat.max_eq_right (by omega)]
          · rw [if_neg (nI_nlt (by omega) (by omega)), Nat.max_eq_left (by omega)])) ?_
      refine v_istore_n C 34 _ dXS_greatestTier_33 rfl (Nat.lt_of_lt_of_le (Nat.lt_succ_self _) (Nat.le_of_ble_eq_true rfl)) rfl ?_
      refine v_iinc C 37 _ (nI (k + 1)) dXS_greatestTier_34 rfl rfl (nI_1 k) rfl ?_
      refine v_goto C 4 dXS_greatestTier_37 rfl ?_
      exact ih (k + 1) (by omega)
  refine v_iconst C 1 dXS_greatestTier_0 rfl (nI 0) (by decide) ?_
  refine v_istore_n C 2 _ dXS_greatestTier_1 rfl (Nat.lt_of_lt_of_le (Nat.lt_succ_self _) (Nat.le_of_ble_eq_true rfl)) rfl ?_
  refine v_iconst C 3 dXS_greatestTier_2 rfl (nI 0) (by decide) ?_
  refine v_istore_n C 4 _ dXS_greatestTier_3 rfl (Nat.lt_of_lt_of_le (Nat.lt_succ_self _) (Nat.le_of_ble_eq_true rfl)) rfl ?_
  exact loop rs.length 0 (by omega)
theorem mp_kF {P : Nat → Prop} {M M1 M2 : mp_M} (h : mp_k (fun _ => False) M M1) (h2 : mp_k P M1 M2) (hP : ∀ q, P q → M q = none) : mp_k (fun _ => False) M M2 := fun q e _ hm => h2 q e (fun z => by rw [hP q z] at hm; cases hm) (h q e id hm)
theorem nEF {M : mp_M} : nE (fun _ => False) M := fun _ _ z => z.elim
theorem F_k {F P : Nat → Prop} {M M' : mp_M} (h : ∀ q, F q → M q ≠ none) (hk : mp_k P M M') (hP : ∀ q, F q → ¬ P q) : ∀ q, F q → M' q ≠ none := by
  intro q hq
  cases hm : M q with
  | none => exact absurd hm (h q hq)
  | some e =>
    rw [hk q e (hP q hq) hm]
    intro z
    cases z
theorem lq_F {g : gx_T} {F : Nat → Prop} {M : mp_M} {rl : Nat} (h : ¬ F rl) : ∀ q, F q → ¬ lq g F M rl q := by
  intro q hq z
  rcases z with z | ⟨z, -⟩
  · exact h (by rw [← z]; exact hq)
  · exact z hq
noncomputable def jT (rs : st_R) (i k : Nat) : tb_T := (((rs.take k).drop i).map Prod.snd).foldl tb_m tb_0
theorem jT_0 (rs : st_R) (i : Nat) : jT rs i i = tb_0 := by
  unfold jT
  rw [List.drop_eq_nil_of_le (by rw [List.length_take]; omega)]
  rfl
theorem jT_e (rs : st_R) (i : Nat) : jT rs i rs.length = ((rs.drop i).map Prod.snd).foldl tb_m tb_0 := by
  unfold jT
  rw [List.take_length]
theorem jT_s (rs : st_R) (i k : Nat) (hi : i ≤ k) (hk : k < rs.length) : jT rs i (k + 1) = tb_m (jT rs i k) (st_tb rs k) := by
  unfold jT st_tb
  rw [List.take_add_one, List.getElem?_eq_getElem hk, List.drop_append_of_le_length (by rw [List.length_take]; omega), List.map_append, List.foldl_append, List.getD_eq_getElem?_getD, List.getElem?_eq_getElem hk]
  rfl
set_option maxHeartbeats 8000000 in
set_option maxHeartbeats 4000000 in
set_option maxRecDepth 100000 in
theorem c_S_mergeFrom (g : gx_T) {F : Nat → Prop} {M : mp_M} {a lg rl mm now gr : Nat} {c ls ss : Int32} {ps : List (Nat × Nat)} {rs : st_R} (h2 : M a = some (.inr (ci_S, [.int c, .int (nI gr), .ref lg, .ref rl, .ref mm, .int ls, .int ss, .int (nI now)]))) (h6 : cw_l g F M rl (ps.map Prod.fst)) (h7 : cw_r g F M ps rs) (hF : ∀ q, F q → M q ≠ none) (hrs : rs.length ≤ 600) (hnow : now ≤ 100000) (hgr : gr ≤ 100) (i0 tier : Nat) (hi0 : i0 ≤ rs.length) : Ct g yXS_mergeFrom cXS_mergeFrom 5 (some (.object "WideStore$Table")) 7 [.ref a, .int (nI i0), .int (nI tier)] M (pq (fun o M' => ∃ na ns : Nat, o = some na ∧ M na = none ∧ M ns = none ∧ mp_k (lq g F M rl) M M' ∧ cw_l g F M' rl ((ps.take i0 ++ [(na, ns)]).map Prod.fst) ∧ cw_t g F M' na ns tier (tb_j now gr (decide (i0 = 0)) ((rs.drop i0).map Prod.snd)))) 3 1708 := by
  refine ct_intro (L0 := [some (.ref a), some (.int (nI i0)), some (.int (nI tier)), none, none]) (by decide) (Nat.le_of_ble_eq_true rfl) rfl rfl (fun x C Rx I => ?_)
  have hpl := cw_r_len h7
  have hFl : ¬ F rl := h6.elim (fun _ z => z.elim (fun _ z => z.1))
  refine nw_XS_38 C 3 dXS_mergeFrom_0 rfl (by omega) (by omega) (fun na hna => ?_)
  refine v_dup C 4 dXS_mergeFrom_3 rfl rfl ?_
  refine v_iload_n C 5 dXS_mergeFrom_4 rfl rfl ?_
  have nFa : ¬ F na := fun z => hF na z hna
  have hF0 : ∀ q, F q → mp_u M na (.inr (ci_T, [.int 0, .null, .int 0, .int 0])) q ≠ none := F_k (P := fun _ => False) hF (mp_k.new hna) (fun _ _ z => z)
  refine v_rv 8 (cl_XS_40 C ((c_T_init g tier mp_us rfl hF0 nFa)) dXS_mergeFrom_5 rfl rfl (Nat.le_of_ble_eq_true rfl) (Nat.le_of_ble_eq_true rfl) (Nat.le_of_ble_eq_true rfl) (by omega) (by omega)) rfl (fun M1 hM1 => ?_)
  obtain ⟨ns, hns, k1, t1⟩ := hM1
  have hns0 : M ns = none := by
    by_cases z : ns = na
    · rw [z]
      exact hna
    · rw [mp_un z] at hns
      exact hns
  have hP : ∀ q, q = na ∨ q = ns → M q = none := fun q hq => hq.elim (fun z => by rw [z]; exact hna) (fun z => by rw [z]; exact hns0)
  have K1 : mp_k (fun _ => False) M M1 := mp_kF (mp_k.new hna) k1 (fun q hq => by rw [hq]; exact hna)
  first | refine v_astore_n C 9 _ dXS_mergeFrom_8 rfl (Nat.lt_of_lt_of_le (Nat.lt_succ_self _) (Nat.le_of_ble_eq_true rfl)) rfl ?_ | refine v_astore_nN C 9 _ dXS_mergeFrom_8 rfl (Nat.lt_of_lt_of_le (Nat.lt_succ_self _) (Nat.le_of_ble_eq_true rfl)) rfl ?_ | refine v_astore_nQ C 9 _ dXS_mergeFrom_8 rfl (Nat.lt_of_lt_of_le (Nat.lt_succ_self _) (Nat.le_of_ble_eq_true rfl)) rfl ?_
  refine v_iload_n C 10 dXS_mergeFrom_9 rfl rfl ?_
  refine v_istore C 12 _ dXS_mergeFrom_10 rfl (Nat.lt_of_lt_of_le (Nat.lt_succ_self _) (Nat.le_of_ble_eq_true rfl)) rfl ?_
  have lst : ∀ (m : Nat) (M3 M4 : mp_M) (v : Int32), mp_k (fun _ => False) M M3 → cw_t g F M3 na ns tier (tb_j now gr (decide (i0 = 0)) ((rs.drop i0).map Prod.snd)) → i0 + m ≤ rs.length → v = nI (i0 + m) - nI 1 → mp_k (lq g F M3 rl) M3 M4 → cw_l g F M4 rl ((ps.map Prod.fst).take (i0 + m)) → VV g x M4 2 708 77 [some (.ref a), some (.int (nI i0)), some (.int (nI tier)), some (.ref na), some (.int v)] [] := by
    intro m
    induction m with
    | zero =>
      intro M3 M4 v K3 t3 hm hv K4 l4
      subst hv
      have L3 : cw_l g F M3 rl (ps.map Prod.fst) := h6.k K3 id (fun _ _ _ _ z => z)
      have h24 := K4 _ _ (lq_nT L3 (K3 _ _ id h2) (by decide)) (K3 _ _ id h2)
      obtain ⟨mc, ed, x1, x2, x3⟩ := id l4
      have hneg : nI (i0 + 0) - nI 1 < nI i0 := by
        by_cases z : i0 = 0
        · rw [z]
          decide
        · rw [Nat.add_zero, nI_sb (by omega)]
          exact nI_lt (by omega) (by omega)
      refine v_iload C 79 dXS_mergeFrom_77 rfl rfl ?_
      refine v_iload_n C 80 dXS_mergeFrom_79 rfl rfl ?_
      refine v_icmp_lt C 83 99 dXS_mergeFrom_80 rfl rfl (fun h9 => ?_) (fun h9 => False.elim (by first | exact h9 ((hneg)) | exact absurd h9 ((hneg))))
      first | refine v_aload_n C 100 dXS_mergeFrom_99 rfl rfl ?_ | refine v_aload_nN C 100 dXS_mergeFrom_99 rfl rfl ?_ | refine v_aload_nQ C 100 dXS_mergeFrom_99 rfl rfl ?_
      refine gt_XS_34 C 103 dXS_mergeFrom_100 rfl h24 rfl ?_
      first | refine v_aload_n C 104 dXS_mergeFrom_103 rfl rfl ?_ | refine v_aload_nN C 104 dXS_mergeFrom_103 rfl rfl ?_ | refine v_aload_nQ C 104 dXS_mergeFrom_103 rfl rfl ?_
      have b4 := K4 _ _ (lq_nT L3 t3.2.2.2.1 (by decide)) t3.2.2.2.1
      have hel : ∀ y, y ∈ (ps.map Prod.fst).take (i0 + 0) → ∃ fs, M4 y = some (.inr (ci_T, fs)) := by
        intro y hy
        obtain ⟨p, hp, rfl⟩ := List.mem_map.mp (List.mem_of_mem_take hy)
        obtain ⟨t, T, c1, c2, c3, c4, c5⟩ := cw_r_tab h7 hp
        have c4' := K3 _ _ id c4
        exact ⟨_, K4 _ _ (lq_nT L3 c4' (by decide)) c4'⟩
      have hF4 : ∀ q, F q → M4 q ≠ none := F_k (F_k hF K3 (fun _ _ z => z)) K4 (lq_F hFl)
      refine v_ri 107 (cl_XS_129 C ((c_A_add g l4 b4 hel hF4 (by rw [List.length_take]; omega))) x2 dXS_mergeFrom_104 rfl rfl (Nat.le_of_ble_eq_true rfl) (Nat.le_of_ble_eq_true rfl) (Nat.le_of_ble_eq_true rfl) (by omega) (by omega)) rfl (fun v5 M5 h5 => ?_)
      obtain ⟨K5, l5⟩ := h5
      refine v_pop C 108 dXS_mergeFrom_107 rfl rfl ?_
      first | refine v_aload_n C 109 dXS_mergeFrom_108 rfl rfl ?_ | refine v_aload_nN C 109 dXS_mergeFrom_108 rfl rfl ?_ | refine v_aload_nQ C 109 dXS_mergeFrom_108 rfl rfl ?_
      have K45 := lq_tr K4 K5
      refine v_aret C Rx (r := some na) (Or.inl ⟨_, rfl⟩) dXS_mergeFrom_109 (by omega) (by omega) ⟨some na, rfl, na, ns, rfl, hna, hns0, lq_tr (K3.mono (fun _ z => z.elim)) K45, ?_, ?_⟩
      · rw [List.map_append, List.map_take]
        exact l5
      · obtain ⟨c1, c2, c3, c4, f, c5, c6⟩ := id t3
        exact t3.k K45 (lq_nE L3) (lq_nT L3 c4 (by decide)) (lq_nA L3 c5 (EO_ne C))
    | succ m ih =>
      intro M3 M4 v K3 t3 hm hv K4 l4
      subst hv
      have L3 : cw_l g F M3 rl (ps.map Prod.fst) := h6.k K3 id (fun _ _ _ _ z => z)
      have h24 := K4 _ _ (lq_nT L3 (K3 _ _ id h2) (by decide)) (K3 _ _ id h2)
      obtain ⟨mc, ed, x1, x2, x3⟩ := id l4
      have e1 : nI (i0 + (m + 1)) - nI 1 = nI (i0 + m) := (nI_sb (by omega)).trans (by rw [show i0 + (m + 1) - 1 = i0 + m by omega])
      have hlt : i0 + m < (ps.map Prod.fst).length := by omega
      have e2 : (ps.map Prod.fst).take (i0 + (m + 1)) = (ps.map Prod.fst).take (i0 + m) ++ [(ps.map Prod.fst)[i0 + m]] := by
        rw [show i0 + (m + 1) = i0 + m + 1 by omega, List.take_add_one, List.getElem?_eq_getElem hlt]
        rfl
      have e3 : ((ps.map Prod.fst).take (i0 + m)).length = i0 + m := by
        rw [List.length_take]
        omega
      rw [e2] at l4
      rw [e1]
      refine v_iload C 79 dXS_mergeFrom_77 rfl rfl ?_
      refine v_iload_n C 80 dXS_mergeFrom_79 rfl rfl ?_
      refine v_icmp_lt C 83 99 dXS_mergeFrom_80 rfl rfl (fun h9 => False.elim (by first | exact h9 ((nI_nlt (by omega) (by omega))) | exact absurd h9 ((nI_nlt (by omega) (by omega))))) (fun h9 => ?_)
      first | refine v_aload_n C 84 dXS_mergeFrom_83 rfl rfl ?_ | refine v_aload_nN C 84 dXS_mergeFrom_83 rfl rfl ?_ | refine v_aload_nQ C 84 dXS_mergeFrom_83 rfl rfl ?_
      refine gt_XS_34 C 87 dXS_mergeFrom_84 rfl h24 rfl ?_
      refine v_iload C 89 dXS_mergeFrom_87 rfl rfl ?_
      rw [← e3]
      refine v_rq 92 (cl_XS_147 C ((c_A_remove g l4 (by omega))) x2 dXS_mergeFrom_89 rfl rfl (Nat.le_of_ble_eq_true rfl) (Nat.le_of_ble_eq_true rfl) (Nat.le_of_ble_eq_true rfl) (by omega) (by omega)) rfl (fun o5 M5 h5 => ?_)
      obtain ⟨K5, l5⟩ := h5
      rw [e3]
      refine v_pop C 93 dXS_mergeFrom_92 rfl (by cases o5 <;> rfl) ?_
      refine v_iinc C 96 _ (nI (i0 + m) - nI 1) dXS_mergeFrom_93 rfl rfl (by rw [Int32.sub_eq_add_neg]; rfl) rfl ?_
      refine v_goto C 77 dXS_mergeFrom_96 rfl ?_
      exact ih M3 M5 _ K3 t3 (by omega) rfl (lq_tr K4 K5) l5
  have mid : ∀ (M3 : mp_M) (v : Int32), mp_k (fun _ => False) M M3 → cw_t g F M3 na ns tier (tb_j now gr (decide (i0 = 0)) ((rs.drop i0).map Prod.snd)) → VV g x M3 2 708 66 [some (.ref a), some (.int (nI i0)), some (.int (nI tier)), some (.ref na), some (.int v)] [] := by
    intro M3 v K3 t3
    have L3 : cw_l g F M3 rl (ps.map Prod.fst) := h6.k K3 id (fun _ _ _ _ z => z)
    obtain ⟨mc, ed, x1, x2, x3⟩ := id L3
    first | refine v_aload_n C 67 dXS_mergeFrom_66 rfl rfl ?_ | refine v_aload_nN C 67 dXS_mergeFrom_66 rfl rfl ?_ | refine v_aload_nQ C 67 dXS_mergeFrom_66 rfl rfl ?_
    refine gt_XS_34 C 70 dXS_mergeFrom_67 rfl (K3 _ _ id h2) rfl ?_
    refine v_ri 73 (cl_XS_117 C ((c_A_size g L3)) x2 dXS_mergeFrom_70 rfl rfl (Nat.le_of_ble_eq_true rfl) (Nat.le_of_ble_eq_true rfl) (Nat.le_of_ble_eq_true rfl) (by omega) (by omega)) rfl (fun v5 M5 h5 => ?_)
    obtain ⟨rfl, rfl⟩ := h5
    refine v_iconst C 74 dXS_mergeFrom_73 rfl (nI 1) (by decide) ?_
    refine v_isub C 75 dXS_mergeFrom_74 rfl ?_
    refine v_istore C 77 _ dXS_mergeFrom_75 rfl (Nat.lt_of_lt_of_le (Nat.lt_succ_self _) (Nat.le_of_ble_eq_true rfl)) rfl ?_
    refine lst (rs.length - i0) M3 M3 _ K3 t3 (by omega) (by rw [hpl, show i0 + (rs.length - i0) = rs.length by omega]) mp_k.rf ?_
    rw [List.take_of_length_le (by omega)]
    exact L3
  have loop : ∀ (m k : Nat) (M3 : mp_M), k + m = rs.length → i0 ≤ k → mp_k (fun _ => False) M M3 → cw_t g F M3 na ns tier (jT rs i0 k) → VV g x M3 2 708 12 [some (.ref a), some (.int (nI i0)), some (.int (nI tier)), some (.ref na), some (.int (nI k))] [] := by
    intro m
    induction m with
    | zero =>
      intro k M3 hk hk2 K3 t3
      have L3 : cw_l g F M3 rl (ps.map Prod.fst) := h6.k K3 id (fun _ _ _ _ z => z)
      obtain ⟨mc, ed, x1, x2, x3⟩ := id L3
      refine v_iload C 14 dXS_mergeFrom_12 rfl rfl ?_
      first | refine v_aload_n C 15 dXS_mergeFrom_14 rfl rfl ?_ | refine v_aload_nN C 15 dXS_mergeFrom_14 rfl rfl ?_ | refine v_aload_nQ C 15 dXS_mergeFrom_14 rfl rfl ?_
      refine gt_XS_34 C 18 dXS_mergeFrom_15 rfl (K3 _ _ id h2) rfl ?_
      refine v_ri 21 (cl_XS_117 C ((c_A_size g L3)) x2 dXS_mergeFrom_18 rfl rfl (Nat.le_of_ble_eq_true rfl) (Nat.le_of_ble_eq_true rfl) (Nat.le_of_ble_eq_true rfl) (by omega) (by omega)) rfl (fun v5 M5 h5 => ?_)
      obtain ⟨rfl, rfl⟩ := h5
      refine v_icmp_ge C 24 46 dXS_mergeFrom_21 rfl rfl (fun h9 => ?_) (fun h9 => False.elim (by first | exact h9 (nI_le (by omega) (by omega)) | exact absurd h9 (nI_le (by omega) (by omega))))
      first | refine v_aload_n C 47 dXS_mergeFrom_46 rfl rfl ?_ | refine v_aload_nN C 47 dXS_mergeFrom_46 rfl rfl ?_ | refine v_aload_nQ C 47 dXS_mergeFrom_46 rfl rfl ?_
      have hk3 : k = rs.length := by omega
      rw [hk3, jT_e] at t3
      refine v_rv 50 (cl_XS_140 C ((c_T_dropCovered g t3)) t3.2.2.2.1 dXS_mergeFrom_47 rfl rfl (Nat.le_of_ble_eq_true rfl) (Nat.le_of_ble_eq_true rfl) (Nat.le_of_ble_eq_true rfl) (by omega) (by omega)) rfl (fun M4 h4 => ?_)
      obtain ⟨k4, t4⟩ := h4
      have K4 := mp_kF K3 k4 hP
      refine v_iload_n C 51 dXS_mergeFrom_50 rfl rfl ?_
      refine v_if_ne C 54 66 dXS_mergeFrom_51 rfl rfl (fun q1 => ?_) (fun q1 => ?_)
      · refine mid M4 _ K4 ?_
        rw [decide_eq_false (fun z => q1 (by rw [z]; rfl))]
        exact t4
      · have q2 : i0 = 0 := (nI_eq (by omega) (by decide)).mp (by first | exact q1 | exact Classical.not_not.mp q1)
        first | refine v_aload_n C 55 dXS_mergeFrom_54 rfl rfl ?_ | refine v_aload_nN C 55 dXS_mergeFrom_54 rfl rfl ?_ | refine v_aload_nQ C 55 dXS_mergeFrom_54 rfl rfl ?_
        first | refine v_aload_n C 56 dXS_mergeFrom_55 rfl rfl ?_ | refine v_aload_nN C 56 dXS_mergeFrom_55 rfl rfl ?_ | refine v_aload_nQ C 56 dXS_mergeFrom_55 rfl rfl ?_
        refine gt_XS_53 C 59 dXS_mergeFrom_56 rfl (K4 _ _ id h2) rfl ?_
        first | refine v_aload_n C 60 dXS_mergeFrom_59 rfl rfl ?_ | refine v_aload_nN C 60 dXS_mergeFrom_59 rfl rfl ?_ | refine v_aload_nQ C 60 dXS_mergeFrom_59 rfl rfl ?_
        refine gt_XS_22 C 63 dXS_mergeFrom_60 rfl (K4 _ _ id h2) rfl ?_
        refine v_rv 66 (cl_XS_143 C ((c_T_dropOld g now gr hnow hgr t4)) t4.2.2.2.1 dXS_mergeFrom_63 rfl rfl (Nat.le_of_ble_eq_true rfl) (Nat.le_of_ble_eq_true rfl) (Nat.le_of_ble_eq_true rfl) (by omega) (by omega)) rfl (fun M6 h6' => ?_)
        obtain ⟨k6, t6⟩ := h6'
        refine mid M6 _ (mp_kF K4 k6 hP) ?_
        rw [decide_eq_true q2]
        exact t6
    | succ m ih =>
      intro k M3 hk hk2 K3 t3
      have L3 : cw_l g F M3 rl (ps.map Prod.fst) := h6.k K3 id (fun _ _ _ _ z => z)
      obtain ⟨mc, ed, x1, x2, x3⟩ := id L3
      obtain ⟨p, p1, p2, p3⟩ := h7.at (i := k) (by omega)
      have p3' := p3.k K3 nEF id id
      refine v_iload C 14 dXS_mergeFrom_12 rfl rfl ?_
      first | refine v_aload_n C 15 dXS_mergeFrom_14 rfl rfl ?_ | refine v_aload_nN C 15 dXS_mergeFrom_14 rfl rfl ?_ | refine v_aload_nQ C 15 dXS_mergeFrom_14 rfl rfl ?_
      refine gt_XS_34 C 18 dXS_mergeFrom_15 rfl (K3 _ _ id h2) rfl ?_
      refine v_ri 21 (cl_XS_117 C ((c_A_size g L3)) x2 dXS_mergeFrom_18 rfl rfl (Nat.le_of_ble_eq_true rfl) (Nat.le_of_ble_eq_true rfl) (Nat.le_of_ble_eq_true rfl) (by omega) (by omega)) rfl (fun v5 M5 h5 => ?_)
      obtain ⟨rfl, rfl⟩ := h5
      refine v_icmp_ge C 24 46 dXS_mergeFrom_21 rfl rfl (fun h9 => False.elim (by first | exact h9 (nI_ge (by omega) (by omega)) | exact absurd h9 (nI_ge (by omega) (by omega)))) (fun h9 => ?_)
      first | refine v_aload_n C 25 dXS_mergeFrom_24 rfl rfl ?_ | refine v_aload_nN C 25 dXS_mergeFrom_24 rfl rfl ?_ | refine v_aload_nQ C 25 dXS_mergeFrom_24 rfl rfl ?_
      first | refine v_aload_n C 26 dXS_mergeFrom_25 rfl rfl ?_ | refine v_aload_nN C 26 dXS_mergeFrom_25 rfl rfl ?_ | refine v_aload_nQ C 26 dXS_mergeFrom_25 rfl rfl ?_
      refine gt_XS_34 C 29 dXS_mergeFrom_26 rfl (K3 _ _ id h2) rfl ?_
      refine v_iload C 31 dXS_mergeFrom_29 rfl rfl ?_
      refine v_rq 34 (cl_XS_119 C ((c_A_get g L3 k (by omega) (by omega))) x2 dXS_mergeFrom_31 rfl rfl (Nat.le_of_ble_eq_true rfl) (Nat.le_of_ble_eq_true rfl) (Nat.le_of_ble_eq_true rfl) (by omega) (by omega)) rfl (fun o2 M2 hv => ?_)
      obtain ⟨rfl, rfl⟩ := hv
      rw [p2]
      refine ca_XS_38 C 37 dXS_mergeFrom_34 rfl p3'.2.2.2.1 ?_
      have n1 : p.1 ≠ na := ne_n p3.2.2.2.1 hna
      have n2 : p.2 ≠ ns := by
        obtain ⟨c1, c2, c3, c4, f, c5, c6⟩ := p3
        exact ne_n c5 hns0
      refine v_rv 40 (cl_XS_136 C ((c_T_addWinners g t3 p3' n1 n2)) t3.2.2.2.1 dXS_mergeFrom_37 rfl rfl (Nat.le_of_ble_eq_true rfl) (Nat.le_of_ble_eq_true rfl) (Nat.le_of_ble_eq_true rfl) (by omega) (by omega)) rfl (fun M4 h4 => ?_)
      obtain ⟨k4, t4⟩ := h4
      refine v_iinc C 43 _ (nI (k + 1)) dXS_mergeFrom_40 rfl rfl (nI_1 k) rfl ?_
      refine v_goto C 12 dXS_mergeFrom_43 rfl ?_
      refine ih (k + 1) M4 (by omega) (by omega) (mp_kF K3 k4 hP) ?_
      rw [jT_s rs i0 k hk2 (by omega)]
      exact t4
  refine loop (rs.length - i0) i0 M1 (by omega) (Nat.le_refl _) K1 ?_
  rw [jT_0]
  exact t1

