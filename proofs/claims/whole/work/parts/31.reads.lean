theorem bI_n0 {b : Bool} (h : ¬ bI b = 0) : b = true := by
  cases b with
  | true => rfl
  | false => exact absurd rfl h
set_option maxHeartbeats 4000000 in
set_option maxRecDepth 100000 in
theorem c_S_seenCell (g : gx_T) {F : Nat → Prop} {M : mp_M} {a : Nat} {S : st_S} (h : cw g F M a S) (hrs : (st_runs S).length ≤ 600) (hnow : st_now S ≤ 100000) (r c : Int32) : Ct g yXS_seenCell cXS_seenCell 4 (some (.object "WideStore$Entry")) 5 [.ref a, .int r, .int c] M (pq (fun o M' => M = M' ∧ cw_o F M o (st_v S r c))) 0 0 := by
  refine ct_intro (L0 := [some (.ref a), some (.int r), some (.int c), none]) (by decide) (Nat.le_of_ble_eq_true rfl) rfl rfl (fun x C Rx I => ?_)
  obtain ⟨lg, rl, mm, ms, ps, lf, h1, h2, h3, h4, h5, h6, h7, h8, h9⟩ := id h
  refine v_iload_n C 1 dXS_seenCell_0 rfl rfl ?_
  refine v_iload_n C 2 dXS_seenCell_1 rfl rfl ?_
  refine v_ri 5 (cl_XS_56 C ((c_S_isPlace g r c)) dXS_seenCell_2 rfl rfl (Nat.le_of_ble_eq_true rfl) (Nat.le_of_ble_eq_true rfl) (Nat.le_of_ble_eq_true rfl) (by omega) (by omega)) rfl (fun v M2 hv => ?_)
  obtain ⟨rfl, rfl⟩ := hv
  refine v_if_ne C 8 10 dXS_seenCell_5 rfl rfl (fun q0 => ?_) (fun q0 => ?_)
  · obtain ⟨i, j, hi, hj, rfl, rfl⟩ := pl_of (bI_n0 q0)
    have no : st_v S (nI i) (nI j) = none → ∀ L3 : Option Value, VV g x M 0 0 39 [some (.ref a), some (.int (nI i)), some (.int (nI j)), L3] [] := by
      intro hz L3
      refine v_null C 40 dXS_seenCell_39 rfl ?_
      refine v_aret C Rx (r := none) (Or.inl ⟨_, rfl⟩) dXS_seenCell_40 (by omega) (by omega) ⟨none, rfl, rfl, Or.inl ⟨rfl, hz⟩⟩
    first | refine v_aload_n C 11 dXS_seenCell_10 rfl rfl ?_ | refine v_aload_nN C 11 dXS_seenCell_10 rfl rfl ?_ | refine v_aload_nQ C 11 dXS_seenCell_10 rfl rfl ?_
    refine v_iload_n C 12 dXS_seenCell_11 rfl rfl ?_
    refine v_iload_n C 13 dXS_seenCell_12 rfl rfl ?_
    refine v_rq 16 (cl_XS_150 C ((c_S_winningPoint g h hrs i j hi hj)) h2 dXS_seenCell_13 rfl rfl (Nat.le_of_ble_eq_true rfl) (Nat.le_of_ble_eq_true rfl) (Nat.le_of_ble_eq_true rfl) (by omega) (by omega)) rfl (fun o M2 hv => ?_)
    obtain ⟨rfl, ho, hok⟩ := hv
    first | refine v_astore_n C 17 _ dXS_seenCell_16 rfl (Nat.lt_of_lt_of_le (Nat.lt_succ_self _) (Nat.le_of_ble_eq_true rfl)) rfl ?_ | refine v_astore_nN C 17 _ dXS_seenCell_16 rfl (Nat.lt_of_lt_of_le (Nat.lt_succ_self _) (Nat.le_of_ble_eq_true rfl)) rfl ?_ | refine v_astore_nQ C 17 _ dXS_seenCell_16 rfl (Nat.lt_of_lt_of_le (Nat.lt_succ_self _) (Nat.le_of_ble_eq_true rfl)) rfl ?_
    first | refine v_aload_n C 18 dXS_seenCell_17 rfl rfl ?_ | refine v_aload_nN C 18 dXS_seenCell_17 rfl rfl ?_ | refine v_aload_nQ C 18 dXS_seenCell_17 rfl rfl ?_
    refine v_ifnull C 21 39 dXS_seenCell_18 rfl rfl (fun hz => ?_) (fun q hq => ?_)
    · subst hz
      refine no ?_ _
      rw [st_v_pl hi hj, cw_o_n ho]
    · subst hq
      obtain ⟨e, he, hqe⟩ := cw_o_e ho
      obtain ⟨ok, -⟩ := hok e he
      have ok2 := ok
      obtain ⟨k1, k2, k3, k4, k5, k6, k7, k8⟩ := ok2
      first | refine v_aload_n C 22 dXS_seenCell_21 rfl rfl ?_ | refine v_aload_nN C 22 dXS_seenCell_21 rfl rfl ?_ | refine v_aload_nQ C 22 dXS_seenCell_21 rfl rfl ?_
      refine gt_XS_153 C 25 dXS_seenCell_22 rfl hqe.2 rfl ?_
      refine v_if_ne C 28 39 dXS_seenCell_25 rfl rfl (fun q1 => ?_) (fun q1 => ?_)
      · refine no (st_v_no hi hj he (fun z => q1 ?_)) _
        rw [z.1]
        rfl
      · have q2 : en_k e = 0 := (nI_eq (by omega) (by decide)).mp (by first | exact q1 | exact Classical.not_not.mp q1)
        first | refine v_aload_n C 29 dXS_seenCell_28 rfl rfl ?_ | refine v_aload_nN C 29 dXS_seenCell_28 rfl rfl ?_ | refine v_aload_nQ C 29 dXS_seenCell_28 rfl rfl ?_
        refine gt_XS_156 C 32 dXS_seenCell_29 rfl hqe.2 rfl ?_
        first | refine v_aload_n C 33 dXS_seenCell_32 rfl rfl ?_ | refine v_aload_nN C 33 dXS_seenCell_32 rfl rfl ?_ | refine v_aload_nQ C 33 dXS_seenCell_32 rfl rfl ?_
        refine gt_XS_53 C 36 dXS_seenCell_33 rfl h2 rfl ?_
        refine v_icmp_gt C 39 41 dXS_seenCell_36 rfl rfl (fun q3 => ?_) (fun q3 => ?_)
        · have q4 : st_now S < en_t e := (nI_ltI (by omega) (by omega)).mp q3
          first | refine v_aload_n C 42 dXS_seenCell_41 rfl rfl ?_ | refine v_aload_nN C 42 dXS_seenCell_41 rfl rfl ?_ | refine v_aload_nQ C 42 dXS_seenCell_41 rfl rfl ?_
          refine v_iload_n C 43 dXS_seenCell_42 rfl rfl ?_
          refine v_iload_n C 44 dXS_seenCell_43 rfl rfl ?_
          first | refine v_aload_n C 45 dXS_seenCell_44 rfl rfl ?_ | refine v_aload_nN C 45 dXS_seenCell_44 rfl rfl ?_ | refine v_aload_nQ C 45 dXS_seenCell_44 rfl rfl ?_
          refine gt_XS_86 C 48 dXS_seenCell_45 rfl hqe.2 rfl ?_
          refine v_ri 51 (cl_XS_159 C ((c_S_isCovered g h hrs i j (en_p e) hi hj k6)) h2 dXS_seenCell_48 rfl rfl (Nat.le_of_ble_eq_true rfl) (Nat.le_of_ble_eq_true rfl) (Nat.le_of_ble_eq_true rfl) (by omega) (by omega)) rfl (fun v M2 hv => ?_)
          obtain ⟨rfl, rfl⟩ := hv
          refine v_if_eq C 54 58 dXS_seenCell_51 rfl rfl (fun q5 => ?_) (fun q5 => ?_)
          · first | refine v_aload_n C 59 dXS_seenCell_58 rfl rfl ?_ | refine v_aload_nN C 59 dXS_seenCell_58 rfl rfl ?_ | refine v_aload_nQ C 59 dXS_seenCell_58 rfl rfl ?_
            refine v_aret C Rx (r := some q) (Or.inl ⟨_, rfl⟩) dXS_seenCell_59 (by omega) (by omega) ⟨some q, rfl, rfl, ?_⟩
            rw [st_v_ye hi hj he ⟨q2, q4, bI_0.mp q5⟩]
            exact cw_o_s hqe
          · refine v_null C 55 dXS_seenCell_54 rfl ?_
            refine v_goto C 59 dXS_seenCell_55 rfl ?_
            refine v_aret C Rx (r := none) (Or.inl ⟨_, rfl⟩) dXS_seenCell_59 (by omega) (by omega) ⟨none, rfl, rfl, Or.inl ⟨rfl, ?_⟩⟩
            refine st_v_no hi hj he (fun z => q5 (bI_0.mpr z.2.2))
        · refine no (st_v_no hi hj he (fun z => q3 ?_)) _
          exact (nI_ltI (by omega) (by omega)).mpr z.2.1
  · refine v_null C 9 dXS_seenCell_8 rfl ?_
    refine v_aret C Rx (r := none) (Or.inl ⟨_, rfl⟩) dXS_seenCell_9 (by omega) (by omega) ⟨none, rfl, rfl, Or.inl ⟨rfl, st_v_np (bI_0.mp ?_)⟩⟩
    first | exact q0 | exact Classical.not_not.mp q0
set_option maxHeartbeats 4000000 in
set_option maxRecDepth 100000 in
theorem c_S_get (g : gx_T) {F : Nat → Prop} {M : mp_M} {a : Nat} {S : st_S} (h : cw g F M a S) (hrs : (st_runs S).length ≤ 600) (hnow : st_now S ≤ 100000) (r c : Int32) : Ct g yXS_get cXS_get 4 (some .int) 6 [.ref a, .int r, .int c] M (pi_ (fun v M' => M = M' ∧ v = an_get S r c)) 0 0 := by
  refine ct_intro (L0 := [some (.ref a), some (.int r), some (.int c), none]) (by decide) (Nat.le_of_ble_eq_true rfl) rfl rfl (fun x C Rx I => ?_)
  obtain ⟨lg, rl, mm, ms, ps, lf, h1, h2, -⟩ := id h
  first | refine v_aload_n C 1 dXS_get_0 rfl rfl ?_ | refine v_aload_nN C 1 dXS_get_0 rfl rfl ?_ | refine v_aload_nQ C 1 dXS_get_0 rfl rfl ?_
  refine v_iload_n C 2 dXS_get_1 rfl rfl ?_
  refine v_iload_n C 3 dXS_get_2 rfl rfl ?_
  refine v_rq 6 (cl_XS_79 C ((c_S_seenCell g h hrs hnow r c)) h2 dXS_get_3 rfl rfl (Nat.le_of_ble_eq_true rfl) (Nat.le_of_ble_eq_true rfl) (Nat.le_of_ble_eq_true rfl) (by omega) (by omega)) rfl (fun o M2 hv => ?_)
  obtain ⟨rfl, ho⟩ := hv
  first | refine v_astore_n C 7 _ dXS_get_6 rfl (Nat.lt_of_lt_of_le (Nat.lt_succ_self _) (Nat.le_of_ble_eq_true rfl)) rfl ?_ | refine v_astore_nN C 7 _ dXS_get_6 rfl (Nat.lt_of_lt_of_le (Nat.lt_succ_self _) (Nat.le_of_ble_eq_true rfl)) rfl ?_ | refine v_astore_nQ C 7 _ dXS_get_6 rfl (Nat.lt_of_lt_of_le (Nat.lt_succ_self _) (Nat.le_of_ble_eq_true rfl)) rfl ?_
  first | refine v_aload_n C 8 dXS_get_7 rfl rfl ?_ | refine v_aload_nN C 8 dXS_get_7 rfl rfl ?_ | refine v_aload_nQ C 8 dXS_get_7 rfl rfl ?_
  refine v_ifnonnull C 11 15 dXS_get_8 rfl rfl (fun q hq => ?_) (fun hz => ?_)
  · subst hq
    obtain ⟨e, he, hqe⟩ := cw_o_e ho
    first | refine v_aload_n C 16 dXS_get_15 rfl rfl ?_ | refine v_aload_nN C 16 dXS_get_15 rfl rfl ?_ | refine v_aload_nQ C 16 dXS_get_15 rfl rfl ?_
    refine gt_XS_83 C 19 dXS_get_16 rfl hqe.2 rfl ?_
    refine v_iret C Rx dXS_get_19 (by omega) (by omega) ⟨_, rfl, rfl, by unfold an_get; rw [he]⟩
  · subst hz
    refine v_iconst C 12 dXS_get_11 rfl (nI 0) (by decide) ?_
    refine v_goto C 19 dXS_get_12 rfl ?_
    refine v_iret C Rx dXS_get_19 (by omega) (by omega) ⟨_, rfl, rfl, by unfold an_get; rw [cw_o_n ho]; rfl⟩
set_option maxHeartbeats 4000000 in
set_option maxRecDepth 100000 in
theorem c_S_stamp (g : gx_T) {F : Nat → Prop} {M : mp_M} {a : Nat} {S : st_S} (h : cw g F M a S) (hrs : (st_runs S).length ≤ 600) (hnow : st_now S ≤ 100000) (r c : Int32) : Ct g yXS_stamp cXS_stamp 4 (some .int) 6 [.ref a, .int r, .int c] M (pi_ (fun v M' => M = M' ∧ v = an_stm S r c)) 0 0 := by
  refine ct_intro (L0 := [some (.ref a), some (.int r), some (.int c), none]) (by decide) (Nat.le_of_ble_eq_true rfl) rfl rfl (fun x C Rx I => ?_)
  obtain ⟨lg, rl, mm, ms, ps, lf, h1, h2, -⟩ := id h
  first | refine v_aload_n C 1 dXS_stamp_0 rfl rfl ?_ | refine v_aload_nN C 1 dXS_stamp_0 rfl rfl ?_ | refine v_aload_nQ C 1 dXS_stamp_0 rfl rfl ?_
  refine v_iload_n C 2 dXS_stamp_1 rfl rfl ?_
  refine v_iload_n C 3 dXS_stamp_2 rfl rfl ?_
  refine v_rq 6 (cl_XS_79 C ((c_S_seenCell g h hrs hnow r c)) h2 dXS_stamp_3 rfl rfl (Nat.le_of_ble_eq_true rfl) (Nat.le_of_ble_eq_true rfl) (Nat.le_of_ble_eq_true rfl) (by omega) (by omega)) rfl (fun o M2 hv => ?_)
  obtain ⟨rfl, ho⟩ := hv
  first | refine v_astore_n C 7 _ dXS_stamp_6 rfl (Nat.lt_of_lt_of_le (Nat.lt_succ_self _) (Nat.le_of_ble_eq_true rfl)) rfl ?_ | refine v_astore_nN C 7 _ dXS_stamp_6 rfl (Nat.lt_of_lt_of_le (Nat.lt_succ_self _) (Nat.le_of_ble_eq_true rfl)) rfl ?_ | refine v_astore_nQ C 7 _ dXS_stamp_6 rfl (Nat.lt_of_lt_of_le (Nat.lt_succ_self _) (Nat.le_of_ble_eq_true rfl)) rfl ?_
  first | refine v_aload_n C 8 dXS_stamp_7 rfl rfl ?_ | refine v_aload_nN C 8 dXS_stamp_7 rfl rfl ?_ | refine v_aload_nQ C 8 dXS_stamp_7 rfl rfl ?_
  refine v_ifnonnull C 11 15 dXS_stamp_8 rfl rfl (fun q hq => ?_) (fun hz => ?_)
  · subst hq
    obtain ⟨e, he, hqe⟩ := cw_o_e ho
    first | refine v_aload_n C 16 dXS_stamp_15 rfl rfl ?_ | refine v_aload_nN C 16 dXS_stamp_15 rfl rfl ?_ | refine v_aload_nQ C 16 dXS_stamp_15 rfl rfl ?_
    refine gt_XS_86 C 19 dXS_stamp_16 rfl hqe.2 rfl ?_
    refine v_iret C Rx dXS_stamp_19 (by omega) (by omega) ⟨_, rfl, rfl, by unfold an_stm; rw [he]⟩
  · subst hz
    refine v_iconst C 12 dXS_stamp_11 rfl (-1) (by decide) ?_
    refine v_goto C 19 dXS_stamp_12 rfl ?_
    refine v_iret C Rx dXS_stamp_19 (by omega) (by omega) ⟨_, rfl, rfl, by unfold an_stm; rw [cw_o_n ho]⟩
theorem max0 (c : Int32) : (if nI 0 < c then c else nI 0) = nI c.toInt.toNat := by
  by_cases h : nI 0 < c
  · rw [if_pos h]
    rw [Int32.lt_iff_toInt_lt, show (nI 0).toInt = 0 from i0] at h
    obtain ⟨j, hj, rfl⟩ := nI_of (x := c) (by rw [Int32.lt_iff_toInt_lt, i0]; omega)
    rw [nI_tn hj]
  · rw [if_neg h]
    rw [Int32.lt_iff_toInt_lt, show (nI 0).toInt = 0 from i0] at h
    rw [show c.toInt.toNat = 0 by omega]
set_option maxHeartbeats 4000000 in
set_option maxRecDepth 100000 in
theorem c_S_next (g : gx_T) {F : Nat → Prop} {M : mp_M} {a : Nat} {S : st_S} (h : cw g F M a S) (hrs : (st_runs S).length ≤ 600) (hnow : st_now S ≤ 100000) (r c : Int32) : Ct g yXS_next cXS_next 4 (some .int) 6 [.ref a, .int r, .int c] M (pi_ (fun v M' => M = M' ∧ v = an_next S r c)) 0 0 := by
  refine ct_intro (L0 := [some (.ref a), some (.int r), some (.int c), none]) (by decide) (Nat.le_of_ble_eq_true rfl) rfl rfl (fun x C Rx I => ?_)
  obtain ⟨lg, rl, mm, ms, ps, lf, h1, h2, -⟩ := id h
  have loop : ∀ (m j : Nat), m = 8 - j → j < 2 ^ 31 → an_next S r c = an_nx S r m j → VV g x M 0 0 6 [some (.ref a), some (.int r), some (.int c), some (.int (nI j))] [] := by
    intro m
    induction m with
    | zero =>
      intro j hm hj ha
      refine v_iload_n C 7 dXS_next_6 rfl rfl ?_
      refine v_bipush C 9 dXS_next_7 rfl (nI 8) (by decide) ?_
      refine v_icmp_ge C 12 29 dXS_next_9 rfl rfl (fun h9 => ?_) (fun h9 => False.elim (by first | exact h9 (nI_le (show 8 ≤ j by omega) hj) | exact absurd h9 (nI_le (show 8 ≤ j by omega) hj)))
      refine v_iconst C 30 dXS_next_29 rfl (-1) (by decide) ?_
      refine v_iret C Rx dXS_next_30 (by omega) (by omega) ⟨_, rfl, rfl, ha.symm⟩
    | succ m ih =>
      intro j hm hj ha
      refine v_iload_n C 7 dXS_next_6 rfl rfl ?_
      refine v_bipush C 9 dXS_next_7 rfl (nI 8) (by decide) ?_
      refine v_icmp_ge C 12 29 dXS_next_9 rfl rfl (fun h9 => False.elim (by first | exact h9 (nI_ge (show j < 8 by omega) (by decide)) | exact absurd h9 (nI_ge (show j < 8 by omega) (by decide)))) (fun h9 => ?_)
      first | refine v_aload_n C 13 dXS_next_12 rfl rfl ?_ | refine v_aload_nN C 13 dXS_next_12 rfl rfl ?_ | refine v_aload_nQ C 13 dXS_next_12 rfl rfl ?_
      refine v_iload_n C 14 dXS_next_13 rfl rfl ?_
      refine v_iload_n C 15 dXS_next_14 rfl rfl ?_
      refine v_rq 18 (cl_XS_79 C ((c_S_seenCell g h hrs hnow r (nI j))) h2 dXS_next_15 rfl rfl (Nat.le_of_ble_eq_true rfl) (Nat.le_of_ble_eq_true rfl) (Nat.le_of_ble_eq_true rfl) (by omega) (by omega)) rfl (fun o M2 hv => ?_)
      obtain ⟨rfl, ho⟩ := hv
      refine v_ifnull C 21 23 dXS_next_18 rfl rfl (fun hz => ?_) (fun q hq => ?_)
      · subst hz
        refine v_iinc C 26 _ (nI (j + 1)) dXS_next_23 rfl rfl (nI_1 j) rfl ?_
        refine v_goto C 6 dXS_next_26 rfl ?_
        refine ih (j + 1) (by omega) (by omega) ?_
        rw [ha, an_nx, cw_o_n ho, if_neg (by decide)]
      · subst hq
        obtain ⟨e, he, hqe⟩ := cw_o_e ho
        refine v_iload_n C 22 dXS_next_21 rfl rfl ?_
        refine v_iret C Rx dXS_next_22 (by omega) (by omega) ⟨_, rfl, rfl, ?_⟩
        rw [ha, an_nx, he]
        exact (if_pos rfl).symm
  refine v_iconst C 1 dXS_next_0 rfl (nI 0) (by decide) ?_
  refine v_iload_n C 2 dXS_next_1 rfl rfl ?_
  refine max_XS_15 C 5 dXS_next_2 rfl (Nat.le_of_ble_eq_true rfl) (Nat.le_of_ble_eq_true rfl) (by omega) (by omega) ?_
  refine v_top _ (.int (nI c.toInt.toNat)) (congrArg Value.int (max0 c)) ?_
  refine v_istore_n C 6 _ dXS_next_5 rfl (Nat.lt_of_lt_of_le (Nat.lt_succ_self _) (Nat.le_of_ble_eq_true rfl)) rfl ?_
  refine loop (8 - c.toInt.toNat) c.toInt.toNat rfl ?_ rfl
  have := Int32.toInt_lt c
  omega
set_option maxHeartbeats 4000000 in
set_option maxRecDepth 100000 in
theorem c_S_nextRow (g : gx_T) {F : Nat → Prop} {M : mp_M} {a : Nat} {S : st_S} (h : cw g F M a S) (hrs : (st_runs S).length ≤ 600) (hnow : st_now S ≤ 100000) (r : Int32) : Ct g yXS_nextRow cXS_nextRow 3 (some .int) 7 [.ref a, .int r] M (pi_ (fun v M' => M = M' ∧ v = an_nrow S r)) 0 0 := by
  refine ct_intro (L0 := [some (.ref a), some (.int r), none]) (by decide) (Nat.le_of_ble_eq_true rfl) rfl rfl (fun x C Rx I => ?_)
  obtain ⟨lg, rl, mm, ms, ps, lf, h1, h2, -⟩ := id h
  have loop : ∀ (m j : Nat), m = 16 - j → j < 2 ^ 31 → an_nrow S r = an_nw S m j → VV g x M 0 0 6 [some (.ref a), some (.int r), some (.int (nI j))] [] := by
    intro m
    induction m with
    | zero =>
      intro j hm hj ha
      refine v_iload_n C 7 dXS_nextRow_6 rfl rfl ?_
      refine v_bipush C 9 dXS_nextRow_7 rfl (nI 16) (by decide) ?_
      refine v_icmp_ge C 12 30 dXS_nextRow_9 rfl rfl (fun h9 => ?_) (fun h9 => False.elim (by first | exact h9 (nI_le (show 16 ≤ j by omega) hj) | exact absurd h9 (nI_le (show 16 ≤ j by omega) hj)))
      refine v_iconst C 31 dXS_nextRow_30 rfl (-1) (by decide) ?_
      refine v_iret C Rx dXS_nextRow_31 (by omega) (by omega) ⟨_, rfl, rfl, ha.symm⟩
    | succ m ih =>
      intro j hm hj ha
      refine v_iload_n C 7 dXS_nextRow_6 rfl rfl ?_
      refine v_bipush C 9 dXS_nextRow_7 rfl (nI 16) (by decide) ?_
      refine v_icmp_ge C 12 30 dXS_nextRow_9 rfl rfl (fun h9 => False.elim (by first | exact h9 (nI_ge (show j < 16 by omega) (by decide)) | exact absurd h9 (nI_ge (show j < 16 by omega) (by decide)))) (fun h9 => ?_)
      first | refine v_aload_n C 13 dXS_nextRow_12 rfl rfl ?_ | refine v_aload_nN C 13 dXS_nextRow_12 rfl rfl ?_ | refine v_aload_nQ C 13 dXS_nextRow_12 rfl rfl ?_
      refine v_iload_n C 14 dXS_nextRow_13 rfl rfl ?_
      refine v_iconst C 15 dXS_nextRow_14 rfl (nI 0) (by decide) ?_
      refine v_ri 18 (cl_XS_89 C ((c_S_next g h hrs hnow (nI j) (nI 0))) h2 dXS_nextRow_15 rfl rfl (Nat.le_of_ble_eq_true rfl) (Nat.le_of_ble_eq_true rfl) (Nat.le_of_ble_eq_true rfl) (by omega) (by omega)) rfl (fun v M2 hv => ?_)
      obtain ⟨rfl, rfl⟩ := hv
      refine v_iconst C 19 dXS_nextRow_18 rfl (-1) (by decide) ?_
      refine v_icmp_eq C 22 24 dXS_nextRow_19 rfl rfl (fun q1 => ?_) (fun q1 => ?_)
      · refine v_iinc C 27 _ (nI (j + 1)) dXS_nextRow_24 rfl rfl (nI_1 j) rfl ?_
        refine v_goto C 6 dXS_nextRow_27 rfl ?_
        refine ih (j + 1) (by omega) (by omega) ?_
        rw [ha, an_nw, if_pos q1]
      · refine v_iload_n C 23 dXS_nextRow_22 rfl rfl ?_
        refine v_iret C Rx dXS_nextRow_23 (by omega) (by omega) ⟨_, rfl, rfl, ?_⟩
        rw [ha, an_nw, if_neg q1]
  refine v_iconst C 1 dXS_nextRow_0 rfl (nI 0) (by decide) ?_
  refine v_iload_n C 2 dXS_nextRow_1 rfl rfl ?_
  refine max_XS_15 C 5 dXS_nextRow_2 rfl (Nat.le_of_ble_eq_true rfl) (Nat.le_of_ble_eq_true rfl) (by omega) (by omega) ?_
  refine v_top _ (.int (nI r.toInt.toNat)) (congrArg Value.int (max0 r)) ?_
  refine v_istore_n C 6 _ dXS_nextRow_5 rfl (Nat.lt_of_lt_of_le (Nat.lt_succ_self _) (Nat.le_of_ble_eq_true rfl)) rfl ?_
  refine loop (16 - r.toInt.toNat) r.toInt.toNat rfl ?_ rfl
  have := Int32.toInt_lt r
  omega
set_option maxHeartbeats 4000000 in
set_option maxRecDepth 100000 in
theorem c_S_count (g : gx_T) {F : Nat → Prop} {M : mp_M} {a : Nat} {S : st_S} (h : cw g F M a S) (w : Int32) : Ct g yXS_count cXS_count 2 (some .int) 2 [.ref a, .int w] M (pi_ (fun v M' => M = M' ∧ v = an_cnt S w)) 0 0 := by
  refine ct_intro (L0 := [some (.ref a), some (.int w)]) (by decide) (Nat.le_of_ble_eq_true rfl) rfl rfl (fun x C Rx I => ?_)
  obtain ⟨lg, rl, mm, ms, ps, lf, h1, h2, h3, h4, h5, h6, h7, h8, h9⟩ := id h
  obtain ⟨mc, ed, l1, l2, l3⟩ := id h6
  refine v_iload_n C 1 dXS_count_0 rfl rfl ?_
  by_cases w0 : w = 0
  · subst w0
    refine v_tableIn C 32 dXS_count_1 (by decide) (by decide) rfl rfl ?_
    first | refine v_aload_n C 33 dXS_count_32 rfl rfl ?_ | refine v_aload_nN C 33 dXS_count_32 rfl rfl ?_ | refine v_aload_nQ C 33 dXS_count_32 rfl rfl ?_
    refine gt_XS_43 C 36 dXS_count_33 rfl h2 rfl ?_
    refine gt_XS_92 C 39 dXS_count_36 rfl h8.2.2.2.1 rfl ?_
    refine v_iret C Rx dXS_count_39 (by omega) (by omega) ⟨_, rfl, rfl, (if_pos rfl).symm⟩
  by_cases w1 : w = 1
  · subst w1
    refine v_tableIn C 40 dXS_count_1 (by decide) (by decide) rfl rfl ?_
    first | refine v_aload_n C 41 dXS_count_40 rfl rfl ?_ | refine v_aload_nN C 41 dXS_count_40 rfl rfl ?_ | refine v_aload_nQ C 41 dXS_count_40 rfl rfl ?_
    refine gt_XS_34 C 44 dXS_count_41 rfl h2 rfl ?_
    refine v_ri 47 (cl_XS_117 C ((c_A_size g h6)) l2 dXS_count_44 rfl rfl (Nat.le_of_ble_eq_true rfl) (Nat.le_of_ble_eq_true rfl) (Nat.le_of_ble_eq_true rfl) (by omega) (by omega)) rfl (fun v M2 hv => ?_)
    obtain ⟨rfl, rfl⟩ := hv
    refine v_iret C Rx dXS_count_47 (by omega) (by omega) ⟨_, rfl, rfl, by unfold an_cnt; rw [if_neg w0, if_pos rfl, cw_r_len h7]⟩
  by_cases w2 : w = 2
  · subst w2
    refine v_tableIn C 48 dXS_count_1 (by decide) (by decide) rfl rfl ?_
    first | refine v_aload_n C 49 dXS_count_48 rfl rfl ?_ | refine v_aload_nN C 49 dXS_count_48 rfl rfl ?_ | refine v_aload_nQ C 49 dXS_count_48 rfl rfl ?_
    refine gt_XS_47 C 52 dXS_count_49 rfl h2 rfl ?_
    refine v_iret C Rx dXS_count_52 (by omega) (by omega) ⟨_, rfl, rfl, by unfold an_cnt; rw [if_neg w0, if_neg w1, if_pos rfl]⟩
  by_cases w3 : w = 3
  · subst w3
    refine v_tableIn C 53 dXS_count_1 (by decide) (by decide) rfl rfl ?_
    first | refine v_aload_n C 54 dXS_count_53 rfl rfl ?_ | refine v_aload_nN C 54 dXS_count_53 rfl rfl ?_ | refine v_aload_nQ C 54 dXS_count_53 rfl rfl ?_
    refine gt_XS_50 C 57 dXS_count_54 rfl h2 rfl ?_
    refine v_iret C Rx dXS_count_57 (by omega) (by omega) ⟨_, rfl, rfl, by unfold an_cnt; rw [if_neg w0, if_neg w1, if_neg w2, if_pos rfl]⟩
  refine v_tableOut C 58 dXS_count_1 ?_ rfl ?_
  · have a0 : w.toInt ≠ 0 := fun z => w0 (Int32.toInt_inj.mp z)
    have a1 : w.toInt ≠ 1 := fun z => w1 (Int32.toInt_inj.mp z)
    have a2 : w.toInt ≠ 2 := fun z => w2 (Int32.toInt_inj.mp z)
    have a3 : w.toInt ≠ 3 := fun z => w3 (Int32.toInt_inj.mp z)
    omega
  refine v_iconst C 59 dXS_count_58 rfl (-1) (by decide) ?_
  refine v_iret C Rx dXS_count_59 (by omega) (by omega) ⟨_, rfl, rfl, by unfold an_cnt; rw [if_neg w0, if_neg w1, if_neg w2, if_neg w3]⟩
set_option maxHeartbeats 4000000 in
set_option maxRecDepth 100000 in
theorem c_S_run (g : gx_T) {F : Nat → Prop} {M : mp_M} {a : Nat} {S : st_S} (h : cw g F M a S) (hrs : (st_runs S).length ≤ 600) (k w : Int32) : Ct g yXS_run cXS_run 4 (some .int) 4 [.ref a, .int k, .int w] M (pi_ (fun v M' => M = M' ∧ v = an_run S k w)) 0 0 := by
  refine ct_intro (L0 := [some (.ref a), some (.int k), some (.int w), none]) (by decide) (Nat.le_of_ble_eq_true rfl) rfl rfl (fun x C Rx I => ?_)
  obtain ⟨lg, rl, mm, ms, ps, lf, h1, h2, h3, h4, h5, h6, h7, h8, h9⟩ := id h
  obtain ⟨mc, ed, l1, l2, l3⟩ := id h6
  have hpl := cw_r_len h7
  have no : ¬ (0 ≤ k.toInt ∧ k.toInt < (st_runs S).length) → VV g x M 0 0 15 [some (.ref a), some (.int k), some (.int w), none] [] := by
    intro hz
    refine v_iconst C 16 dXS_run_15 rfl (-1) (by decide) ?_
    refine v_iret C Rx dXS_run_16 (by omega) (by omega) ⟨_, rfl, rfl, ?_⟩
    unfold an_run
    rw [if_neg (fun z => hz ⟨z.1, z.2.1⟩)]
  refine v_iload_n C 1 dXS_run_0 rfl rfl ?_
  refine v_if_lt C 4 15 dXS_run_1 rfl rfl (fun q0 => ?_) (fun q0 => ?_)
  · refine no (fun z => ?_)
    rw [Int32.lt_iff_toInt_lt, i0] at q0
    omega
  · obtain ⟨i, hi, rfl⟩ := nI_of q0
    refine v_iload_n C 5 dXS_run_4 rfl rfl ?_
    first | refine v_aload_n C 6 dXS_run_5 rfl rfl ?_ | refine v_aload_nN C 6 dXS_run_5 rfl rfl ?_ | refine v_aload_nQ C 6 dXS_run_5 rfl rfl ?_
    refine gt_XS_34 C 9 dXS_run_6 rfl h2 rfl ?_
    refine v_ri 12 (cl_XS_117 C ((c_A_size g h6)) l2 dXS_run_9 rfl rfl (Nat.le_of_ble_eq_true rfl) (Nat.le_of_ble_eq_true rfl) (Nat.le_of_ble_eq_true rfl) (by omega) (by omega)) rfl (fun v M2 hv => ?_)
    obtain ⟨rfl, rfl⟩ := hv
    refine v_icmp_lt C 15 17 dXS_run_12 rfl rfl (fun q1 => ?_) (fun q1 => ?_)
    · have hlt : i < (st_runs S).length := by
        have := (nI_ltI hi (by omega)).mp q1
        omega
      obtain ⟨p, p1, p2, p3⟩ := h7.at hlt
      have e0 : (nI i).toInt.toNat = i := nI_tn hi
      have e1 : 0 ≤ (nI i).toInt ∧ (nI i).toInt < (st_runs S).length := by
        rw [nI_toInt hi]
        omega
      first | refine v_aload_n C 18 dXS_run_17 rfl rfl ?_ | refine v_aload_nN C 18 dXS_run_17 rfl rfl ?_ | refine v_aload_nQ C 18 dXS_run_17 rfl rfl ?_
      refine gt_XS_34 C 21 dXS_run_18 rfl h2 rfl ?_
      refine v_iload_n C 22 dXS_run_21 rfl rfl ?_
      refine v_rq 25 (cl_XS_119 C ((c_A_get g h6 i (by omega) (by omega))) l2 dXS_run_22 rfl rfl (Nat.le_of_ble_eq_true rfl) (Nat.le_of_ble_eq_true rfl) (Nat.le_of_ble_eq_true rfl) (by omega) (by omega)) rfl (fun o2 M2 hv => ?_)
      obtain ⟨rfl, rfl⟩ := hv
      rw [p2]
      refine ca_XS_38 C 28 dXS_run_25 rfl p3.2.2.2.1 ?_
      first | refine v_astore_n C 29 _ dXS_run_28 rfl (Nat.lt_of_lt_of_le (Nat.lt_succ_self _) (Nat.le_of_ble_eq_true rfl)) rfl ?_ | refine v_astore_nN C 29 _ dXS_run_28 rfl (Nat.lt_of_lt_of_le (Nat.lt_succ_self _) (Nat.le_of_ble_eq_true rfl)) rfl ?_ | refine v_astore_nQ C 29 _ dXS_run_28 rfl (Nat.lt_of_lt_of_le (Nat.lt_succ_self _) (Nat.le_of_ble_eq_true rfl)) rfl ?_
      refine v_iload_n C 30 dXS_run_29 rfl rfl ?_
      by_cases w0 : w = 0
      · subst w0
        refine v_tableIn C 56 dXS_run_30 (by decide) (by decide) rfl rfl ?_
        first | refine v_aload_n C 57 dXS_run_56 rfl rfl ?_ | refine v_aload_nN C 57 dXS_run_56 rfl rfl ?_ | refine v_aload_nQ C 57 dXS_run_56 rfl rfl ?_
        refine gt_XS_92 C 60 dXS_run_57 rfl p3.2.2.2.1 rfl ?_
        refine v_iret C Rx dXS_run_60 (by omega) (by omega) ⟨_, rfl, rfl, by unfold an_run; rw [if_pos ⟨e1.1, e1.2, by decide, by decide⟩, if_pos rfl, e0]⟩
      by_cases w1 : w = 1
      · subst w1
        refine v_tableIn C 61 dXS_run_30 (by decide) (by decide) rfl rfl ?_
        first | refine v_aload_n C 62 dXS_run_61 rfl rfl ?_ | refine v_aload_nN C 62 dXS_run_61 rfl rfl ?_ | refine v_aload_nQ C 62 dXS_run_61 rfl rfl ?_
        refine gt_XS_123 C 65 dXS_run_62 rfl p3.2.2.2.1 rfl ?_
        refine v_iret C Rx dXS_run_65 (by omega) (by omega) ⟨_, rfl, rfl, by unfold an_run; rw [if_pos ⟨e1.1, e1.2, by decide, by decide⟩, if_neg w0, if_pos rfl, e0]⟩
      by_cases w2 : w = 2
      · subst w2
        refine v_tableIn C 66 dXS_run_30 (by decide) (by decide) rfl rfl ?_
        first | refine v_aload_n C 67 dXS_run_66 rfl rfl ?_ | refine v_aload_nN C 67 dXS_run_66 rfl rfl ?_ | refine v_aload_nQ C 67 dXS_run_66 rfl rfl ?_
        refine gt_XS_126 C 70 dXS_run_67 rfl p3.2.2.2.1 rfl ?_
        refine v_iret C Rx dXS_run_70 (by omega) (by omega) ⟨_, rfl, rfl, by unfold an_run; rw [if_pos ⟨e1.1, e1.2, by decide, by decide⟩, if_neg w0, if_neg w1, e0]⟩
      have a0 : w.toInt ≠ 0 := fun z => w0 (Int32.toInt_inj.mp z)
      have a1 : w.toInt ≠ 1 := fun z => w1 (Int32.toInt_inj.mp z)
      have a2 : w.toInt ≠ 2 := fun z => w2 (Int32.toInt_inj.mp z)
      refine v_tableOut C 71 dXS_run_30 (by omega) rfl ?_
      refine v_iconst C 72 dXS_run_71 rfl (-1) (by decide) ?_
      refine v_iret C Rx dXS_run_72 (by omega) (by omega) ⟨_, rfl, rfl, by unfold an_run; rw [if_neg (fun z => by omega)]⟩
    · refine no (fun z => q1 (nI_lt ?_ (by omega)))
      rw [nI_toInt hi] at z
      omega
theorem cw_upS {g : gx_T} {F : Nat → Prop} {M : mp_M} {a : Nat} {S S' : st_S} {lg rl mm ms : Nat} {ps : List (Nat × Nat)} {lf : Nat → Option Nat} (h : cw_x g F M a S lg rl mm ms ps lf) (hm : st_mem S' = st_mem S) (hl : ∀ (i : Nat) (e : en_E), (st_log S')[i]? = some e → (st_log S)[i]? = some e) (hr : st_runs S' = st_runs S) : cw_x g F (mp_u M a (ob_S S' lg rl mm)) a S' lg rl mm ms ps lf := by
  obtain ⟨h1, h2, h3, h4, h5, h6, h7, h8, h9⟩ := h
  have K : mp_k (fun q => q = a) M (mp_u M a (ob_S S' lg rl mm)) := mp_k.up rfl
  have nn : nE (fun q => q = a) M := by
    intro q fs hq
    rw [hq, h2]
    intro z
    cases z
  obtain ⟨mc, ed, l1, l2, l3⟩ := id h6
  refine ⟨h1, mp_us, h3, K _ _ (fun z => ne_a h2 h4 z.symm) h4, fun i e hi => (h5 i e (hl i e hi)).imp (fun q hq => ⟨hq.1, hq.2.k K nn⟩), h6.k K (ne_o l2 h2 (by decide)) (fun q c f hq z => ne_a h2 hq z.symm), ?_, ?_, h9⟩
  · rw [hr]
    refine h7.k K nn (fun p hp => ?_)
    obtain ⟨t, T, c1, c2, c3, c4, f, c5, c6⟩ := cw_r_tab h7 hp
    exact ⟨ne_o c4 h2 (by decide), fun z => ne_a h2 c5 z.symm⟩
  · rw [hm]
    obtain ⟨c1, c2, c3, c4, f, c5, c6⟩ := id h8
    exact h8.k K nn (ne_o c4 h2 (by decide)) (fun z => ne_a h2 c5 z.symm)
set_option maxHeartbeats 4000000 in
set_option maxRecDepth 100000 in
theorem c_S_sync (g : gx_T) {F : Nat → Prop} {M : mp_M} {a : Nat} {S : st_S} (h : cw g F M a S) : Ct g yXS_sync cXS_sync 1 (some .int) 1 [.ref a] M (pi_ (fun v M' => v = nI (st_log S).length ∧ mp_k (fun q => ¬ F q) M M' ∧ cw g F M' a (sx_syn S))) 0 0 := by
  refine ct_intro (L0 := [some (.ref a)]) (by decide) (Nat.le_of_ble_eq_true rfl) rfl rfl (fun x C Rx I => ?_)
  obtain ⟨lg, rl, mm, ms, ps, lf, hx⟩ := h
  have h2 := hx.2.1
  first | refine v_aload_n C 1 dXS_sync_0 rfl rfl ?_ | refine v_aload_nN C 1 dXS_sync_0 rfl rfl ?_ | refine v_aload_nQ C 1 dXS_sync_0 rfl rfl ?_
  first | refine v_aload_n C 2 dXS_sync_1 rfl rfl ?_ | refine v_aload_nN C 2 dXS_sync_1 rfl rfl ?_ | refine v_aload_nQ C 2 dXS_sync_1 rfl rfl ?_
  refine gt_XS_47 C 5 dXS_sync_2 rfl h2 rfl ?_
  refine pt_XS_50 C 8 dXS_sync_5 rfl rfl rfl h2 (Nat.lt_of_lt_of_le (Nat.lt_succ_self _) (Nat.le_of_ble_eq_true rfl)) _ rfl ?_
  first | refine v_aload_n C 9 dXS_sync_8 rfl rfl ?_ | refine v_aload_nN C 9 dXS_sync_8 rfl rfl ?_ | refine v_aload_nQ C 9 dXS_sync_8 rfl rfl ?_
  refine gt_XS_50 C 12 dXS_sync_9 rfl mp_us rfl ?_
  refine v_iret C Rx dXS_sync_12 (by omega) (by omega) ⟨_, rfl, rfl, mp_k.up hx.1, lg, rl, mm, ms, ps, lf, cw_upS (S' := sx_syn S) hx rfl (fun _ _ z => z) rfl⟩
set_option maxHeartbeats 4000000 in
set_option maxRecDepth 100000 in
theorem c_S_tick (g : gx_T) {F : Nat → Prop} {M : mp_M} {a : Nat} {S : st_S} (h : cw g F M a S) (n : Int32) : Ct g yXS_tick cXS_tick 2 (some .int) 1 [.ref a, .int n] M (pi_ (fun v M' => v = nI (nw_t (st_now S) n) ∧ mp_k (fun q => ¬ F q) M M' ∧ cw g F M' a (sx_tic S n))) 0 0 := by
  refine ct_intro (L0 := [some (.ref a), some (.int n)]) (by decide) (Nat.le_of_ble_eq_true rfl) rfl rfl (fun x C Rx I => ?_)
  obtain ⟨lg, rl, mm, ms, ps, lf, hx⟩ := id h
  have h2 := hx.2.1
  have no : nw_t (st_now S) n = st_now S → VV g x M 0 0 20 [some (.ref a), some (.int n)] [] := by
    intro hz
    first | refine v_aload_n C 21 dXS_tick_20 rfl rfl ?_ | refine v_aload_nN C 21 dXS_tick_20 rfl rfl ?_ | refine v_aload_nQ C 21 dXS_tick_20 rfl rfl ?_
    refine gt_XS_53 C 24 dXS_tick_21 rfl h2 rfl ?_
    refine v_iret C Rx dXS_tick_24 (by omega) (by omega) ⟨_, rfl, by rw [hz], mp_k.rf, by unfold sx_tic; rw [hz]; exact h⟩
  refine v_iload_n C 1 dXS_tick_0 rfl rfl ?_
  refine v_if_lt C 4 20 dXS_tick_1 rfl rfl (fun q0 => ?_) (fun q0 => ?_)
  · refine no (if_neg (fun z => ?_))
    rw [Int32.lt_iff_toInt_lt, i0] at q0
    omega
  · obtain ⟨i, hi, rfl⟩ := nI_of q0
    refine v_iload_n C 5 dXS_tick_4 rfl rfl ?_
    refine v_bipush C 7 dXS_tick_5 rfl (nI 100) (by decide) ?_
    refine v_icmp_gt C 10 20 dXS_tick_7 rfl rfl (fun q1 => ?_) (fun q1 => ?_)
    · refine no (if_neg (fun z => ?_))
      have := (nI_ltI (by decide) hi).mp q1
      rw [nI_toInt hi] at z
      omega
    · have q2 : i ≤ 100 := by
        by_cases z : i ≤ 100
        · exact z
        · exact absurd (nI_lt (show 100 < i by omega) hi) q1
      have e1 : nw_t (st_now S) (nI i) = st_now S + i := by
        unfold nw_t
        rw [nI_tn hi, nI_toInt hi, if_pos ⟨by omega, by omega⟩]
      first | refine v_aload_n C 11 dXS_tick_10 rfl rfl ?_ | refine v_aload_nN C 11 dXS_tick_10 rfl rfl ?_ | refine v_aload_nQ C 11 dXS_tick_10 rfl rfl ?_
      refine v_dup C 12 dXS_tick_11 rfl rfl ?_
      refine gt_XS_53 C 15 dXS_tick_12 rfl h2 rfl ?_
      refine v_iload_n C 16 dXS_tick_15 rfl rfl ?_
      refine v_iadd C 17 dXS_tick_16 rfl ?_
      refine v_top _ (.int (nI (nw_t (st_now S) (nI i)))) (congrArg Value.int ((nI_add _ _).trans (by rw [e1]))) ?_
      refine pt_XS_53 C 20 dXS_tick_17 rfl rfl rfl h2 (Nat.lt_of_lt_of_le (Nat.lt_succ_self _) (Nat.le_of_ble_eq_true rfl)) _ rfl ?_
      first | refine v_aload_n C 21 dXS_tick_20 rfl rfl ?_ | refine v_aload_nN C 21 dXS_tick_20 rfl rfl ?_ | refine v_aload_nQ C 21 dXS_tick_20 rfl rfl ?_
      refine gt_XS_53 C 24 dXS_tick_21 rfl mp_us rfl ?_
      refine v_iret C Rx dXS_tick_24 (by omega) (by omega) ⟨_, rfl, rfl, mp_k.up hx.1, lg, rl, mm, ms, ps, lf, cw_upS (S' := sx_tic S (nI i)) hx rfl (fun _ _ z => z) rfl⟩

