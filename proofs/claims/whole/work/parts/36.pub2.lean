set_option maxHeartbeats 4000000 in
set_option maxRecDepth 100000 in
theorem c_S_flush (g : gx_T) {F : Nat → Prop} {M : mp_M} {a n : Nat} {S : st_S} (h : cw g F M a S) (B : st_b S n) (hn : n < 512) (hF : ∀ q, F q → M q ≠ none) : Ct g yXS_flush cXS_flush 2 (some .int) 9 [.ref a] M (pi_ (fun w M' => w = nI (tb_n (st_mem S)) ∧ mp_k (fun q => ¬ F q) M M' ∧ cw g F M' a (st_f S))) (4 + 3 * mg S (st_f S)) (1713 + 1708 * mg S (st_f S)) := by
  refine ct_intro (L0 := [some (.ref a), none]) (by decide) (Nat.le_of_ble_eq_true rfl) rfl rfl (fun x C Rx I => ?_)
  obtain ⟨b1, b2, b3, b4, b5, b6, b7, b8, b9, b10, b11, b12, b13, b14, b15⟩ := id B
  obtain ⟨lg, rl, mm, ms, ps, lf, h1, h2, h3, h4, h5, h6, h7, h8, h9⟩ := id h
  have hmg := mg_f (S := S) (S0 := S) rfl
  first | refine v_aload_n C 1 dXS_flush_0 rfl rfl ?_ | refine v_aload_nN C 1 dXS_flush_0 rfl rfl ?_ | refine v_aload_nQ C 1 dXS_flush_0 rfl rfl ?_
  refine gt_XS_43 C 4 dXS_flush_1 rfl h2 rfl ?_
  refine gt_XS_92 C 7 dXS_flush_4 rfl h8.2.2.2.1 rfl ?_
  refine v_istore_n C 8 _ dXS_flush_7 rfl (Nat.lt_of_lt_of_le (Nat.lt_succ_self _) (Nat.le_of_ble_eq_true rfl)) rfl ?_
  first | refine v_aload_n C 9 dXS_flush_8 rfl rfl ?_ | refine v_aload_nN C 9 dXS_flush_8 rfl rfl ?_ | refine v_aload_nQ C 9 dXS_flush_8 rfl rfl ?_
  refine v_rv 12 (cl_XS_95 C ((c_S_flushMemory g h hF (by omega) (fun k hk => (by have := b15 k hk; omega)) (by omega) (by omega))) h2 dXS_flush_9 rfl rfl (Nat.le_of_ble_eq_true rfl) (Nat.le_of_ble_eq_true rfl) (Nat.le_of_ble_eq_true rfl) (by omega) (by omega)) rfl (fun M4 hM4 => ?_)
  refine v_iload_n C 13 dXS_flush_12 rfl rfl ?_
  refine v_iret C Rx dXS_flush_13 (by omega) (by omega) ⟨_, rfl, rfl, hM4⟩
set_option maxHeartbeats 4000000 in
set_option maxRecDepth 100000 in
theorem c_S_merge (g : gx_T) {F : Nat → Prop} {M : mp_M} {a n : Nat} {S : st_S} (h : cw g F M a S) (B : st_b S n) (hn : n < 512) (hF : ∀ q, F q → M q ≠ none) : Ct g yXS_merge cXS_merge 1 (some .int) 8 [.ref a] M (pi_ (fun w M' => w = an_me S ∧ mp_k (fun q => ¬ F q) M M' ∧ cw g F M' a (st_me S))) (4 + 3 * mg S (st_me S)) (1713 + 1708 * mg S (st_me S)) := by
  refine ct_intro (L0 := [some (.ref a)]) (by decide) (Nat.le_of_ble_eq_true rfl) rfl rfl (fun x C Rx I => ?_)
  obtain ⟨b1, b2, b3, b4, b5, b6, b7, b8, b9, b10, b11, b12, b13, b14, b15⟩ := id B
  obtain ⟨lg, rl, mm, ms, ps, lf, hx⟩ := id h
  obtain ⟨h1, h2, h3, h4, h5, h6, h7, h8, h9⟩ := id hx
  have hEO := EO_ne C
  have hpl := cw_r_len h7
  obtain ⟨mc, ed, l1, l2, l3⟩ := id h6
  first | refine v_aload_n C 1 dXS_merge_0 rfl rfl ?_ | refine v_aload_nN C 1 dXS_merge_0 rfl rfl ?_ | refine v_aload_nQ C 1 dXS_merge_0 rfl rfl ?_
  refine gt_XS_34 C 4 dXS_merge_1 rfl h2 rfl ?_
  refine v_ri 7 (cl_XS_98 C ((c_A_isEmpty g h6 (by omega))) l2 dXS_merge_4 rfl rfl (Nat.le_of_ble_eq_true rfl) (Nat.le_of_ble_eq_true rfl) (Nat.le_of_ble_eq_true rfl) (by omega) (by omega)) rfl (fun v M2 hv => ?_)
  obtain ⟨rfl, rfl⟩ := hv
  refine v_if_eq C 10 12 dXS_merge_7 rfl rfl (fun q0 => ?_) (fun q0 => ?_)
  · have q1 : (st_runs S).length ≠ 0 := by
      have := of_decide_eq_false (bI_0.mp q0)
      omega
    have hme : st_me S = (st_cap S, st_gr S, st_now S, st_mem S, st_log S, st_safe S, st_j (st_now S) (st_gr S) (st_runs S) 0 (st_top (st_runs S))) := if_neg q1
    first | refine v_aload_n C 13 dXS_merge_12 rfl rfl ?_ | refine v_aload_nN C 13 dXS_merge_12 rfl rfl ?_ | refine v_aload_nQ C 13 dXS_merge_12 rfl rfl ?_
    refine v_iconst C 14 dXS_merge_13 rfl (nI 0) (by decide) ?_
    first | refine v_aload_n C 15 dXS_merge_14 rfl rfl ?_ | refine v_aload_nN C 15 dXS_merge_14 rfl rfl ?_ | refine v_aload_nQ C 15 dXS_merge_14 rfl rfl ?_
    refine v_ri 18 (cl_XS_102 C ((c_S_greatestTier g h2 h6 h7 (by omega) (fun k hk => (by have := b15 k hk; omega)))) h2 dXS_merge_15 rfl rfl (Nat.le_of_ble_eq_true rfl) (Nat.le_of_ble_eq_true rfl) (Nat.le_of_ble_eq_true rfl) (by omega) (by omega)) rfl (fun v M2 hv => ?_)
    obtain ⟨rfl, rfl⟩ := hv
    refine v_rq 21 (cl_XS_106 C ((c_S_mergeFrom g h2 h6 h7 hF (by omega) (by omega) (by omega) 0 (st_top (st_runs S)) (by omega))) h2 dXS_merge_18 rfl rfl (Nat.le_of_ble_eq_true rfl) (Nat.le_of_ble_eq_true rfl) (Nat.le_of_ble_eq_true rfl) (by omega) (by omega)) rfl (fun o M4 hv => ?_)
    obtain ⟨na, nsl, rfl, z1, z2, z3, z4, z5⟩ := hv
    have hx4 := cw_merge hEO (show cw_x g F M a (st_cap S, st_gr S, st_now S, st_mem S, st_log S, st_safe S, st_runs S) lg rl mm ms ps lf from hx) (Nat.zero_le _) z1 z2 z3 z4 z5
    refine gt_XS_92 C 24 dXS_merge_21 rfl z5.2.2.2.1 rfl ?_
    refine v_iret C Rx dXS_merge_24 (by omega) (by omega) ⟨_, rfl, ?_, lq_nF z3 l1, ?_⟩
    · unfold an_me
      rw [if_neg q1, hme]
      show _ = nI (tb_n (((st_j (st_now S) (st_gr S) (st_runs S) 0 (st_top (st_runs S))).getD 0 (0, tb_0)).2))
      rw [st_j_hi (Nat.zero_le _)]
    · rw [hme]
      exact ⟨_, _, _, _, _, _, hx4⟩
  · have q1 : (st_runs S).length = 0 := by
      have := of_decide_eq_true (bI_n0 q0)
      omega
    refine v_iconst C 11 dXS_merge_10 rfl (nI 0) (by decide) ?_
    refine v_iret C Rx dXS_merge_11 (by omega) (by omega) ⟨_, rfl, ?_, mp_k.rf, ?_⟩
    · unfold an_me
      rw [if_pos q1]
      rfl
    · unfold st_me
      rw [if_pos q1]
      exact h
set_option maxHeartbeats 8000000 in
set_option maxHeartbeats 4000000 in
set_option maxRecDepth 100000 in
theorem c_S_crash (g : gx_T) {F : Nat → Prop} {M : mp_M} {a n : Nat} {S : st_S} (h : cw g F M a S) (B : st_b S n) (hn : n < 512) : Ct g yXS_crash cXS_crash 2 (some .int) 3 [.ref a] M (pi_ (fun w M' => w = nI (st_safe S) ∧ mp_k (fun q => ¬ F q) M M' ∧ cw g F M' a (st_cr S))) 0 0 := by
  refine ct_intro (L0 := [some (.ref a), none]) (by decide) (Nat.le_of_ble_eq_true rfl) rfl rfl (fun x C Rx I => ?_)
  obtain ⟨b1, b2, b3, b4, b5, b6, b7, b8, b9, b10, b11, b12, b13, b14, b15⟩ := id B
  obtain ⟨cap, gr, now, mem, log, safe, rs⟩ := S
  obtain ⟨lg, rl, mm, ms, ps, lf, hx⟩ := id h
  obtain ⟨h1, h2, h3, h4, h5, h6, h7, h8, h9⟩ := id hx
  have hEO := EO_ne C
  replace b5 : safe ≤ log.length := b5
  replace b6 : log.length ≤ n := b6
  replace b3 : ∀ e, e ∈ log → en_ok e := b3
  have nF : ∀ q, q = mm ∨ q = ms → ¬ F q := fun q hq => hq.elim (fun z => by rw [z]; exact h8.1) (fun z => by rw [z]; exact h8.2.1)
  have loop : ∀ (m i : Nat) (M3 : mp_M), i + m = safe → cw_x g F M3 a (cap, gr, now, (log.take i).foldl tb_a tb_0, log, safe, rs) lg rl mm ms ps lf → mp_k (fun q => ¬ F q) M M3 → VV g x M3 0 0 9 [some (.ref a), some (.int (nI i))] [] := by
    intro m
    induction m with
    | zero =>
      intro i M3 hi hx3 K3
      obtain rfl : i = safe := by omega
      refine v_iload_n C 10 dXS_crash_9 rfl rfl ?_
      first | refine v_aload_n C 11 dXS_crash_10 rfl rfl ?_ | refine v_aload_nN C 11 dXS_crash_10 rfl rfl ?_ | refine v_aload_nQ C 11 dXS_crash_10 rfl rfl ?_
      refine gt_XS_50 C 14 dXS_crash_11 rfl hx3.2.1 rfl ?_
      refine v_icmp_ge C 17 36 dXS_crash_14 rfl rfl (fun h9 => ?_) (fun h9 => False.elim (by first | exact h9 ((nI_le (Nat.le_refl _) (show i < 2 ^ 31 by omega))) | exact absurd h9 ((nI_le (Nat.le_refl _) (show i < 2 ^ 31 by omega)))))
      first | refine v_aload_n C 37 dXS_crash_36 rfl rfl ?_ | refine v_aload_nN C 37 dXS_crash_36 rfl rfl ?_ | refine v_aload_nQ C 37 dXS_crash_36 rfl rfl ?_
      first | refine v_aload_n C 38 dXS_crash_37 rfl rfl ?_ | refine v_aload_nN C 38 dXS_crash_37 rfl rfl ?_ | refine v_aload_nQ C 38 dXS_crash_37 rfl rfl ?_
      refine gt_XS_50 C 41 dXS_crash_38 rfl hx3.2.1 rfl ?_
      refine pt_XS_47 C 44 dXS_crash_41 rfl rfl rfl hx3.2.1 (Nat.lt_of_lt_of_le (Nat.lt_succ_self _) (Nat.le_of_ble_eq_true rfl)) _ rfl ?_
      first | refine v_aload_n C 45 dXS_crash_44 rfl rfl ?_ | refine v_aload_nN C 45 dXS_crash_44 rfl rfl ?_ | refine v_aload_nQ C 45 dXS_crash_44 rfl rfl ?_
      refine gt_XS_50 C 48 dXS_crash_45 rfl mp_us rfl ?_
      have hlen : (log.take i).length = i := by
        rw [List.length_take]
        omega
      refine v_iret C Rx dXS_crash_48 (by omega) (by omega) ⟨_, rfl, rfl, mp_k.tr K3 (mp_k.up h1), lg, rl, mm, ms, ps, lf, ?_⟩
      have := cw_upS (S' := st_cr (cap, gr, now, mem, log, i, rs)) hx3 rfl (fun j e hj => ?_) rfl
      · have e9 : ob_S (st_cr (cap, gr, now, mem, log, i, rs)) lg rl mm = .inr (ci_S, [.int (nI cap), .int (nI gr), .ref lg, .ref rl, .ref mm, .int (nI i), .int (nI i), .int (nI now)]) := by
          show (Sum.inr (ci_S, [Value.int (nI cap), .int (nI gr), .ref lg, .ref rl, .ref mm, .int (nI (log.take i).length), .int (nI i), .int (nI now)]) : va_E) = _
          rw [hlen]
        rw [e9] at this
        exact this
      · have hj2 : (log.take i)[j]? = some e := hj
        have hl := (List.getElem?_eq_some_iff.mp hj2).1
        rw [hlen] at hl
        rw [List.getElem?_take, if_pos hl] at hj2
        exact hj2
    | succ m ih =>
      intro i M3 hi hx3 K3
      obtain ⟨y1, y2, y3, y4, y5, y6, y7, y8, y9⟩ := id hx3
      have hlt : i < log.length := by omega
      obtain ⟨q, hq, hqe⟩ := y5 i log[i] (List.getElem?_eq_getElem hlt)
      refine v_iload_n C 10 dXS_crash_9 rfl rfl ?_
      first | refine v_aload_n C 11 dXS_crash_10 rfl rfl ?_ | refine v_aload_nN C 11 dXS_crash_10 rfl rfl ?_ | refine v_aload_nQ C 11 dXS_crash_10 rfl rfl ?_
      refine gt_XS_50 C 14 dXS_crash_11 rfl y2 rfl ?_
      refine v_icmp_ge C 17 36 dXS_crash_14 rfl rfl (fun h9 => False.elim (by first | exact h9 ((nI_ge (show i < safe by omega) (show safe < 2 ^ 31 by omega))) | exact absurd h9 ((nI_ge (show i < safe by omega) (show safe < 2 ^ 31 by omega))))) (fun h9 => ?_)
      first | refine v_aload_n C 18 dXS_crash_17 rfl rfl ?_ | refine v_aload_nN C 18 dXS_crash_17 rfl rfl ?_ | refine v_aload_nQ C 18 dXS_crash_17 rfl rfl ?_
      refine gt_XS_43 C 21 dXS_crash_18 rfl y2 rfl ?_
      first | refine v_aload_n C 22 dXS_crash_21 rfl rfl ?_ | refine v_aload_nN C 22 dXS_crash_21 rfl rfl ?_ | refine v_aload_nQ C 22 dXS_crash_21 rfl rfl ?_
      refine gt_XS_27 C 25 dXS_crash_22 rfl y2 rfl ?_
      refine v_iload_n C 26 dXS_crash_25 rfl rfl ?_
      refine v_aald C 27 0 rfl dXS_crash_26 rfl y4 i rfl (by omega) (by decide) ?_
      rw [hq]
      refine v_rv 30 (cl_XS_113 C ((c_T_addWinner g y8 hqe (b3 _ (List.getElem_mem hlt)))) y8.2.2.2.1 dXS_crash_27 rfl rfl (Nat.le_of_ble_eq_true rfl) (Nat.le_of_ble_eq_true rfl) (Nat.le_of_ble_eq_true rfl) (by omega) (by omega)) rfl (fun M4 hM4 => ?_)
      obtain ⟨k4, t4⟩ := hM4
      refine v_iinc C 33 _ (nI (i + 1)) dXS_crash_30 rfl rfl (nI_1 i) rfl ?_
      refine v_goto C 9 dXS_crash_33 rfl ?_
      refine ih (i + 1) M4 (by omega) ?_ (mp_k.tr K3 (k4.mono nF))
      have e9 : (log.take (i + 1)).foldl tb_a tb_0 = tb_a ((log.take i).foldl tb_a tb_0) log[i] := by
        rw [List.take_add_one, List.foldl_append, List.getElem?_eq_getElem hlt]
        rfl
      rw [e9]
      exact cw_mem hEO hx3 k4 t4
  first | refine v_aload_n C 1 dXS_crash_0 rfl rfl ?_ | refine v_aload_nN C 1 dXS_crash_0 rfl rfl ?_ | refine v_aload_nQ C 1 dXS_crash_0 rfl rfl ?_
  refine gt_XS_43 C 4 dXS_crash_1 rfl h2 rfl ?_
  refine v_rv 7 (cl_XS_110 C ((c_T_clearSlots g h8)) h8.2.2.2.1 dXS_crash_4 rfl rfl (Nat.le_of_ble_eq_true rfl) (Nat.le_of_ble_eq_true rfl) (Nat.le_of_ble_eq_true rfl) (by omega) (by omega)) rfl (fun M4 hM4 => ?_)
  obtain ⟨k4, t4⟩ := hM4
  refine v_iconst C 8 dXS_crash_7 rfl (nI 0) (by decide) ?_
  refine v_istore_n C 9 _ dXS_crash_8 rfl (Nat.lt_of_lt_of_le (Nat.lt_succ_self _) (Nat.le_of_ble_eq_true rfl)) rfl ?_
  exact loop safe 0 M4 (by omega) (cw_mem hEO hx k4 t4) (k4.mono nF)
theorem clp_mm {lo hi : Nat} (hl : lo ≤ hi) (hh : hi < 2 ^ 31) (v : Int32) : (if nI lo < (if v < nI hi then v else nI hi) then (if v < nI hi then v else nI hi) else nI lo) = nI (clp lo hi v) := by
  have e1 : (nI lo).toInt = lo := nI_toInt (by omega)
  have e2 : (nI hi).toInt = hi := nI_toInt hh
  unfold clp
  by_cases h1 : v < nI hi
  · rw [if_pos h1]
    rw [Int32.lt_iff_toInt_lt, e2] at h1
    by_cases h2 : nI lo < v
    · rw [if_pos h2]
      rw [Int32.lt_iff_toInt_lt, e1] at h2
      rw [if_neg (by omega), if_neg (by omega)]
      obtain ⟨j, hj, rfl⟩ := nI_of (x := v) (by rw [Int32.lt_iff_toInt_lt, i0]; omega)
      rw [nI_tn hj]
    · rw [if_neg h2]
      rw [Int32.lt_iff_toInt_lt, e1] at h2
      by_cases h3 : v.toInt < lo
      · rw [if_pos h3]
      · rw [if_neg h3, if_neg (by omega), show v.toInt.toNat = lo by omega]
  · rw [if_neg h1]
    rw [Int32.lt_iff_toInt_lt, e2] at h1
    by_cases h2 : nI lo < nI hi
    · rw [if_pos h2]
      rw [Int32.lt_iff_toInt_lt, e1, e2] at h2
      rw [if_neg (by omega)]
      by_cases h3 : (hi : Int) < v.toInt
      · rw [if_pos h3]
      · rw [if_neg h3, show v.toInt.toNat = hi by omega]
    · rw [if_neg h2]
      rw [Int32.lt_iff_toInt_lt, e1, e2] at h2
      have : lo = hi := by omega
      subst this
      rw [if_neg (by omega)]
      by_cases h3 : (lo : Int) < v.toInt
      · rw [if_pos h3]
      · rw [if_neg h3, show v.toInt.toNat = lo by omega]
set_option maxHeartbeats 8000000 in
set_option maxHeartbeats 4000000 in
set_option maxRecDepth 100000 in
theorem c_S_init (g : gx_T) {F : Nat → Prop} {M : mp_M} {a : Nat} (cap gr : Int32) (hM : M a = some (.inr (ci_S, [.int 0, .int 0, .null, .null, .null, .int 0, .int 0, .int 0]))) (hFa : ¬ F a) (hF : ∀ q, F q → M q ≠ none) : Ct g yXS_init cXS_init 3 none 4 [.ref a, .int cap, .int gr] M (pv (fun M' => mp_k (fun q => q = a) M M' ∧ cw g F M' a (st_0 cap gr))) 4 1223 := by
  refine ct_intro (L0 := [some (.ref a), some (.int cap), some (.int gr)]) (by decide) (Nat.le_of_ble_eq_true rfl) rfl rfl (fun x C Rx I => ?_)
  have hEO := EO_ne C
  first | refine v_aload_n C 1 dXS_init_0 rfl rfl ?_ | refine v_aload_nN C 1 dXS_init_0 rfl rfl ?_ | refine v_aload_nQ C 1 dXS_init_0 rfl rfl ?_
  refine oi_XS_3 C 4 dXS_init_1 rfl (Nat.le_of_ble_eq_true rfl) (Nat.le_of_ble_eq_true rfl) ?_
  first | refine v_aload_n C 5 dXS_init_4 rfl rfl ?_ | refine v_aload_nN C 5 dXS_init_4 rfl rfl ?_ | refine v_aload_nQ C 5 dXS_init_4 rfl rfl ?_
  refine v_iconst C 6 dXS_init_5 rfl (nI 2) (by decide) ?_
  refine v_bipush C 8 dXS_init_6 rfl (nI 20) (by decide) ?_
  refine v_iload_n C 9 dXS_init_8 rfl rfl ?_
  refine min_XS_9 C 12 dXS_init_9 rfl (Nat.le_of_ble_eq_true rfl) (Nat.le_of_ble_eq_true rfl) (by omega) (by omega) ?_
  refine max_XS_15 C 15 dXS_init_12 rfl (Nat.le_of_ble_eq_true rfl) (Nat.le_of_ble_eq_true rfl) (by omega) (by omega) ?_
  refine v_top _ (.int (nI (clp 2 20 cap))) (congrArg Value.int (clp_mm (by decide) (by decide) cap)) ?_
  refine pt_XS_18 C (I rfl) 18 dXS_init_15 rfl rfl rfl hM (Nat.lt_of_lt_of_le (Nat.lt_succ_self _) (Nat.le_of_ble_eq_true rfl)) _ rfl ?_
  first | refine v_aload_n C 19 dXS_init_18 rfl rfl ?_ | refine v_aload_nN C 19 dXS_init_18 rfl rfl ?_ | refine v_aload_nQ C 19 dXS_init_18 rfl rfl ?_
  refine v_iconst C 20 dXS_init_19 rfl (nI 0) (by decide) ?_
  refine v_bipush C 22 dXS_init_20 rfl (nI 50) (by decide) ?_
  refine v_iload_n C 23 dXS_init_22 rfl rfl ?_
  refine min_XS_9 C 26 dXS_init_23 rfl (Nat.le_of_ble_eq_true rfl) (Nat.le_of_ble_eq_true rfl) (by omega) (by omega) ?_
  refine max_XS_15 C 29 dXS_init_26 rfl (Nat.le_of_ble_eq_true rfl) (Nat.le_of_ble_eq_true rfl) (by omega) (by omega) ?_
  refine v_top _ (.int (nI (clp 0 50 gr))) (congrArg Value.int (clp_mm (by decide) (by decide) gr)) ?_
  refine pt_XS_22 C (I rfl) 32 dXS_init_29 rfl rfl rfl mp_us (Nat.lt_of_lt_of_le (Nat.lt_succ_self _) (Nat.le_of_ble_eq_true rfl)) _ rfl ?_
  rw [mp_uu]
  first | refine v_aload_n C 33 dXS_init_32 rfl rfl ?_ | refine v_aload_nN C 33 dXS_init_32 rfl rfl ?_ | refine v_aload_nQ C 33 dXS_init_32 rfl rfl ?_
  refine v_sipush C 36 dXS_init_33 rfl (nI 512) (by decide) ?_
  refine na_XS_25 C 39 dXS_init_36 rfl 512 rfl (by decide) (by omega) (by omega) (fun lg hlg => ?_)
  have n1 : a ≠ lg := fun z => by rw [← z, mp_us] at hlg; cases hlg
  have m1 : M lg = none := (mp_un (fun z => n1 z.symm)).symm.trans hlg
  refine pt_XS_27 C (I rfl) 42 dXS_init_39 rfl rfl rfl ((mp_un n1).trans mp_us) (Nat.lt_of_lt_of_le (Nat.lt_succ_self _) (Nat.le_of_ble_eq_true rfl)) _ rfl ?_
  generalize hM1 : mp_u (mp_u (mp_u M a (.inr (ci_S, [.int (nI (clp 2 20 cap)), .int (nI (clp 0 50 gr)), .null, .null, .null, .int 0, .int 0, .int 0]))) lg (ar_q (gx_E g) 512 (fun _ => none))) a (.inr (ci_S, [.int (nI (clp 2 20 cap)), .int (nI (clp 0 50 gr)), .ref lg, .null, .null, .int 0, .int 0, .int 0])) = M1
  have f1 : M1 a = some (.inr (ci_S, [.int (nI (clp 2 20 cap)), .int (nI (clp 0 50 gr)), .ref lg, .null, .null, .int 0, .int 0, .int 0])) := by rw [← hM1]; exact mp_us
  have f2 : M1 lg = some (ar_q (gx_E g) 512 (fun _ => none)) := by rw [← hM1, mp_un (fun z => n1 z.symm)]; exact mp_us
  have K1 : mp_k (fun q => q = a) M M1 := by
    rw [← hM1]
    exact mp_k.tr (P := fun q => q = a) (mp_k.tr (P := fun q => q = a) (mp_k.up rfl) (mp_k.new hlg)) (mp_k.up rfl)
  have nFl : ¬ F lg := fun z => hF lg z m1
  have hF1 : ∀ q, F q → M1 q ≠ none := F_k hF K1 (fun q hq z => hFa (by rw [← z]; exact hq))
  refine (show VV g x M1 _ _ 42 _ _ → VV g x (mp_u (mp_u (mp_u M a (.inr (ci_S, [.int (nI (clp 2 20 cap)), .int (nI (clp 0 50 gr)), .null, .null, .null, .int 0, .int 0, .int 0]))) lg (ar_q (gx_E g) 512 (fun _ => none))) a (.inr (ci_S, [.int (nI (clp 2 20 cap)), .int (nI (clp 0 50 gr)), .ref lg, .null, .null, .int 0, .int 0, .int 0]))) _ _ 42 _ _ from fun z => by rw [hM1]; exact z) ?_
  first | refine v_aload_n C 43 dXS_init_42 rfl rfl ?_ | refine v_aload_nN C 43 dXS_init_42 rfl rfl ?_ | refine v_aload_nQ C 43 dXS_init_42 rfl rfl ?_
  refine nw_XS_31 C 46 dXS_init_43 rfl (by omega) (by omega) (fun rl hrl => ?_)
  refine v_dup C 47 dXS_init_46 rfl rfl ?_
  have nFr : ¬ F rl := fun z => hF1 rl z hrl
  refine v_rv 50 (cl_XS_33 C ((c_A_init (F := F) g mp_us rfl rfl nFr)) dXS_init_47 rfl rfl (Nat.le_of_ble_eq_true rfl) (Nat.le_of_ble_eq_true rfl) (Nat.le_of_ble_eq_true rfl) (by omega) (by omega)) rfl (fun M2 hM2 => ?_)
  obtain ⟨k2, l2⟩ := hM2
  have K2 : mp_k (fun _ => False) M1 M2 := mp_kF (mp_k.new hrl) k2 (fun q hq => by rw [hq]; exact hrl)
  refine pt_XS_34 C (I rfl) 53 dXS_init_50 rfl rfl rfl (K2 _ _ id f1) (Nat.lt_of_lt_of_le (Nat.lt_succ_self _) (Nat.le_of_ble_eq_true rfl)) _ rfl ?_
  generalize hM3 : mp_u M2 a (.inr (ci_S, [.int (nI (clp 2 20 cap)), .int (nI (clp 0 50 gr)), .ref lg, .ref rl, .null, .int 0, .int 0, .int 0])) = M3
  have f3 : M3 a = some (.inr (ci_S, [.int (nI (clp 2 20 cap)), .int (nI (clp 0 50 gr)), .ref lg, .ref rl, .null, .int 0, .int 0, .int 0])) := by rw [← hM3]; exact mp_us
  have K3 : mp_k (fun q => q = a) M2 M3 := by
    rw [← hM3]
    exact mp_k.up rfl
  have nra : rl ≠ a := fun z => by rw [z, f1] at hrl; cases hrl
  have l3 : cw_l g F M3 rl [] := l2.k K3 nra (fun q c f hq z => by rw [z, K2 _ _ id f1] at hq; cases hq)
  have g3 : M3 lg = some (ar_q (gx_E g) 512 (fun _ => none)) := K3 _ _ (fun z => n1 z.symm) (K2 _ _ id f2)
  have K13 : mp_k (fun q => q = a) M M3 := mp_k.tr (P := fun q => q = a) K1 (mp_k.tr (P := fun q => q = a) (K2.mono (fun _ z => z.elim)) K3)
  have hF3 : ∀ q, F q → M3 q ≠ none := F_k hF K13 (fun q hq z => hFa (by rw [← z]; exact hq))
  refine (show VV g x M3 _ _ 53 _ _ → VV g x (mp_u M2 a (.inr (ci_S, [.int (nI (clp 2 20 cap)), .int (nI (clp 0 50 gr)), .ref lg, .ref rl, .null, .int 0, .int 0, .int 0]))) _ _ 53 _ _ from fun z => by rw [hM3]; exact z) ?_
  first | refine v_aload_n C 54 dXS_init_53 rfl rfl ?_ | refine v_aload_nN C 54 dXS_init_53 rfl rfl ?_ | refine v_aload_nQ C 54 dXS_init_53 rfl rfl ?_
  refine nw_XS_38 C 57 dXS_init_54 rfl (by omega) (by omega) (fun na hna => ?_)
  refine v_dup C 58 dXS_init_57 rfl rfl ?_
  refine v_iconst C 59 dXS_init_58 rfl (nI 0) (by decide) ?_
  have nFa : ¬ F na := fun z => hF3 na z hna
  have hF0 : ∀ q, F q → mp_u M3 na (.inr (ci_T, [.int 0, .null, .int 0, .int 0])) q ≠ none := F_k (P := fun _ => False) hF3 (mp_k.new hna) (fun _ _ z => z)
  refine v_rv 62 (cl_XS_40 C ((c_T_init g 0 mp_us rfl hF0 nFa)) dXS_init_59 rfl rfl (Nat.le_of_ble_eq_true rfl) (Nat.le_of_ble_eq_true rfl) (Nat.le_of_ble_eq_true rfl) (by omega) (by omega)) rfl (fun M4 hM4 => ?_)
  obtain ⟨nsl, hns, k4, t4⟩ := hM4
  have K4 : mp_k (fun _ => False) M3 M4 := mp_kF (mp_k.new hna) k4 (fun q hq => by rw [hq]; exact hna)
  refine pt_XS_43 C 65 dXS_init_62 rfl rfl rfl (K4 _ _ id f3) (Nat.lt_of_lt_of_le (Nat.lt_succ_self _) (Nat.le_of_ble_eq_true rfl)) _ rfl ?_
  first | refine v_aload_n C 66 dXS_init_65 rfl rfl ?_ | refine v_aload_nN C 66 dXS_init_65 rfl rfl ?_ | refine v_aload_nQ C 66 dXS_init_65 rfl rfl ?_
  refine v_iconst C 67 dXS_init_66 rfl (nI 0) (by decide) ?_
  refine pt_XS_47 C 70 dXS_init_67 rfl rfl rfl mp_us (Nat.lt_of_lt_of_le (Nat.lt_succ_self _) (Nat.le_of_ble_eq_true rfl)) _ rfl ?_
  rw [mp_uu]
  first | refine v_aload_n C 71 dXS_init_70 rfl rfl ?_ | refine v_aload_nN C 71 dXS_init_70 rfl rfl ?_ | refine v_aload_nQ C 71 dXS_init_70 rfl rfl ?_
  refine v_iconst C 72 dXS_init_71 rfl (nI 0) (by decide) ?_
  refine pt_XS_50 C 75 dXS_init_72 rfl rfl rfl mp_us (Nat.lt_of_lt_of_le (Nat.lt_succ_self _) (Nat.le_of_ble_eq_true rfl)) _ rfl ?_
  rw [mp_uu]
  first | refine v_aload_n C 76 dXS_init_75 rfl rfl ?_ | refine v_aload_nN C 76 dXS_init_75 rfl rfl ?_ | refine v_aload_nQ C 76 dXS_init_75 rfl rfl ?_
  refine v_iconst C 77 dXS_init_76 rfl (nI 0) (by decide) ?_
  refine pt_XS_53 C 80 dXS_init_77 rfl rfl rfl mp_us (Nat.lt_of_lt_of_le (Nat.lt_succ_self _) (Nat.le_of_ble_eq_true rfl)) _ rfl ?_
  rw [mp_uu]
  have hx5 := cw_mk (S := st_0 cap gr) (lg := lg) (rl := rl) (mm := na) (ms := nsl) (ps := []) (lf := fun _ => none) hFa (K4 _ _ id f3) nFl (K4 _ _ id g3) (fun i e hi => (by simp [st_log, st_0] at hi)) (l3.k K4 id (fun _ _ _ _ z => z)) ⟨rfl, fun i p t hp => (by simp at hp)⟩ t4 (fun i j p q hp hq _ => ?_)
  · refine v_vret C Rx dXS_init_80 (by omega) (by omega) ⟨rfl, ?_, lg, rl, na, nsl, [], fun _ => none, hx5⟩
    exact mp_k.tr (P := fun q => q = a) (mp_k.tr (P := fun q => q = a) K13 (K4.mono (fun _ z => z.elim))) (mp_k.up rfl)
  · have a1 := (List.getElem?_eq_some_iff.mp hp).1
    have a2 := (List.getElem?_eq_some_iff.mp hq).1
    have a3 : i < 1 := a1
    have a4 : j < 1 := a2
    omega

