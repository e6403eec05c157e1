noncomputable def an_get (S : st_S) (r c : Int32) : Int32 := match st_v S r c with
  | some e => en_v e
  | none => 0
noncomputable def an_stm (S : st_S) (r c : Int32) : Int32 := match st_v S r c with
  | some e => nI (en_p e)
  | none => -1
noncomputable def an_nx (S : st_S) (r : Int32) : Nat → Nat → Int32
  | 0, _ => -1
  | n + 1, j => if (st_v S r (nI j)).isSome = true then nI j else an_nx S r n (j + 1)
noncomputable def an_next (S : st_S) (r c : Int32) : Int32 := an_nx S r (8 - c.toInt.toNat) c.toInt.toNat
noncomputable def an_nw (S : st_S) : Nat → Nat → Int32
  | 0, _ => -1
  | n + 1, i => if an_next S (nI i) (nI 0) = -1 then an_nw S n (i + 1) else nI i
noncomputable def an_nrow (S : st_S) (r : Int32) : Int32 := an_nw S (16 - r.toInt.toNat) r.toInt.toNat
theorem an_nx_r (S : st_S) (r : Int32) : ∀ (n j : Nat), j + n ≤ 8 → an_nx S r n j = -1 ∨ ∃ i : Nat, i < 8 ∧ an_nx S r n j = nI i
  | 0, _, _ => Or.inl rfl
  | n + 1, j, h => by
    unfold an_nx
    split
    · exact Or.inr ⟨j, by omega, rfl⟩
    · exact an_nx_r S r n (j + 1) (by omega)
theorem an_next_r (S : st_S) (r c : Int32) : an_next S r c = -1 ∨ ∃ i : Nat, i < 8 ∧ an_next S r c = nI i := by
  unfold an_next
  by_cases h : c.toInt.toNat ≤ 8
  · exact an_nx_r S r _ _ (by omega)
  · rw [show 8 - c.toInt.toNat = 0 by omega]
    exact Or.inl rfl
theorem an_next_neg (S : st_S) (r c : Int32) : an_next S r c < 0 ↔ an_next S r c = -1 := by
  rcases an_next_r S r c with h | ⟨i, hi, h⟩
  · rw [h]
    decide
  · rw [h]
    exact ⟨fun z => absurd z (nI_pos (by omega)), fun z => absurd (show nI i < 0 by rw [z]; decide) (nI_pos (by omega))⟩
set_option maxHeartbeats 4000000 in
set_option maxRecDepth 100000 in
theorem c_M_get (g : gx_T) {M : mp_M} {b : Nat} {A : Nat → Nat} {S : st_S} {n : Nat} (h : rp g M b A S n) (B : st_b S n) (hn : n < 512) (r c : Int32) : Ct g yXM_get cXM_get 3 (some .int) 5 [.ref b, .int r, .int c] M (pi_ (fun w M' => w = an_get S r c ∧ mp_k (ra_P b A) M M' ∧ rp g M' b A S (n + 1))) 0 0 := by
  refine ct_intro (L0 := [some (.ref b), some (.int r), some (.int c)]) (by decide) (Nat.le_of_ble_eq_true rfl) rfl rfl (fun x C Rx I => ?_)
  obtain ⟨h1, h2, h3, h4, h5, h6, h7, h8, h9, h10, h11, h12, h13, h14, h15⟩ := id B
  obtain ⟨ml, el, ow, mk, marks, f, hra, hl0, ht, hnn, hl1, R, hb1, hb2⟩ := id h
  first | refine v_aload_n C 1 dXM_get_0 rfl rfl ?_ | refine v_aload_nN C 1 dXM_get_0 rfl rfl ?_ | refine v_aload_nQ C 1 dXM_get_0 rfl rfl ?_
  refine v_iload_n C 2 dXM_get_1 rfl rfl ?_
  refine v_iload_n C 3 dXM_get_2 rfl rfl ?_
  refine v_ri 6 (cl_XM_110 C ((c_M_seen g hra hl0 ht R (by omega) (by omega) (by omega) h2 h4 (by omega) r c)) hra.1 dXM_get_3 rfl rfl (Nat.le_of_ble_eq_true rfl) (Nat.le_of_ble_eq_true rfl) (Nat.le_of_ble_eq_true rfl) (by omega) (by omega)) rfl (fun v M1 hv => ?_)
  obtain ⟨f6, rfl, rfl, h6e⟩ := hv
  have hr2 : rp g (mp_u M (A 6) (ar_i (gx_I g) 7 f6)) b A S (n + 1) := rw.mono (rw_seen h f6) (by omega) (by omega)
  have hk2 : mp_k (ra_P b A) M (mp_u M (A 6) (ar_i (gx_I g) 7 f6)) := ra_ku (by decide)
  have h' := ra_up hra 6 (by decide) f6
  cases hz : st_v S r c with
  | none =>
    refine v_if_eq C 9 18 dXM_get_6 rfl rfl (fun h9 => ?_) (fun h9 => False.elim (by first | exact h9 (rfl) | exact absurd h9 (rfl)))
    refine v_iconst C 19 dXM_get_18 rfl (nI 0) (by decide) ?_
    refine v_iret C Rx dXM_get_19 (by omega) (by omega) ⟨_, rfl, by unfold an_get; rw [hz]; rfl, hk2, hr2⟩
  | some e =>
    refine v_if_eq C 9 18 dXM_get_6 rfl rfl (fun h9 => False.elim (by first | exact h9 ((fun z => absurd (bI_0.mp z) (by simp))) | exact absurd h9 ((fun z => absurd (bI_0.mp z) (by simp))))) (fun h9 => ?_)
    first | refine v_aload_n C 10 dXM_get_9 rfl rfl ?_ | refine v_aload_nN C 10 dXM_get_9 rfl rfl ?_ | refine v_aload_nQ C 10 dXM_get_9 rfl rfl ?_
    refine gt_XM_28 C 13 dXM_get_10 rfl h'.1 rfl ?_
    refine v_iconst C 14 dXM_get_13 rfl (nI 5) (by decide) ?_
    refine v_iald C 15 dXM_get_14 rfl mp_us 5 rfl (by decide) (by decide) ?_
    rw [show f6 5 = en_v e from (h6e e hz).2.2.2.2.2.1]
    refine v_goto C 19 dXM_get_15 rfl ?_
    refine v_iret C Rx dXM_get_19 (by omega) (by omega) ⟨_, rfl, by unfold an_get; rw [hz], hk2, hr2⟩
set_option maxHeartbeats 4000000 in
set_option maxRecDepth 100000 in
theorem c_M_stamp (g : gx_T) {M : mp_M} {b : Nat} {A : Nat → Nat} {S : st_S} {n : Nat} (h : rp g M b A S n) (B : st_b S n) (hn : n < 512) (r c : Int32) : Ct g yXM_stamp cXM_stamp 3 (some .int) 5 [.ref b, .int r, .int c] M (pi_ (fun w M' => w = an_stm S r c ∧ mp_k (ra_P b A) M M' ∧ rp g M' b A S (n + 1))) 0 0 := by
  refine ct_intro (L0 := [some (.ref b), some (.int r), some (.int c)]) (by decide) (Nat.le_of_ble_eq_true rfl) rfl rfl (fun x C Rx I => ?_)
  obtain ⟨h1, h2, h3, h4, h5, h6, h7, h8, h9, h10, h11, h12, h13, h14, h15⟩ := id B
  obtain ⟨ml, el, ow, mk, marks, f, hra, hl0, ht, hnn, hl1, R, hb1, hb2⟩ := id h
  first | refine v_aload_n C 1 dXM_stamp_0 rfl rfl ?_ | refine v_aload_nN C 1 dXM_stamp_0 rfl rfl ?_ | refine v_aload_nQ C 1 dXM_stamp_0 rfl rfl ?_
  refine v_iload_n C 2 dXM_stamp_1 rfl rfl ?_
  refine v_iload_n C 3 dXM_stamp_2 rfl rfl ?_
  refine v_ri 6 (cl_XM_110 C ((c_M_seen g hra hl0 ht R (by omega) (by omega) (by omega) h2 h4 (by omega) r c)) hra.1 dXM_stamp_3 rfl rfl (Nat.le_of_ble_eq_true rfl) (Nat.le_of_ble_eq_true rfl) (Nat.le_of_ble_eq_true rfl) (by omega) (by omega)) rfl (fun v M1 hv => ?_)
  obtain ⟨f6, rfl, rfl, h6e⟩ := hv
  have hr2 : rp g (mp_u M (A 6) (ar_i (gx_I g) 7 f6)) b A S (n + 1) := rw.mono (rw_seen h f6) (by omega) (by omega)
  have hk2 : mp_k (ra_P b A) M (mp_u M (A 6) (ar_i (gx_I g) 7 f6)) := ra_ku (by decide)
  have h' := ra_up hra 6 (by decide) f6
  cases hz : st_v S r c with
  | none =>
    refine v_if_eq C 9 18 dXM_stamp_6 rfl rfl (fun h9 => ?_) (fun h9 => False.elim (by first | exact h9 (rfl) | exact absurd h9 (rfl)))
    refine v_iconst C 19 dXM_stamp_18 rfl (-1) (by decide) ?_
    refine v_iret C Rx dXM_stamp_19 (by omega) (by omega) ⟨_, rfl, by unfold an_stm; rw [hz], hk2, hr2⟩
  | some e =>
    refine v_if_eq C 9 18 dXM_stamp_6 rfl rfl (fun h9 => False.elim (by first | exact h9 ((fun z => absurd (bI_0.mp z) (by simp))) | exact absurd h9 ((fun z => absurd (bI_0.mp z) (by simp))))) (fun h9 => ?_)
    first | refine v_aload_n C 10 dXM_stamp_9 rfl rfl ?_ | refine v_aload_nN C 10 dXM_stamp_9 rfl rfl ?_ | refine v_aload_nQ C 10 dXM_stamp_9 rfl rfl ?_
    refine gt_XM_28 C 13 dXM_stamp_10 rfl h'.1 rfl ?_
    refine v_iconst C 14 dXM_stamp_13 rfl (nI 4) (by decide) ?_
    refine v_iald C 15 dXM_stamp_14 rfl mp_us 4 rfl (by decide) (by decide) ?_
    rw [show f6 4 = nI (en_p e) from (h6e e hz).2.2.2.2.1]
    refine v_goto C 19 dXM_stamp_15 rfl ?_
    refine v_iret C Rx dXM_stamp_19 (by omega) (by omega) ⟨_, rfl, by unfold an_stm; rw [hz], hk2, hr2⟩
set_option maxHeartbeats 4000000 in
set_option maxRecDepth 100000 in
theorem c_M_next (g : gx_T) {M : mp_M} {b : Nat} {A : Nat → Nat} {S : st_S} {n1 n2 : Nat} (h : rw g M b A S n1 n2) (hn1 : n1 ≤ 520) (hn2 : n2 < 1000000) (hmc : tb_n (st_mem S) < 24) (hok : tb_ok (st_mem S)) (hoks : ∀ k, k < (st_runs S).length → tb_ok (st_tb (st_runs S) k)) (hnow : st_now S ≤ 100000) (r c : Int32) : Ct g yXM_next cXM_next 4 (some .int) 5 [.ref b, .int r, .int c] M (pi_ (fun w M' => w = an_next S r c ∧ mp_k (ra_P b A) M M' ∧ rw g M' b A S n1 n2)) 0 0 := by
  refine ct_intro (L0 := [some (.ref b), some (.int r), some (.int c), none]) (by decide) (Nat.le_of_ble_eq_true rfl) rfl rfl (fun x C Rx I => ?_)
  have k7 : (nI 7).toInt = 7 := by decide
  have loop : ∀ (m j : Nat) (M' : mp_M), m = 8 - j → j < 2 ^ 31 → an_next S r c = an_nx S r m j → mp_k (ra_P b A) M M' → rw g M' b A S n1 n2 → VV g x M' 0 0 10 [some (.ref b), some (.int r), some (.int c), some (.int (nI j))] [] := by
    intro m
    induction m with
    | zero =>
      intro j M' hm hj ha hk hr
      refine v_iload_n C 11 dXM_next_10 rfl rfl ?_
      refine v_bipush C 13 dXM_next_11 rfl (nI 7) (by decide) ?_
      refine v_icmp_gt C 16 33 dXM_next_13 rfl rfl (fun h9 => ?_) (fun h9 => False.elim (by first | exact h9 (nI_lt (show 7 < j by omega) hj) | exact absurd h9 (nI_lt (show 7 < j by omega) hj)))
      refine v_iconst C 34 dXM_next_33 rfl (-1) (by decide) ?_
      refine v_iret C Rx dXM_next_34 (by omega) (by omega) ⟨_, rfl, ha.symm, hk, hr⟩
    | succ m ih =>
      intro j M' hm hj ha hk hr
      obtain ⟨ml, el, ow, mk, marks, f, hra, hl0, ht, hnn, hl1, R, hb1, hb2⟩ := id hr
      refine v_iload_n C 11 dXM_next_10 rfl rfl ?_
      refine v_bipush C 13 dXM_next_11 rfl (nI 7) (by decide) ?_
      refine v_icmp_gt C 16 33 dXM_next_13 rfl rfl (fun h9 => False.elim (by first | exact h9 (nI_nlt (show j ≤ 7 by omega) (by decide)) | exact absurd h9 (nI_nlt (show j ≤ 7 by omega) (by decide)))) (fun h9 => ?_)
      first | refine v_aload_n C 17 dXM_next_16 rfl rfl ?_ | refine v_aload_nN C 17 dXM_next_16 rfl rfl ?_ | refine v_aload_nQ C 17 dXM_next_16 rfl rfl ?_
      refine v_iload_n C 18 dXM_next_17 rfl rfl ?_
      refine v_iload_n C 19 dXM_next_18 rfl rfl ?_
      refine v_ri 22 (cl_XM_110 C ((c_M_seen g hra hl0 ht R (by omega) (by omega) (by omega) hok hoks hnow r (nI j))) hra.1 dXM_next_19 rfl rfl (Nat.le_of_ble_eq_true rfl) (Nat.le_of_ble_eq_true rfl) (Nat.le_of_ble_eq_true rfl) (by omega) (by omega)) rfl (fun v M1 hv => ?_)
      obtain ⟨f6, rfl, rfl, h6e⟩ := hv
      have hr2 := rw_seen hr f6
      have hk2 : mp_k (ra_P b A) M (mp_u M' (A 6) (ar_i (gx_I g) 7 f6)) := hk.tr (ra_ku (by decide))
      refine v_if_eq C 25 27 dXM_next_22 rfl rfl (fun q1 => ?_) (fun q1 => ?_)
      · rw [bI_0] at q1
        refine v_iinc C 30 _ (nI (j + 1)) dXM_next_27 rfl rfl (nI_1 j) rfl ?_
        refine v_goto C 10 dXM_next_30 rfl ?_
        refine ih (j + 1) _ (by omega) (by omega) ?_ hk2 hr2
        rw [ha, an_nx, if_neg (by rw [q1]; decide)]
      · refine v_iload_n C 26 dXM_next_25 rfl rfl ?_
        have q2 : (st_v S r (nI j)).isSome = true := by
          cases hz : (st_v S r (nI j)).isSome with
          | true => rfl
          | false => exact absurd (bI_0.mpr hz) q1
        refine v_iret C Rx dXM_next_26 (by omega) (by omega) ⟨_, rfl, ?_, hk2, hr2⟩
        rw [ha, an_nx, if_pos q2]
  have start : ∀ v : Int32, v = nI c.toInt.toNat → VV g x M 0 0 9 [some (.ref b), some (.int r), some (.int c), none] [.int v] := by
    intro v hv
    subst hv
    refine v_istore_n C 10 _ dXM_next_9 rfl (Nat.lt_of_lt_of_le (Nat.lt_succ_self _) (Nat.le_of_ble_eq_true rfl)) rfl ?_
    refine loop (8 - c.toInt.toNat) c.toInt.toNat M rfl ?_ rfl mp_k.rf h
    have := Int32.toInt_lt c
    omega
  refine v_iload_n C 1 dXM_next_0 rfl rfl ?_
  refine v_if_ge C 4 8 dXM_next_1 rfl rfl (fun q0 => ?_) (fun q0 => ?_)
  · refine v_iload_n C 9 dXM_next_8 rfl rfl ?_
    refine start _ ?_
    obtain ⟨j, hj, rfl⟩ := nI_of (x := c) (Int32.not_lt.mpr q0)
    rw [nI_tn hj]
  · refine v_iconst C 5 dXM_next_4 rfl (nI 0) (by decide) ?_
    refine v_goto C 9 dXM_next_5 rfl ?_
    refine start _ ?_
    have := Int32.not_le.mp q0
    rw [Int32.lt_iff_toInt_lt, i0] at this
    rw [show c.toInt.toNat = 0 by omega]
set_option maxHeartbeats 4000000 in
set_option maxRecDepth 100000 in
theorem c_M_nextRow (g : gx_T) {M : mp_M} {b : Nat} {A : Nat → Nat} {S : st_S} {n : Nat} (h : rp g M b A S n) (B : st_b S n) (hn : n < 512) (r : Int32) : Ct g yXM_nextRow cXM_nextRow 3 (some .int) 6 [.ref b, .int r] M (pi_ (fun w M' => w = an_nrow S r ∧ mp_k (ra_P b A) M M' ∧ rp g M' b A S (n + 1))) 0 0 := by
  refine ct_intro (L0 := [some (.ref b), some (.int r), none]) (by decide) (Nat.le_of_ble_eq_true rfl) rfl rfl (fun x C Rx I => ?_)
  obtain ⟨h1, h2, h3, h4, h5, h6, h7, h8, h9, h10, h11, h12, h13, h14, h15⟩ := id B
  have loop : ∀ (m i : Nat) (M' : mp_M), m = 16 - i → i < 2 ^ 31 → an_nrow S r = an_nw S m i → mp_k (ra_P b A) M M' → rw g M' b A S n (600 * n) → VV g x M' 0 0 10 [some (.ref b), some (.int r), some (.int (nI i))] [] := by
    intro m
    induction m with
    | zero =>
      intro i M' hm hi ha hk hr
      refine v_iload_n C 11 dXM_nextRow_10 rfl rfl ?_
      refine v_bipush C 13 dXM_nextRow_11 rfl (nI 15) (by decide) ?_
      refine v_icmp_gt C 16 33 dXM_nextRow_13 rfl rfl (fun h9 => ?_) (fun h9 => False.elim (by first | exact h9 (nI_lt (show 15 < i by omega) hi) | exact absurd h9 (nI_lt (show 15 < i by omega) hi)))
      refine v_iconst C 34 dXM_nextRow_33 rfl (-1) (by decide) ?_
      refine v_iret C Rx dXM_nextRow_34 (by omega) (by omega) ⟨_, rfl, ha.symm, hk, hr.mono (by omega) (by omega)⟩
    | succ m ih =>
      intro i M' hm hi ha hk hr
      obtain ⟨ml, el, ow, mk, marks, f, hra, -⟩ := id hr
      refine v_iload_n C 11 dXM_nextRow_10 rfl rfl ?_
      refine v_bipush C 13 dXM_nextRow_11 rfl (nI 15) (by decide) ?_
      refine v_icmp_gt C 16 33 dXM_nextRow_13 rfl rfl (fun h9 => False.elim (by first | exact h9 (nI_nlt (show i ≤ 15 by omega) (by decide)) | exact absurd h9 (nI_nlt (show i ≤ 15 by omega) (by decide)))) (fun h9 => ?_)
      first | refine v_aload_n C 17 dXM_nextRow_16 rfl rfl ?_ | refine v_aload_nN C 17 dXM_nextRow_16 rfl rfl ?_ | refine v_aload_nQ C 17 dXM_nextRow_16 rfl rfl ?_
      refine v_iload_n C 18 dXM_nextRow_17 rfl rfl ?_
      refine v_iconst C 19 dXM_nextRow_18 rfl (nI 0) (by decide) ?_
      refine v_ri 22 (cl_XM_113 C ((c_M_next g hr (by omega) (by omega) (by omega) h2 h4 (by omega) (nI i) (nI 0))) hra.1 dXM_nextRow_19 rfl rfl (Nat.le_of_ble_eq_true rfl) (Nat.le_of_ble_eq_true rfl) (Nat.le_of_ble_eq_true rfl) (by omega) (by omega)) rfl (fun v M1 hv => ?_)
      obtain ⟨rfl, hk2, hr2⟩ := hv
      refine v_if_lt C 25 27 dXM_nextRow_22 rfl rfl (fun q1 => ?_) (fun q1 => ?_)
      · refine v_iinc C 30 _ (nI (i + 1)) dXM_nextRow_27 rfl rfl (nI_1 i) rfl ?_
        refine v_goto C 10 dXM_nextRow_30 rfl ?_
        refine ih (i + 1) _ (by omega) (by omega) ?_ (hk.tr hk2) hr2
        rw [ha, an_nw, if_pos ((an_next_neg _ _ _).mp q1)]
      · refine v_iload_n C 26 dXM_nextRow_25 rfl rfl ?_
        refine v_iret C Rx dXM_nextRow_26 (by omega) (by omega) ⟨_, rfl, ?_, hk.tr hk2, hr2.mono (by omega) (by omega)⟩
        rw [ha, an_nw, if_neg (fun z => q1 ((an_next_neg _ _ _).mpr z))]
  have start : ∀ v : Int32, v = nI r.toInt.toNat → VV g x M 0 0 9 [some (.ref b), some (.int r), none] [.int v] := by
    intro v hv
    subst hv
    refine v_istore_n C 10 _ dXM_nextRow_9 rfl (Nat.lt_of_lt_of_le (Nat.lt_succ_self _) (Nat.le_of_ble_eq_true rfl)) rfl ?_
    refine loop (16 - r.toInt.toNat) r.toInt.toNat M rfl ?_ rfl mp_k.rf h
    have := Int32.toInt_lt r
    omega
  refine v_iload_n C 1 dXM_nextRow_0 rfl rfl ?_
  refine v_if_ge C 4 8 dXM_nextRow_1 rfl rfl (fun q0 => ?_) (fun q0 => ?_)
  · refine v_iload_n C 9 dXM_nextRow_8 rfl rfl ?_
    refine start _ ?_
    obtain ⟨j, hj, rfl⟩ := nI_of (x := r) (Int32.not_lt.mpr q0)
    rw [nI_tn hj]
  · refine v_iconst C 5 dXM_nextRow_4 rfl (nI 0) (by decide) ?_
    refine v_goto C 9 dXM_nextRow_5 rfl ?_
    refine start _ ?_
    have := Int32.not_le.mp q0
    rw [Int32.lt_iff_toInt_lt, i0] at this
    rw [show r.toInt.toNat = 0 by omega]
def sx_syn (S : st_S) : st_S := (st_cap S, st_gr S, st_now S, st_mem S, st_log S, (st_log S).length, st_runs S)
def nw_t (now : Nat) (n : Int32) : Nat := if 0 ≤ n.toInt ∧ n.toInt ≤ 100 then now + n.toInt.toNat else now
def sx_tic (S : st_S) (n : Int32) : st_S := (st_cap S, st_gr S, nw_t (st_now S) n, st_mem S, st_log S, st_safe S, st_runs S)
def an_cnt (S : st_S) (w : Int32) : Int32 := if w = 0 then nI (tb_n (st_mem S)) else if w = 1 then nI (st_runs S).length else if w = 2 then nI (st_log S).length else if w = 3 then nI (st_safe S) else -1
set_option maxHeartbeats 4000000 in
set_option maxRecDepth 100000 in
theorem c_M_sync (g : gx_T) {M : mp_M} {b : Nat} {A : Nat → Nat} {S : st_S} {n : Nat} (h : rp g M b A S n) : Ct g yXM_sync cXM_sync 1 (some .int) 1 [.ref b] M (pi_ (fun w M' => w = nI (st_log S).length ∧ mp_k (ra_P b A) M M' ∧ rp g M' b A (sx_syn S) (n + 1))) 0 0 := by
  refine ct_intro (L0 := [some (.ref b)]) (by decide) (Nat.le_of_ble_eq_true rfl) rfl rfl (fun x C Rx I => ?_)
  obtain ⟨ml, el, ow, mk, marks, f, hra, q2, q3, q4, q5, q6, q7, q8⟩ := h
  first | refine v_aload_n C 1 dXM_sync_0 rfl rfl ?_ | refine v_aload_nN C 1 dXM_sync_0 rfl rfl ?_ | refine v_aload_nQ C 1 dXM_sync_0 rfl rfl ?_
  first | refine v_aload_n C 2 dXM_sync_1 rfl rfl ?_ | refine v_aload_nN C 2 dXM_sync_1 rfl rfl ?_ | refine v_aload_nQ C 2 dXM_sync_1 rfl rfl ?_
  refine gt_XM_56 C 5 dXM_sync_2 rfl hra.1 rfl ?_
  refine pt_XM_91 C 8 dXM_sync_5 rfl rfl rfl hra.1 (Nat.lt_of_lt_of_le (Nat.lt_succ_self _) (Nat.le_of_ble_eq_true rfl)) (ob_M A (st_cap S) (st_gr S) (st_now S) ml.length (st_log S).length (st_log S).length el.length (st_runs S).length marks) rfl ?_
  have h2 := ra_put hra (now' := st_now S) (mem' := ml.length) (logs' := (st_log S).length) (safe' := (st_log S).length) (fl' := el.length) (runs' := (st_runs S).length) (marks' := marks)
  first | refine v_aload_n C 9 dXM_sync_8 rfl rfl ?_ | refine v_aload_nN C 9 dXM_sync_8 rfl rfl ?_ | refine v_aload_nQ C 9 dXM_sync_8 rfl rfl ?_
  refine gt_XM_56 C 12 dXM_sync_9 rfl h2.1 rfl ?_
  refine v_iret C Rx dXM_sync_12 (by omega) (by omega) ⟨_, rfl, rfl, ra_kb, ml, el, ow, mk, marks, f, h2, q2, q3, q4, q5, q6, Nat.le_succ_of_le q7, by omega⟩
set_option maxHeartbeats 4000000 in
set_option maxRecDepth 100000 in
theorem c_M_tick (g : gx_T) {M : mp_M} {b : Nat} {A : Nat → Nat} {S : st_S} {n : Nat} (h : rp g M b A S n) (t : Int32) : Ct g yXM_tick cXM_tick 2 (some .int) 1 [.ref b, .int t] M (pi_ (fun w M' => w = nI (nw_t (st_now S) t) ∧ mp_k (ra_P b A) M M' ∧ rp g M' b A (sx_tic S t) (n + 1))) 0 0 := by
  refine ct_intro (L0 := [some (.ref b), some (.int t)]) (by decide) (Nat.le_of_ble_eq_true rfl) rfl rfl (fun x C Rx I => ?_)
  obtain ⟨ml, el, ow, mk, marks, f, hra, q2, q3, q4, q5, q6, q7, q8⟩ := h
  have k100 : (nI 100).toInt = 100 := by decide
  have st : ∀ v : Int32, v = nI (nw_t (st_now S) t) → VV g x M 0 0 24 [some (.ref b), some (.int t)] [.int v, .ref b] := by
    intro v hv
    subst hv
    refine pt_XM_75 C 27 dXM_tick_24 rfl rfl rfl hra.1 (Nat.lt_of_lt_of_le (Nat.lt_succ_self _) (Nat.le_of_ble_eq_true rfl)) (ob_M A (st_cap S) (st_gr S) (nw_t (st_now S) t) ml.length (st_log S).length (st_safe S) el.length (st_runs S).length marks) rfl ?_
    have h2 := ra_put hra (now' := nw_t (st_now S) t) (mem' := ml.length) (logs' := (st_log S).length) (safe' := st_safe S) (fl' := el.length) (runs' := (st_runs S).length) (marks' := marks)
    first | refine v_aload_n C 28 dXM_tick_27 rfl rfl ?_ | refine v_aload_nN C 28 dXM_tick_27 rfl rfl ?_ | refine v_aload_nQ C 28 dXM_tick_27 rfl rfl ?_
    refine gt_XM_75 C 31 dXM_tick_28 rfl h2.1 rfl ?_
    refine v_iret C Rx dXM_tick_31 (by omega) (by omega) ⟨_, rfl, rfl, ra_kb, ml, el, ow, mk, marks, f, h2, q2, q3, q4, q5, q6, Nat.le_succ_of_le q7, by omega⟩
  have no : ¬ (0 ≤ t.toInt ∧ t.toInt ≤ 100) → VV g x M 0 0 20 [some (.ref b), some (.int t)] [.ref b] := by
    intro hz
    first | refine v_aload_n C 21 dXM_tick_20 rfl rfl ?_ | refine v_aload_nN C 21 dXM_tick_20 rfl rfl ?_ | refine v_aload_nQ C 21 dXM_tick_20 rfl rfl ?_
    refine gt_XM_75 C 24 dXM_tick_21 rfl hra.1 rfl ?_
    exact st _ (by unfold nw_t; rw [if_neg hz])
  first | refine v_aload_n C 1 dXM_tick_0 rfl rfl ?_ | refine v_aload_nN C 1 dXM_tick_0 rfl rfl ?_ | refine v_aload_nQ C 1 dXM_tick_0 rfl rfl ?_
  refine v_iload_n C 2 dXM_tick_1 rfl rfl ?_
  refine v_if_lt C 5 20 dXM_tick_2 rfl rfl (fun z1 => ?_) (fun z1 => ?_)
  · exact no (fun z => by rw [Int32.lt_iff_toInt_lt, i0] at z1; omega)
  · refine v_iload_n C 6 dXM_tick_5 rfl rfl ?_
    refine v_bipush C 8 dXM_tick_6 rfl (nI 100) (by decide) ?_
    refine v_icmp_gt C 11 20 dXM_tick_8 rfl rfl (fun z2 => ?_) (fun z2 => ?_)
    · exact no (fun z => by rw [Int32.lt_iff_toInt_lt, k100] at z2; omega)
    · first | refine v_aload_n C 12 dXM_tick_11 rfl rfl ?_ | refine v_aload_nN C 12 dXM_tick_11 rfl rfl ?_ | refine v_aload_nQ C 12 dXM_tick_11 rfl rfl ?_
      refine gt_XM_75 C 15 dXM_tick_12 rfl hra.1 rfl ?_
      refine v_iload_n C 16 dXM_tick_15 rfl rfl ?_
      refine v_iadd C 17 dXM_tick_16 rfl ?_
      refine v_goto C 24 dXM_tick_17 rfl ?_
      rw [Int32.lt_iff_toInt_lt, i0] at z1
      rw [Int32.lt_iff_toInt_lt, k100] at z2
      obtain ⟨j, hj, rfl⟩ := nI_of (x := t) (by rw [Int32.lt_iff_toInt_lt, i0]; omega)
      refine st _ ?_
      unfold nw_t
      rw [if_pos ⟨by omega, by omega⟩, nI_tn hj, nI_add]
set_option maxHeartbeats 4000000 in
set_option maxRecDepth 100000 in
theorem c_M_count (g : gx_T) {M : mp_M} {b : Nat} {A : Nat → Nat} {S : st_S} {n1 n2 : Nat} (h : rw g M b A S n1 n2) (w : Int32) : Ct g yXM_count cXM_count 2 (some .int) 1 [.ref b, .int w] M (pi_ (fun v M' => M = M' ∧ v = an_cnt S w)) 0 0 := by
  refine ct_intro (L0 := [some (.ref b), some (.int w)]) (by decide) (Nat.le_of_ble_eq_true rfl) rfl rfl (fun x C Rx I => ?_)
  obtain ⟨ml, el, ow, mk, marks, f, hra, q2, q3, q4, -⟩ := h
  refine v_iload_n C 1 dXM_count_0 rfl rfl ?_
  refine v_if_ne C 4 11 dXM_count_1 rfl rfl (fun z1 => ?_) (fun z1 => ?_)
  · refine v_iload_n C 12 dXM_count_11 rfl rfl ?_
    refine v_iconst C 13 dXM_count_12 rfl (nI 1) (by decide) ?_
    have e1 : an_cnt S w = (if w = 1 then nI (st_runs S).length else if w = 2 then nI (st_log S).length else if w = 3 then nI (st_safe S) else -1) := if_neg z1
    refine v_icmp_ne C 16 23 dXM_count_13 rfl rfl (fun z2 => ?_) (fun z2 => ?_)
    · refine v_iload_n C 24 dXM_count_23 rfl rfl ?_
      refine v_iconst C 25 dXM_count_24 rfl (nI 2) (by decide) ?_
      have e2 : an_cnt S w = (if w = 2 then nI (st_log S).length else if w = 3 then nI (st_safe S) else -1) := e1.trans (if_neg z2)
      refine v_icmp_ne C 28 35 dXM_count_25 rfl rfl (fun z3 => ?_) (fun z3 => ?_)
      · refine v_iload_n C 36 dXM_count_35 rfl rfl ?_
        refine v_iconst C 37 dXM_count_36 rfl (nI 3) (by decide) ?_
        have e3 : an_cnt S w = (if w = 3 then nI (st_safe S) else -1) := e2.trans (if_neg z3)
        refine v_icmp_ne C 40 47 dXM_count_37 rfl rfl (fun z4 => ?_) (fun z4 => ?_)
        · refine v_iconst C 48 dXM_count_47 rfl (-1) (by decide) ?_
          refine v_iret C Rx dXM_count_48 (by omega) (by omega) ⟨_, rfl, rfl, (e3.trans (if_neg z4)).symm⟩
        · first | refine v_aload_n C 41 dXM_count_40 rfl rfl ?_ | refine v_aload_nN C 41 dXM_count_40 rfl rfl ?_ | refine v_aload_nQ C 41 dXM_count_40 rfl rfl ?_
          refine gt_XM_91 C 44 dXM_count_41 rfl hra.1 rfl ?_
          refine v_goto C 48 dXM_count_44 rfl ?_
          refine v_iret C Rx dXM_count_48 (by omega) (by omega) ⟨_, rfl, rfl, (e3.trans (if_pos z4)).symm⟩
      · first | refine v_aload_n C 29 dXM_count_28 rfl rfl ?_ | refine v_aload_nN C 29 dXM_count_28 rfl rfl ?_ | refine v_aload_nQ C 29 dXM_count_28 rfl rfl ?_
        refine gt_XM_56 C 32 dXM_count_29 rfl hra.1 rfl ?_
        refine v_goto C 48 dXM_count_32 rfl ?_
        refine v_iret C Rx dXM_count_48 (by omega) (by omega) ⟨_, rfl, rfl, (e2.trans (if_pos z3)).symm⟩
    · first | refine v_aload_n C 17 dXM_count_16 rfl rfl ?_ | refine v_aload_nN C 17 dXM_count_16 rfl rfl ?_ | refine v_aload_nQ C 17 dXM_count_16 rfl rfl ?_
      refine gt_XM_88 C 20 dXM_count_17 rfl hra.1 rfl ?_
      refine v_goto C 48 dXM_count_20 rfl ?_
      refine v_iret C Rx dXM_count_48 (by omega) (by omega) ⟨_, rfl, rfl, (e1.trans (if_pos z2)).symm⟩
  · first | refine v_aload_n C 5 dXM_count_4 rfl rfl ?_ | refine v_aload_nN C 5 dXM_count_4 rfl rfl ?_ | refine v_aload_nQ C 5 dXM_count_4 rfl rfl ?_
    refine gt_XM_42 C 8 dXM_count_5 rfl hra.1 rfl ?_
    refine v_goto C 48 dXM_count_8 rfl ?_
    refine v_iret C Rx dXM_count_48 (by omega) (by omega) ⟨_, rfl, rfl, by rw [q4]; exact (if_pos z1).symm⟩
set_option maxHeartbeats 4000000 in
set_option maxRecDepth 100000 in
theorem c_M_crash (g : gx_T) {M : mp_M} {b : Nat} {A : Nat → Nat} {S : st_S} {n : Nat} (h : rp g M b A S n) (B : st_b S n) (hn : n < 512) : Ct g yXM_crash cXM_crash 2 (some .int) 4 [.ref b] M (pi_ (fun w M' => w = nI (st_safe S) ∧ mp_k (ra_P b A) M M' ∧ rp g M' b A (st_cr S) (n + 1))) 0 0 := by
  refine ct_intro (L0 := [some (.ref b), none]) (by decide) (Nat.le_of_ble_eq_true rfl) rfl rfl (fun x C Rx I => ?_)
  obtain ⟨h1, h2, h3, h4, h5, h6, h7, h8, h9, h10, h11, h12, h13, h14, h15⟩ := id B
  obtain ⟨ml, el, ow, mk, marks, f, hra, hl0, ht, hnn, hl1, R, hb1, hb2⟩ := id h
  have mono : ∀ k, k ≤ (st_log S).length → tb_n (((st_log S).take k).foldl tb_a tb_0) ≤ st_cap S := by
    intro k hk
    have := (fold_n ((st_log S).drop k) (((st_log S).take k).foldl tb_a tb_0) (fun e he => h3 e (List.mem_of_mem_drop he))).1
    rw [← List.foldl_append, List.take_append_drop, ← h12] at this
    omega
  have okt : ∀ k e, e ∈ (st_log S).take k → en_ok e := fun k e he => h3 e (List.mem_of_mem_take he)
  have loop : ∀ (m k : Nat) (M' : mp_M) (ml' : List en_E) (f0 : Nat → Int32), k + m = st_safe S → mp_k (ra_P b A) M M' → ra_M g M' b A (st_cap S) (st_gr S) (st_now S) ml'.length (st_safe S) (st_safe S) el.length (st_runs S).length marks (va_up f 0 f0) → lw f0 ml' → tr ml' (fun _ => True) (((st_log S).take k).foldl tb_a tb_0) → ml'.length = tb_n (((st_log S).take k).foldl tb_a tb_0) → VV g x M' 0 0 15 [some (.ref b), some (.int (nI k))] [] := by
    intro m
    induction m with
    | zero =>
      intro k M' ml' f0 hk hkk hr' p1 p2 p3
      have hks : k = st_safe S := by omega
      subst hks
      refine v_iload_n C 16 dXM_crash_15 rfl rfl ?_
      first | refine v_aload_n C 17 dXM_crash_16 rfl rfl ?_ | refine v_aload_nN C 17 dXM_crash_16 rfl rfl ?_ | refine v_aload_nQ C 17 dXM_crash_16 rfl rfl ?_
      refine gt_XM_56 C 20 dXM_crash_17 rfl hr'.1 rfl ?_
      refine v_icmp_ge C 23 37 dXM_crash_20 rfl rfl (fun h9 => ?_) (fun h9 => False.elim (by first | exact h9 (nI_le (Nat.le_refl (st_safe S)) (by omega)) | exact absurd h9 (nI_le (Nat.le_refl (st_safe S)) (by omega))))
      first | refine v_aload_n C 38 dXM_crash_37 rfl rfl ?_ | refine v_aload_nN C 38 dXM_crash_37 rfl rfl ?_ | refine v_aload_nQ C 38 dXM_crash_37 rfl rfl ?_
      refine gt_XM_56 C 41 dXM_crash_38 rfl hr'.1 rfl ?_
      have hlen : ((st_log S).take (st_safe S)).length = st_safe S := by rw [List.length_take, Nat.min_eq_left h5]
      refine v_iret C Rx dXM_crash_41 (by omega) (by omega) ⟨_, rfl, rfl, hkk, ml', el, ow, mk, marks, va_up f 0 f0, ?_, p1, p2, p3, ?_, R, ?_, by omega⟩
      · show ra_M g M' b A (st_cap S) (st_gr S) (st_now S) ml'.length ((st_log S).take (st_safe S)).length (st_safe S) el.length (st_runs S).length marks _
        rw [hlen]
        exact hr'
      · intro i e he
        exact hl1 i e (by
          have : i < st_safe S := by have := (List.getElem?_eq_some_iff.mp he).1; rw [show (st_log (st_cr S)).length = ((st_log S).take (st_safe S)).length from rfl, hlen] at this; exact this
          have he2 : ((st_log S).take (st_safe S))[i]? = some e := he
          rw [List.getElem?_take, if_pos this] at he2
          exact he2)
      · show el.length + ((st_log S).take (st_safe S)).length ≤ n + 1
        rw [hlen]
        omega
    | succ m ih =>
      intro k M' ml' f0 hk hkk hr' p1 p2 p3
      obtain ⟨e, he⟩ : ∃ e, (st_log S)[k]? = some e := ⟨_, List.getElem?_eq_getElem (show k < (st_log S).length by omega)⟩
      obtain ⟨hwe, ok⟩ := hl1 k e he
      have hm := mono k (by omega)
      refine v_iload_n C 16 dXM_crash_15 rfl rfl ?_
      first | refine v_aload_n C 17 dXM_crash_16 rfl rfl ?_ | refine v_aload_nN C 17 dXM_crash_16 rfl rfl ?_ | refine v_aload_nQ C 17 dXM_crash_16 rfl rfl ?_
      refine gt_XM_56 C 20 dXM_crash_17 rfl hr'.1 rfl ?_
      refine v_icmp_ge C 23 37 dXM_crash_20 rfl rfl (fun h9 => False.elim (by first | exact h9 (nI_ge (show k < st_safe S by omega) (by omega)) | exact absurd h9 (nI_ge (show k < st_safe S by omega) (by omega)))) (fun h9 => ?_)
      first | refine v_aload_n C 24 dXM_crash_23 rfl rfl ?_ | refine v_aload_nN C 24 dXM_crash_23 rfl rfl ?_ | refine v_aload_nQ C 24 dXM_crash_23 rfl rfl ?_
      refine v_bipush C 26 dXM_crash_24 rfl (nI 7) (by decide) ?_
      refine v_iload_n C 27 dXM_crash_26 rfl rfl ?_
      refine v_imul C 28 dXM_crash_27 rfl ?_
      refine v_top _ (.int (nI (7 * k))) (congrArg Value.int (pk_mul 7 k)) ?_
      refine v_rv 31 (cl_XM_59 C ((c_M_remember g hr' (by rw [va_up_self]; exact p1) p2 (fold_ok _ _ tb_ok_0 (okt k)) p3 k (by omega) (by rw [va_up_ne _ _ (by decide)]; exact hwe) ok (by omega))) hr'.1 dXM_crash_28 rfl rfl (Nat.le_of_ble_eq_true rfl) (Nat.le_of_ble_eq_true rfl) (Nat.le_of_ble_eq_true rfl) (by omega) (by omega)) rfl (fun M2 hM2 => ?_)
      obtain ⟨ml2, f2, hk2, hr2, a1, a2, a3⟩ := hM2
      rw [bx_uu] at hr2
      have hfd : ((st_log S).take (k + 1)).foldl tb_a tb_0 = tb_a (((st_log S).take k).foldl tb_a tb_0) e := by
        rw [List.take_add_one, he, List.foldl_append]
        rfl
      refine v_iinc C 34 _ (nI (k + 1)) dXM_crash_31 rfl rfl (nI_1 k) rfl ?_
      refine v_goto C 15 dXM_crash_34 rfl ?_
      exact ih (k + 1) M2 ml2 f2 (by omega) (hkk.tr hk2) hr2 a1 (by rw [hfd]; exact a2) (by rw [hfd]; exact a3)
  first | refine v_aload_n C 1 dXM_crash_0 rfl rfl ?_ | refine v_aload_nN C 1 dXM_crash_0 rfl rfl ?_ | refine v_aload_nQ C 1 dXM_crash_0 rfl rfl ?_
  refine v_iconst C 2 dXM_crash_1 rfl (nI 0) (by decide) ?_
  refine pt_XM_42 C 5 dXM_crash_2 rfl rfl rfl hra.1 (Nat.lt_of_lt_of_le (Nat.lt_succ_self _) (Nat.le_of_ble_eq_true rfl)) (ob_M A (st_cap S) (st_gr S) (st_now S) 0 (st_log S).length (st_safe S) el.length (st_runs S).length marks) rfl ?_
  first | refine v_aload_n C 6 dXM_crash_5 rfl rfl ?_ | refine v_aload_nN C 6 dXM_crash_5 rfl rfl ?_ | refine v_aload_nQ C 6 dXM_crash_5 rfl rfl ?_
  first | refine v_aload_n C 7 dXM_crash_6 rfl rfl ?_ | refine v_aload_nN C 7 dXM_crash_6 rfl rfl ?_ | refine v_aload_nQ C 7 dXM_crash_6 rfl rfl ?_
  refine gt_XM_91 C 10 dXM_crash_7 rfl mp_us rfl ?_
  refine pt_XM_56 C 13 dXM_crash_10 rfl rfl rfl mp_us (Nat.lt_of_lt_of_le (Nat.lt_succ_self _) (Nat.le_of_ble_eq_true rfl)) (ob_M A (st_cap S) (st_gr S) (st_now S) 0 (st_safe S) (st_safe S) el.length (st_runs S).length marks) rfl ?_
  rw [mp_uu]
  have h2' := ra_put hra (now' := st_now S) (mem' := 0) (logs' := st_safe S) (safe' := st_safe S) (fl' := el.length) (runs' := (st_runs S).length) (marks' := marks)
  refine v_iconst C 14 dXM_crash_13 rfl (nI 0) (by decide) ?_
  refine v_istore_n C 15 _ dXM_crash_14 rfl (Nat.lt_of_lt_of_le (Nat.lt_succ_self _) (Nat.le_of_ble_eq_true rfl)) rfl ?_
  exact loop (st_safe S) 0 _ [] (f 0) (by omega) ra_kb (by rw [va_up_id]; exact h2') lw_nil tr_nil tb_n_0.symm

