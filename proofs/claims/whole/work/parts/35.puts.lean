set_option maxHeartbeats 8000000 in
set_option maxHeartbeats 4000000 in
set_option maxRecDepth 100000 in
theorem c_S_put (g : gx_T) {F : Nat → Prop} {M : mp_M} {a n : Nat} {S : st_S} (h : cw g F M a S) (B : st_b S n) (hn : n < 512) (hF : ∀ q, F q → M q ≠ none) (r c p v l : Int32) : Ct g yXS_put cXS_put 7 (some .boolean) 10 [.ref a, .int r, .int c, .int p, .int v, .int l] M (pi_ (fun w M' => w = bI (pl r c && (sp_ok p && li_ok l)) ∧ mp_k (fun q => ¬ F q) M M' ∧ cw g F M' a (sx_put S r c p v l))) (4 + 3 * mg S (sx_put S r c p v l)) (1713 + 1708 * mg S (sx_put S r c p v l)) := by
  refine ct_intro (L0 := [some (.ref a), some (.int r), some (.int c), some (.int p), some (.int v), some (.int l), none]) (by decide) (Nat.le_of_ble_eq_true rfl) rfl rfl (fun x C Rx I => ?_)
  obtain ⟨b1, b2, b3, b4, b5, b6, b7, b8, b9, b10, b11, b12, b13, b14, b15⟩ := id B
  obtain ⟨lg, rl, mm, ms, ps, lf, h1, h2, -⟩ := id h
  have no : (pl r c && (sp_ok p && li_ok l)) = false → VV g x M 0 0 27 [some (.ref a), some (.int r), some (.int c), some (.int p), some (.int v), some (.int l), none] [] := by
    intro hz
    refine v_iconst C 28 dXS_put_27 rfl (nI 0) (by decide) ?_
    refine v_zret C Rx dXS_put_28 (by omega) (by omega) (Or.inl rfl) ⟨_, rfl, (bI_f hz).symm, mp_k.rf, ?_⟩
    unfold sx_put
    rw [if_neg (by rw [hz]; decide)]
    exact h
  have k100 : (nI 100).toInt = 100 := by decide
  refine v_iload_n C 1 dXS_put_0 rfl rfl ?_
  refine v_iload_n C 2 dXS_put_1 rfl rfl ?_
  refine v_ri 5 (cl_XS_56 C ((c_S_isPlace g r c)) dXS_put_2 rfl rfl (Nat.le_of_ble_eq_true rfl) (Nat.le_of_ble_eq_true rfl) (Nat.le_of_ble_eq_true rfl) (by omega) (by omega)) rfl (fun w M2 hw => ?_)
  obtain ⟨rfl, rfl⟩ := hw
  refine v_if_eq C 8 27 dXS_put_5 rfl rfl (fun q0 => ?_) (fun q0 => ?_)
  · refine no ?_
    rw [bI_0.mp q0]
    rfl
  have q0' := bI_n0 q0
  refine v_iload_n C 9 dXS_put_8 rfl rfl ?_
  refine v_ri 12 (cl_XS_60 C ((c_S_isStamp g p)) dXS_put_9 rfl rfl (Nat.le_of_ble_eq_true rfl) (Nat.le_of_ble_eq_true rfl) (Nat.le_of_ble_eq_true rfl) (by omega) (by omega)) rfl (fun w M2 hw => ?_)
  obtain ⟨rfl, rfl⟩ := hw
  refine v_if_eq C 15 27 dXS_put_12 rfl rfl (fun q1 => ?_) (fun q1 => ?_)
  · refine no ?_
    rw [bI_0.mp q1, q0']
    rfl
  have q1' := bI_n0 q1
  have nol : ¬ (0 ≤ l.toInt ∧ l.toInt ≤ 100) → VV g x M 0 0 27 [some (.ref a), some (.int r), some (.int c), some (.int p), some (.int v), some (.int l), none] [] := by
    intro hz
    refine no ?_
    rw [show li_ok l = false from decide_eq_false hz]
    simp
  refine v_iload C 17 dXS_put_15 rfl rfl ?_
  refine v_if_lt C 20 27 dXS_put_17 rfl rfl (fun q2 => ?_) (fun q2 => ?_)
  · refine nol (fun z => ?_)
    rw [Int32.lt_iff_toInt_lt, i0] at q2
    omega
  refine v_iload C 22 dXS_put_20 rfl rfl ?_
  refine v_bipush C 24 dXS_put_22 rfl (nI 100) (by decide) ?_
  refine v_icmp_le C 27 29 dXS_put_24 rfl rfl (fun q3 => ?_) (fun q3 => ?_)
  rotate_left
  · refine nol (fun z => q3 ?_)
    rw [Int32.le_iff_toInt_le, k100]
    exact z.2
  have q2' : li_ok l = true := by
    rw [Int32.lt_iff_toInt_lt, i0] at q2
    rw [Int32.le_iff_toInt_le, k100] at q3
    exact decide_eq_true ⟨by omega, q3⟩
  obtain ⟨i, j, hi, hj, rfl, rfl⟩ := pl_of q0'
  obtain ⟨pp, hp, rfl⟩ := sp_of q1'
  obtain ⟨ll, hl, rfl⟩ := li_of q2'
  have hall : (pl (nI i) (nI j) && (sp_ok (nI pp) && li_ok (nI ll))) = true := by
    rw [q0', q1', q2']
    rfl
  have ok := ok_put (v := v) B hi hj hp hl
  have ee : e_put S (nI i) (nI j) (nI pp) v (nI ll) = (0, i, j, j, pp, v, if nI ll = 0 then 2147483647 else st_now S + ll) := by
    unfold e_put
    rw [nI_tn (by omega), nI_tn (by omega), nI_tn (by omega), nI_tn (by omega)]
  have es : sx_put S (nI i) (nI j) (nI pp) v (nI ll) = st_a S (0, i, j, j, pp, v, if nI ll = 0 then 2147483647 else st_now S + ll) := by
    unfold sx_put
    rw [if_pos hall, ee]
  rw [ee] at ok
  have hmg : mg S (sx_put S (nI i) (nI j) (nI pp) v (nI ll)) = mg S (st_a S (0, i, j, j, pp, v, if nI ll = 0 then 2147483647 else st_now S + ll)) := by rw [es]
  have fin : ∀ t : Nat, t = (if nI ll = 0 then 2147483647 else st_now S + ll) → VV g x M 0 0 46 [some (.ref a), some (.int (nI i)), some (.int (nI j)), some (.int (nI pp)), some (.int v), some (.int (nI ll)), none] [.int (nI t)] := by
    intro t ht
    rw [← ht] at ok es hmg
    refine v_istore C 48 _ dXS_put_46 rfl (Nat.lt_of_lt_of_le (Nat.lt_succ_self _) (Nat.le_of_ble_eq_true rfl)) rfl ?_
    first | refine v_aload_n C 49 dXS_put_48 rfl rfl ?_ | refine v_aload_nN C 49 dXS_put_48 rfl rfl ?_ | refine v_aload_nQ C 49 dXS_put_48 rfl rfl ?_
    refine nw_XS_25 C 52 dXS_put_49 rfl (by omega) (by omega) (fun q hq => ?_)
    refine v_dup C 53 dXS_put_52 rfl rfl ?_
    refine v_iconst C 54 dXS_put_53 rfl (nI 0) (by decide) ?_
    refine v_iload_n C 55 dXS_put_54 rfl rfl ?_
    refine v_iload_n C 56 dXS_put_55 rfl rfl ?_
    refine v_ri 59 (cl_XS_65 C ((c_S_pointSlot g i j)) dXS_put_56 rfl rfl (Nat.le_of_ble_eq_true rfl) (Nat.le_of_ble_eq_true rfl) (Nat.le_of_ble_eq_true rfl) (by omega) (by omega)) rfl (fun s M2 hs => ?_)
    obtain ⟨rfl, rfl⟩ := hs
    refine v_iload_n C 60 dXS_put_59 rfl rfl ?_
    refine v_iload C 62 dXS_put_60 rfl rfl ?_
    refine v_iload C 64 dXS_put_62 rfl rfl ?_
    refine v_rv 67 (cl_XS_68 C ((c_E_init g (nI 0) (nI (i * 8 + j)) (nI pp) v (nI t) mp_us rfl)) dXS_put_64 rfl rfl (Nat.le_of_ble_eq_true rfl) (Nat.le_of_ble_eq_true rfl) (Nat.le_of_ble_eq_true rfl) (by omega) (by omega)) rfl (fun M3 hM3 => ?_)
    obtain rfl := hM3
    rw [mp_uu]
    have hw := h.new (mp_k.new (e := .inr (ci_E, [.int (nI 0), .int (nI (i * 8 + j)), .int (nI pp), .int v, .int (nI t)])) hq)
    have hF2 := F_k (P := fun _ => False) hF (mp_k.new (e := .inr (ci_E, [.int (nI 0), .int (nI (i * 8 + j)), .int (nI pp), .int v, .int (nI t)])) hq) (fun _ _ z => z)
    have nFq : ¬ F q := fun z => hF q z hq
    have hqe : cw_e F (mp_u M q (.inr (ci_E, [.int (nI 0), .int (nI (i * 8 + j)), .int (nI pp), .int v, .int (nI t)]))) q (0, i, j, j, pp, v, t) := ⟨nFq, mp_us⟩
    refine v_ri 70 (cl_XS_71 C ((c_S_addEntry g hw hqe ok hF2 (by omega) b10 (by omega) (fun k hk => (by have := b15 k hk; omega)) (by omega) (by omega))) ((mp_un (ne_n h2 hq)).trans h2) dXS_put_67 rfl rfl (Nat.le_of_ble_eq_true rfl) (Nat.le_of_ble_eq_true rfl) (Nat.le_of_ble_eq_true rfl) (by omega) (by omega)) rfl (fun w M4 hM4 => ?_)
    obtain ⟨rfl, k4, w4⟩ := hM4
    refine v_zret C Rx dXS_put_70 (by omega) (by omega) (Or.inr rfl) ⟨_, rfl, (bI_t hall).symm, ?_, ?_⟩
    · exact mp_k.tr (P := fun q => ¬ F q) (mp_k.new hq) k4
    · rw [es]
      exact w4
  refine v_iload C 31 dXS_put_29 rfl rfl ?_
  refine v_if_ne C 34 39 dXS_put_31 rfl rfl (fun q4 => ?_) (fun q4 => ?_)
  · first | refine v_aload_n C 40 dXS_put_39 rfl rfl ?_ | refine v_aload_nN C 40 dXS_put_39 rfl rfl ?_ | refine v_aload_nQ C 40 dXS_put_39 rfl rfl ?_
    refine gt_XS_53 C 43 dXS_put_40 rfl h2 rfl ?_
    refine v_iload C 45 dXS_put_43 rfl rfl ?_
    refine v_iadd C 46 dXS_put_45 rfl ?_
    refine v_top _ (.int (nI (st_now S + ll))) (congrArg Value.int (nI_add _ _)) ?_
    exact fin _ (if_neg q4).symm
  · refine ld_XS_64 C 36 dXS_put_34 rfl ?_
    refine v_goto C 46 dXS_put_36 rfl ?_
    exact fin 2147483647 (if_pos (by first | exact q4 | exact Classical.not_not.mp q4)).symm
set_option maxHeartbeats 8000000 in
set_option maxHeartbeats 4000000 in
set_option maxRecDepth 100000 in
theorem c_S_delete (g : gx_T) {F : Nat → Prop} {M : mp_M} {a n : Nat} {S : st_S} (h : cw g F M a S) (B : st_b S n) (hn : n < 512) (hF : ∀ q, F q → M q ≠ none) (r c p : Int32) : Ct g yXS_delete cXS_delete 4 (some .boolean) 10 [.ref a, .int r, .int c, .int p] M (pi_ (fun w M' => w = bI (pl r c && sp_ok p) ∧ mp_k (fun q => ¬ F q) M M' ∧ cw g F M' a (sx_del S r c p))) (4 + 3 * mg S (sx_del S r c p)) (1713 + 1708 * mg S (sx_del S r c p)) := by
  refine ct_intro (L0 := [some (.ref a), some (.int r), some (.int c), some (.int p)]) (by decide) (Nat.le_of_ble_eq_true rfl) rfl rfl (fun x C Rx I => ?_)
  obtain ⟨b1, b2, b3, b4, b5, b6, b7, b8, b9, b10, b11, b12, b13, b14, b15⟩ := id B
  obtain ⟨lg, rl, mm, ms, ps, lf, h1, h2, -⟩ := id h
  have no : (pl r c && sp_ok p) = false → VV g x M 0 0 15 [some (.ref a), some (.int r), some (.int c), some (.int p)] [] := by
    intro hz
    refine v_iconst C 16 dXS_delete_15 rfl (nI 0) (by decide) ?_
    refine v_zret C Rx dXS_delete_16 (by omega) (by omega) (Or.inl rfl) ⟨_, rfl, (bI_f hz).symm, mp_k.rf, ?_⟩
    unfold sx_del
    rw [if_neg (by rw [hz]; decide)]
    exact h
  refine v_iload_n C 1 dXS_delete_0 rfl rfl ?_
  refine v_iload_n C 2 dXS_delete_1 rfl rfl ?_
  refine v_ri 5 (cl_XS_56 C ((c_S_isPlace g r c)) dXS_delete_2 rfl rfl (Nat.le_of_ble_eq_true rfl) (Nat.le_of_ble_eq_true rfl) (Nat.le_of_ble_eq_true rfl) (by omega) (by omega)) rfl (fun w M2 hw => ?_)
  obtain ⟨rfl, rfl⟩ := hw
  refine v_if_eq C 8 15 dXS_delete_5 rfl rfl (fun q0 => ?_) (fun q0 => ?_)
  · refine no ?_
    rw [bI_0.mp q0]
    rfl
  have q0' := bI_n0 q0
  refine v_iload_n C 9 dXS_delete_8 rfl rfl ?_
  refine v_ri 12 (cl_XS_60 C ((c_S_isStamp g p)) dXS_delete_9 rfl rfl (Nat.le_of_ble_eq_true rfl) (Nat.le_of_ble_eq_true rfl) (Nat.le_of_ble_eq_true rfl) (by omega) (by omega)) rfl (fun w M2 hw => ?_)
  obtain ⟨rfl, rfl⟩ := hw
  refine v_if_ne C 15 17 dXS_delete_12 rfl rfl (fun q1 => ?_) (fun q1 => ?_)
  rotate_left
  · refine no ?_
    rw [bI_0.mp q1, q0']
    rfl
  have q1' := bI_n0 q1
  obtain ⟨i, j, hi, hj, rfl, rfl⟩ := pl_of q0'
  obtain ⟨pp, hp, rfl⟩ := sp_of q1'
  have hall : (pl (nI i) (nI j) && sp_ok (nI pp)) = true := by
    rw [q0', q1']
    rfl
  have ok := ok_del B hi hj hp
  have ee : e_del S (nI i) (nI j) (nI pp) = (1, i, j, j, pp, 0, st_now S) := by
    unfold e_del
    rw [nI_tn (by omega), nI_tn (by omega), nI_tn (by omega)]
  have es : sx_del S (nI i) (nI j) (nI pp) = st_a S (1, i, j, j, pp, 0, st_now S) := by
    unfold sx_del
    rw [if_pos hall, ee]
  rw [ee] at ok
  have hmg : mg S (sx_del S (nI i) (nI j) (nI pp)) = mg S (st_a S (1, i, j, j, pp, 0, st_now S)) := by rw [es]
  first | refine v_aload_n C 18 dXS_delete_17 rfl rfl ?_ | refine v_aload_nN C 18 dXS_delete_17 rfl rfl ?_ | refine v_aload_nQ C 18 dXS_delete_17 rfl rfl ?_
  refine nw_XS_25 C 21 dXS_delete_18 rfl (by omega) (by omega) (fun q hq => ?_)
  refine v_dup C 22 dXS_delete_21 rfl rfl ?_
  refine v_iconst C 23 dXS_delete_22 rfl (nI 1) (by decide) ?_
  refine v_iload_n C 24 dXS_delete_23 rfl rfl ?_
  refine v_iload_n C 25 dXS_delete_24 rfl rfl ?_
  refine v_ri 28 (cl_XS_65 C ((c_S_pointSlot g i j)) dXS_delete_25 rfl rfl (Nat.le_of_ble_eq_true rfl) (Nat.le_of_ble_eq_true rfl) (Nat.le_of_ble_eq_true rfl) (by omega) (by omega)) rfl (fun s M2 hs => ?_)
  obtain ⟨rfl, rfl⟩ := hs
  refine v_iload_n C 29 dXS_delete_28 rfl rfl ?_
  refine v_iconst C 30 dXS_delete_29 rfl (nI 0) (by decide) ?_
  first | refine v_aload_n C 31 dXS_delete_30 rfl rfl ?_ | refine v_aload_nN C 31 dXS_delete_30 rfl rfl ?_ | refine v_aload_nQ C 31 dXS_delete_30 rfl rfl ?_
  refine gt_XS_53 C 34 dXS_delete_31 rfl ((mp_un (ne_n h2 hq)).trans h2) rfl ?_
  refine v_rv 37 (cl_XS_68 C ((c_E_init g (nI 1) (nI (i * 8 + j)) (nI pp) (nI 0) (nI (st_now S)) mp_us rfl)) dXS_delete_34 rfl rfl (Nat.le_of_ble_eq_true rfl) (Nat.le_of_ble_eq_true rfl) (Nat.le_of_ble_eq_true rfl) (by omega) (by omega)) rfl (fun M3 hM3 => ?_)
  obtain rfl := hM3
  rw [mp_uu]
  have hw := h.new (mp_k.new (e := .inr (ci_E, [.int (nI 1), .int (nI (i * 8 + j)), .int (nI pp), .int (nI 0), .int (nI (st_now S))])) hq)
  have hF2 := F_k (P := fun _ => False) hF (mp_k.new (e := .inr (ci_E, [.int (nI 1), .int (nI (i * 8 + j)), .int (nI pp), .int (nI 0), .int (nI (st_now S))])) hq) (fun _ _ z => z)
  have nFq : ¬ F q := fun z => hF q z hq
  have hqe : cw_e F (mp_u M q (.inr (ci_E, [.int (nI 1), .int (nI (i * 8 + j)), .int (nI pp), .int (nI 0), .int (nI (st_now S))]))) q (1, i, j, j, pp, 0, st_now S) := ⟨nFq, mp_us⟩
  refine v_ri 40 (cl_XS_71 C ((c_S_addEntry g hw hqe ok hF2 (by omega) b10 (by omega) (fun k hk => (by have := b15 k hk; omega)) (by omega) (by omega))) ((mp_un (ne_n h2 hq)).trans h2) dXS_delete_37 rfl rfl (Nat.le_of_ble_eq_true rfl) (Nat.le_of_ble_eq_true rfl) (Nat.le_of_ble_eq_true rfl) (by omega) (by omega)) rfl (fun w M4 hM4 => ?_)
  obtain ⟨rfl, k4, w4⟩ := hM4
  refine v_zret C Rx dXS_delete_40 (by omega) (by omega) (Or.inr rfl) ⟨_, rfl, (bI_t hall).symm, ?_, ?_⟩
  · exact mp_k.tr (P := fun q => ¬ F q) (mp_k.new hq) k4
  · rw [es]
    exact w4
set_option maxHeartbeats 8000000 in
set_option maxHeartbeats 4000000 in
set_option maxRecDepth 100000 in
theorem c_S_wipe (g : gx_T) {F : Nat → Prop} {M : mp_M} {a n : Nat} {S : st_S} (h : cw g F M a S) (B : st_b S n) (hn : n < 512) (hF : ∀ q, F q → M q ≠ none) (r c l p : Int32) : Ct g yXS_wipe cXS_wipe 5 (some .boolean) 10 [.ref a, .int r, .int c, .int l, .int p] M (pi_ (fun w M' => w = bI (pl r c && (pl r l && (decide (c.toInt ≤ l.toInt) && sp_ok p))) ∧ mp_k (fun q => ¬ F q) M M' ∧ cw g F M' a (sx_wip S r c l p))) (4 + 3 * mg S (sx_wip S r c l p)) (1713 + 1708 * mg S (sx_wip S r c l p)) := by
  refine ct_intro (L0 := [some (.ref a), some (.int r), some (.int c), some (.int l), some (.int p)]) (by decide) (Nat.le_of_ble_eq_true rfl) rfl rfl (fun x C Rx I => ?_)
  obtain ⟨b1, b2, b3, b4, b5, b6, b7, b8, b9, b10, b11, b12, b13, b14, b15⟩ := id B
  obtain ⟨lg, rl, mm, ms, ps, lf, h1, h2, -⟩ := id h
  have no : (pl r c && (pl r l && (decide (c.toInt ≤ l.toInt) && sp_ok p))) = false → VV g x M 0 0 29 [some (.ref a), some (.int r), some (.int c), some (.int l), some (.int p)] [] := by
    intro hz
    refine v_iconst C 30 dXS_wipe_29 rfl (nI 0) (by decide) ?_
    refine v_zret C Rx dXS_wipe_30 (by omega) (by omega) (Or.inl rfl) ⟨_, rfl, (bI_f hz).symm, mp_k.rf, ?_⟩
    unfold sx_wip
    rw [if_neg (by rw [hz]; decide)]
    exact h
  refine v_iload_n C 1 dXS_wipe_0 rfl rfl ?_
  refine v_iload_n C 2 dXS_wipe_1 rfl rfl ?_
  refine v_ri 5 (cl_XS_56 C ((c_S_isPlace g r c)) dXS_wipe_2 rfl rfl (Nat.le_of_ble_eq_true rfl) (Nat.le_of_ble_eq_true rfl) (Nat.le_of_ble_eq_true rfl) (by omega) (by omega)) rfl (fun w M2 hw => ?_)
  obtain ⟨rfl, rfl⟩ := hw
  refine v_if_eq C 8 29 dXS_wipe_5 rfl rfl (fun q0 => ?_) (fun q0 => ?_)
  · refine no ?_
    rw [bI_0.mp q0]
    rfl
  have q0' := bI_n0 q0
  refine v_iload_n C 9 dXS_wipe_8 rfl rfl ?_
  refine v_iload_n C 10 dXS_wipe_9 rfl rfl ?_
  refine v_ri 13 (cl_XS_56 C ((c_S_isPlace g r l)) dXS_wipe_10 rfl rfl (Nat.le_of_ble_eq_true rfl) (Nat.le_of_ble_eq_true rfl) (Nat.le_of_ble_eq_true rfl) (by omega) (by omega)) rfl (fun w M2 hw => ?_)
  obtain ⟨rfl, rfl⟩ := hw
  refine v_if_eq C 16 29 dXS_wipe_13 rfl rfl (fun q1 => ?_) (fun q1 => ?_)
  · refine no ?_
    rw [bI_0.mp q1, q0']
    rfl
  have q1' := bI_n0 q1
  refine v_iload_n C 17 dXS_wipe_16 rfl rfl ?_
  refine v_iload_n C 18 dXS_wipe_17 rfl rfl ?_
  refine v_icmp_gt C 21 29 dXS_wipe_18 rfl rfl (fun q2 => ?_) (fun q2 => ?_)
  · refine no ?_
    rw [Int32.lt_iff_toInt_lt] at q2
    rw [show decide (c.toInt ≤ l.toInt) = false from decide_eq_false (by omega)]
    simp
  have q2' : decide (c.toInt ≤ l.toInt) = true := by
    rw [Int32.lt_iff_toInt_lt] at q2
    exact decide_eq_true (by omega)
  refine v_iload C 23 dXS_wipe_21 rfl rfl ?_
  refine v_ri 26 (cl_XS_60 C ((c_S_isStamp g p)) dXS_wipe_23 rfl rfl (Nat.le_of_ble_eq_true rfl) (Nat.le_of_ble_eq_true rfl) (Nat.le_of_ble_eq_true rfl) (by omega) (by omega)) rfl (fun w M2 hw => ?_)
  obtain ⟨rfl, rfl⟩ := hw
  refine v_if_ne C 29 31 dXS_wipe_26 rfl rfl (fun q3 => ?_) (fun q3 => ?_)
  rotate_left
  · refine no ?_
    rw [bI_0.mp q3, q0', q1', q2']
    rfl
  have q3' := bI_n0 q3
  obtain ⟨i, j, hi, hj, rfl, rfl⟩ := pl_of q0'
  obtain ⟨i2, j2, hi2, hj2, e2, rfl⟩ := pl_of q1'
  obtain ⟨pp, hp, rfl⟩ := sp_of q3'
  have hall : (pl (nI i) (nI j) && (pl (nI i) (nI j2) && (decide ((nI j).toInt ≤ (nI j2).toInt) && sp_ok (nI pp)))) = true := by
    rw [q0', q1', q2', q3']
    rfl
  have hjj : j ≤ j2 := by
    have := of_decide_eq_true q2'
    rw [nI_toInt (by omega), nI_toInt (by omega)] at this
    omega
  have ok := ok_wip B hi hjj hj2 hp
  have ee : e_wip S (nI i) (nI j) (nI j2) (nI pp) = (2, i, j, j2, pp, 0, st_now S) := by
    unfold e_wip
    rw [nI_tn (by omega), nI_tn (by omega), nI_tn (by omega), nI_tn (by omega)]
  have es : sx_wip S (nI i) (nI j) (nI j2) (nI pp) = st_a S (2, i, j, j2, pp, 0, st_now S) := by
    unfold sx_wip
    rw [if_pos hall, ee]
  rw [ee] at ok
  have hmg : mg S (sx_wip S (nI i) (nI j) (nI j2) (nI pp)) = mg S (st_a S (2, i, j, j2, pp, 0, st_now S)) := by rw [es]
  first | refine v_aload_n C 32 dXS_wipe_31 rfl rfl ?_ | refine v_aload_nN C 32 dXS_wipe_31 rfl rfl ?_ | refine v_aload_nQ C 32 dXS_wipe_31 rfl rfl ?_
  refine nw_XS_25 C 35 dXS_wipe_32 rfl (by omega) (by omega) (fun q hq => ?_)
  refine v_dup C 36 dXS_wipe_35 rfl rfl ?_
  refine v_iconst C 37 dXS_wipe_36 rfl (nI 2) (by decide) ?_
  refine v_iload_n C 38 dXS_wipe_37 rfl rfl ?_
  refine v_iload_n C 39 dXS_wipe_38 rfl rfl ?_
  refine v_iload_n C 40 dXS_wipe_39 rfl rfl ?_
  refine v_ri 43 (cl_XS_75 C ((c_S_wipeSlot g i j j2 hj2)) dXS_wipe_40 rfl rfl (Nat.le_of_ble_eq_true rfl) (Nat.le_of_ble_eq_true rfl) (Nat.le_of_ble_eq_true rfl) (by omega) (by omega)) rfl (fun s M2 hs => ?_)
  obtain ⟨rfl, rfl⟩ := hs
  refine v_iload C 45 dXS_wipe_43 rfl rfl ?_
  refine v_iconst C 46 dXS_wipe_45 rfl (nI 0) (by decide) ?_
  first | refine v_aload_n C 47 dXS_wipe_46 rfl rfl ?_ | refine v_aload_nN C 47 dXS_wipe_46 rfl rfl ?_ | refine v_aload_nQ C 47 dXS_wipe_46 rfl rfl ?_
  refine gt_XS_53 C 50 dXS_wipe_47 rfl ((mp_un (ne_n h2 hq)).trans h2) rfl ?_
  refine v_rv 53 (cl_XS_68 C ((c_E_init g (nI 2) (nI (en_ws i j j2)) (nI pp) (nI 0) (nI (st_now S)) mp_us rfl)) dXS_wipe_50 rfl rfl (Nat.le_of_ble_eq_true rfl) (Nat.le_of_ble_eq_true rfl) (Nat.le_of_ble_eq_true rfl) (by omega) (by omega)) rfl (fun M3 hM3 => ?_)
  obtain rfl := hM3
  rw [mp_uu]
  have hw := h.new (mp_k.new (e := .inr (ci_E, [.int (nI 2), .int (nI (en_ws i j j2)), .int (nI pp), .int (nI 0), .int (nI (st_now S))])) hq)
  have hF2 := F_k (P := fun _ => False) hF (mp_k.new (e := .inr (ci_E, [.int (nI 2), .int (nI (en_ws i j j2)), .int (nI pp), .int (nI 0), .int (nI (st_now S))])) hq) (fun _ _ z => z)
  have nFq : ¬ F q := fun z => hF q z hq
  have hqe : cw_e F (mp_u M q (.inr (ci_E, [.int (nI 2), .int (nI (en_ws i j j2)), .int (nI pp), .int (nI 0), .int (nI (st_now S))]))) q (2, i, j, j2, pp, 0, st_now S) := ⟨nFq, mp_us⟩
  refine v_ri 56 (cl_XS_71 C ((c_S_addEntry g hw hqe ok hF2 (by omega) b10 (by omega) (fun k hk => (by have := b15 k hk; omega)) (by omega) (by omega))) ((mp_un (ne_n h2 hq)).trans h2) dXS_wipe_53 rfl rfl (Nat.le_of_ble_eq_true rfl) (Nat.le_of_ble_eq_true rfl) (Nat.le_of_ble_eq_true rfl) (by omega) (by omega)) rfl (fun w M4 hM4 => ?_)
  obtain ⟨rfl, k4, w4⟩ := hM4
  refine v_zret C Rx dXS_wipe_56 (by omega) (by omega) (Or.inr rfl) ⟨_, rfl, (bI_t hall).symm, ?_, ?_⟩
  · exact mp_k.tr (P := fun q => ¬ F q) (mp_k.new hq) k4
  · rw [es]
    exact w4

