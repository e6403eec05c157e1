set_option maxHeartbeats 4000000 in
set_option maxRecDepth 100000 in
theorem c_T_pointAt (g : gx_T) {F : Nat → Prop} {M : mp_M} {a sl tier : Nat} {T : tb_T} (r c : Nat) (hr : r < 16) (hc : c < 8) (h : cw_t g F M a sl tier T) : Ct g yXT_pointAt cXT_pointAt 3 (some (.object "WideStore$Entry")) 2 [.ref a, .int (nI r), .int (nI c)] M (pq (fun o M' => M = M' ∧ cw_o F M o (T (r * 8 + c)))) 0 0 := by
  refine ct_intro (L0 := [some (.ref a), some (.int (nI r)), some (.int (nI c))]) (by decide) (Nat.le_of_ble_eq_true rfl) rfl rfl (fun x C E I => ?_)
  obtain ⟨h1, h2, h3, h4, f, h5, h6⟩ := h
  first | refine v_aload_n C 1 dXT_pointAt_0 rfl rfl ?_ | refine v_aload_nN C 1 dXT_pointAt_0 rfl rfl ?_ | refine v_aload_nQ C 1 dXT_pointAt_0 rfl rfl ?_
  refine gt_XT_17 C 4 dXT_pointAt_1 rfl h4 rfl ?_
  refine v_iload_n C 5 dXT_pointAt_4 rfl rfl ?_
  refine v_iload_n C 6 dXT_pointAt_5 rfl rfl ?_
  refine v_ri 9 (cl_XT_27 C ((c_S_pointSlot g (M := M) r c)) dXT_pointAt_6 rfl rfl (Nat.le_of_ble_eq_true rfl) (Nat.le_of_ble_eq_true rfl) (Nat.le_of_ble_eq_true rfl) (by omega) (by omega)) rfl (fun v M1 hv => ?_)
  obtain ⟨rfl, rfl⟩ := hv
  refine v_aald C 10 0 rfl dXT_pointAt_9 rfl h5 (r * 8 + c) rfl (by omega) (by decide) ?_
  refine v_aret C E (Or.inl ⟨_, rfl⟩) dXT_pointAt_10 (by omega) (by omega) ⟨_, rfl, rfl, h6 _ (by omega)⟩
set_option maxHeartbeats 4000000 in
set_option maxRecDepth 100000 in
theorem c_T_addWinner (g : gx_T) {F : Nat → Prop} {M : mp_M} {a sl tier q : Nat} {T : tb_T} {e : en_E} (h : cw_t g F M a sl tier T) (hq : cw_e F M q e) (he : en_ok e) : Ct g yXT_addWinner cXT_addWinner 3 none 2 [.ref a, .ref q] M (pv (fun M' => mp_k (fun y => y = a ∨ y = sl) M M' ∧ cw_t g F M' a sl tier (tb_a T e))) 0 0 := by
  refine ct_intro (L0 := [some (.ref a), some (.ref q), none]) (by decide) (Nat.le_of_ble_eq_true rfl) rfl rfl (fun x C E I => ?_)
  obtain ⟨h1, h2, h3, h4, f, h5, h6⟩ := h
  have hs := en_s_lt he
  have hqa : q ≠ a := ne_o hq.2 h4 (by decide)
  have hqs : q ≠ sl := ne_a hq.2 h5
  have has : a ≠ sl := ne_a h4 h5
  have hqo : cw_o F M (some q) (some e) := Or.inr ⟨q, e, rfl, rfl, hq⟩
  first | refine v_aload_n C 1 dXT_addWinner_0 rfl rfl ?_ | refine v_aload_nN C 1 dXT_addWinner_0 rfl rfl ?_ | refine v_aload_nQ C 1 dXT_addWinner_0 rfl rfl ?_
  refine gt_XT_17 C 4 dXT_addWinner_1 rfl h4 rfl ?_
  first | refine v_aload_n C 5 dXT_addWinner_4 rfl rfl ?_ | refine v_aload_nN C 5 dXT_addWinner_4 rfl rfl ?_ | refine v_aload_nQ C 5 dXT_addWinner_4 rfl rfl ?_
  refine gt_XT_31 C 8 dXT_addWinner_5 rfl hq.2 rfl ?_
  refine v_aald C 9 0 rfl dXT_addWinner_8 rfl h5 (en_s e) rfl hs (by decide) ?_
  first | refine v_astore_n C 10 _ dXT_addWinner_9 rfl (Nat.lt_of_lt_of_le (Nat.lt_succ_self _) (Nat.le_of_ble_eq_true rfl)) rfl ?_ | refine v_astore_nN C 10 _ dXT_addWinner_9 rfl (Nat.lt_of_lt_of_le (Nat.lt_succ_self _) (Nat.le_of_ble_eq_true rfl)) rfl ?_ | refine v_astore_nQ C 10 _ dXT_addWinner_9 rfl (Nat.lt_of_lt_of_le (Nat.lt_succ_self _) (Nat.le_of_ble_eq_true rfl)) rfl ?_
  first | refine v_aload_n C 11 dXT_addWinner_10 rfl rfl ?_ | refine v_aload_nN C 11 dXT_addWinner_10 rfl rfl ?_ | refine v_aload_nQ C 11 dXT_addWinner_10 rfl rfl ?_
  refine v_ifnonnull C 14 59 dXT_addWinner_11 rfl rfl (fun b hb => ?_) (fun hb => ?_)
  · rcases h6 _ hs with ⟨z, -⟩ | ⟨q2, e2, g1, g2, g3⟩
    · rw [z] at hb
      cases hb
    · cases hb.symm.trans g1
      rw [hb]
      first | refine v_aload_n C 60 dXT_addWinner_59 rfl rfl ?_ | refine v_aload_nN C 60 dXT_addWinner_59 rfl rfl ?_ | refine v_aload_nQ C 60 dXT_addWinner_59 rfl rfl ?_
      first | refine v_aload_n C 61 dXT_addWinner_60 rfl rfl ?_ | refine v_aload_nN C 61 dXT_addWinner_60 rfl rfl ?_ | refine v_aload_nQ C 61 dXT_addWinner_60 rfl rfl ?_
      refine v_ri 64 (cl_XT_37 C ((c_E_winsOver g hq g3 he (h3 _ _ g2).1)) hq.2 dXT_addWinner_61 rfl rfl (Nat.le_of_ble_eq_true rfl) (Nat.le_of_ble_eq_true rfl) (Nat.le_of_ble_eq_true rfl) (by omega) (by omega)) rfl (fun v M1 hv => ?_)
      obtain ⟨rfl, rfl⟩ := hv
      refine v_if_eq C 67 77 dXT_addWinner_64 rfl rfl (fun hw => ?_) (fun hw => ?_)
      · rw [bI_0] at hw
        refine v_vret C E dXT_addWinner_77 (by omega) (by omega) ⟨rfl, mp_k.rf, by rw [tb_a_l g2 hw]; exact ⟨h1, h2, h3, h4, f, h5, h6⟩⟩
      · have hw2 : en_w e e2 = true := by cases hz : en_w e e2 with | true => rfl | false => exact absurd (bI_0.mpr hz) hw
        first | refine v_aload_n C 68 dXT_addWinner_67 rfl rfl ?_ | refine v_aload_nN C 68 dXT_addWinner_67 rfl rfl ?_ | refine v_aload_nQ C 68 dXT_addWinner_67 rfl rfl ?_
        refine gt_XT_17 C 71 dXT_addWinner_68 rfl h4 rfl ?_
        first | refine v_aload_n C 72 dXT_addWinner_71 rfl rfl ?_ | refine v_aload_nN C 72 dXT_addWinner_71 rfl rfl ?_ | refine v_aload_nQ C 72 dXT_addWinner_71 rfl rfl ?_
        refine gt_XT_31 C 75 dXT_addWinner_72 rfl hq.2 rfl ?_
        first | refine v_aload_n C 76 dXT_addWinner_75 rfl rfl ?_ | refine v_aload_nN C 76 dXT_addWinner_75 rfl rfl ?_ | refine v_aload_nQ C 76 dXT_addWinner_75 rfl rfl ?_
        refine v_aast C 77 0 ci_E rfl rfl dXT_addWinner_76 rfl h5 hq.2 (en_s e) rfl hs (by decide) ?_
        have hii : tb_i (some e) = tb_i (T (en_s e)) := by
          rw [g2, tb_i_s, tb_i_s]
          have := (en_s_inj he (h3 _ _ g2).1 (h3 _ _ g2).2.symm).1
          exact decide_eq_decide.mpr this
        have hT : ob_T tier sl (va_up T (en_s e) (some e)) = ob_T tier sl T := ob_Tc (tb_n_old g2) (tb_w_up hii)
        have hM2 : mp_u (mp_u M sl (ar_q (gx_E g) 704 (va_up f (en_s e) (some q)))) a (ob_T tier sl (va_up T (en_s e) (some e))) = mp_u M sl (ar_q (gx_E g) 704 (va_up f (en_s e) (some q))) := by
          rw [hT]
          exact mp_same ((mp_un has).trans h4)
        refine v_vret C E dXT_addWinner_77 (by omega) (by omega) ⟨rfl, mp_k.up (Or.inr rfl), by
          rw [tb_a_w g2 hw2, ← hM2]
          exact cw_t_up h1 h2 h4 h5 (by rw [← tb_a_w g2 hw2]; exact tb_ok_a h3 he) (cw_f_up h6 hqo)⟩
  · have hN : T (en_s e) = none := by
      rcases h6 _ hs with ⟨-, z⟩ | ⟨q2, e2, g1, g2, g3⟩
      · exact z
      · rw [hb] at g1
        cases g1
    first | refine v_aload_n C 15 dXT_addWinner_14 rfl rfl ?_ | refine v_aload_nN C 15 dXT_addWinner_14 rfl rfl ?_ | refine v_aload_nQ C 15 dXT_addWinner_14 rfl rfl ?_
    refine gt_XT_17 C 18 dXT_addWinner_15 rfl h4 rfl ?_
    first | refine v_aload_n C 19 dXT_addWinner_18 rfl rfl ?_ | refine v_aload_nN C 19 dXT_addWinner_18 rfl rfl ?_ | refine v_aload_nQ C 19 dXT_addWinner_18 rfl rfl ?_
    refine gt_XT_31 C 22 dXT_addWinner_19 rfl hq.2 rfl ?_
    first | refine v_aload_n C 23 dXT_addWinner_22 rfl rfl ?_ | refine v_aload_nN C 23 dXT_addWinner_22 rfl rfl ?_ | refine v_aload_nQ C 23 dXT_addWinner_22 rfl rfl ?_
    refine v_aast C 24 0 ci_E rfl rfl dXT_addWinner_23 rfl h5 hq.2 (en_s e) rfl hs (by decide) ?_
    first | refine v_aload_n C 25 dXT_addWinner_24 rfl rfl ?_ | refine v_aload_nN C 25 dXT_addWinner_24 rfl rfl ?_ | refine v_aload_nQ C 25 dXT_addWinner_24 rfl rfl ?_
    refine v_dup C 26 dXT_addWinner_25 rfl rfl ?_
    refine gt_XT_21 C 29 dXT_addWinner_26 rfl ((mp_un has).trans h4) rfl ?_
    refine v_iconst C 30 dXT_addWinner_29 rfl (nI 1) (by decide) ?_
    refine v_iadd C 31 dXT_addWinner_30 rfl ?_
    refine pt_XT_21 C 34 dXT_addWinner_31 rfl rfl rfl ((mp_un has).trans h4) (Nat.lt_of_lt_of_le (Nat.lt_succ_self _) (Nat.le_of_ble_eq_true rfl)) [.int (nI tier), .ref sl, .int (nI (tb_n T) + nI 1), .int (nI (tb_w T))] rfl ?_
    first | refine v_aload_n C 35 dXT_addWinner_34 rfl rfl ?_ | refine v_aload_nN C 35 dXT_addWinner_34 rfl rfl ?_ | refine v_aload_nQ C 35 dXT_addWinner_34 rfl rfl ?_
    refine v_dup C 36 dXT_addWinner_35 rfl rfl ?_
    refine gt_XT_24 C 39 dXT_addWinner_36 rfl mp_us rfl ?_
    first | refine v_aload_n C 40 dXT_addWinner_39 rfl rfl ?_ | refine v_aload_nN C 40 dXT_addWinner_39 rfl rfl ?_ | refine v_aload_nQ C 40 dXT_addWinner_39 rfl rfl ?_
    refine gt_XT_34 C 43 dXT_addWinner_40 rfl ((mp_un hqa).trans ((mp_un hqs).trans hq.2)) rfl ?_
    refine v_iconst C 44 dXT_addWinner_43 rfl (nI 2) (by decide) ?_
    have fin : ∀ w : Int32, nI (tb_w T) + w = nI (tb_w (tb_a T e)) → VV g x (mp_u (mp_u M sl (ar_q (gx_E g) 704 (va_up f (en_s e) (some q)))) a (.inr (ci_T, [.int (nI tier), .ref sl, .int (nI (tb_n T) + nI 1), .int (nI (tb_w T))]))) 0 0 52 [some (.ref a), some (.ref q), some (va_rf (f (en_s e)))] [.int w, .int (nI (tb_w T)), .ref a] := by
      intro w hw
      refine v_iadd C 53 dXT_addWinner_52 rfl ?_
      refine pt_XT_24 C 56 dXT_addWinner_53 rfl rfl rfl mp_us (Nat.lt_of_lt_of_le (Nat.lt_succ_self _) (Nat.le_of_ble_eq_true rfl)) [.int (nI tier), .ref sl, .int (nI (tb_n T) + nI 1), .int (nI (tb_w T) + w)] rfl ?_
      refine v_goto C 77 dXT_addWinner_56 rfl ?_
      refine v_vret C E dXT_addWinner_77 (by omega) (by omega) ⟨rfl, ?_, ?_⟩
      · rw [mp_uu]
        exact cw_t_kp
      · rw [mp_uu, hw, nI_add, ← tb_n_new hs hN (e := e), ← tb_a_n hN]
        exact cw_t_up h1 h2 h4 h5 (tb_ok_a h3 he) (by rw [tb_a_n hN]; exact cw_f_up h6 hqo)
    refine v_icmp_ne C 47 51 dXT_addWinner_44 rfl rfl (fun hk => ?_) (fun hk => ?_)
    · refine v_iconst C 52 dXT_addWinner_51 rfl (nI 0) (by decide) ?_
      refine fin _ ?_
      have hk2 : en_k e ≠ 2 := fun z => hk (by rw [z])
      rw [nI_add, Nat.add_zero, tb_a_n hN, tb_w_up (by rw [hN, tb_i_s]; exact decide_eq_false hk2)]
    · refine v_iconst C 48 dXT_addWinner_47 rfl (nI 1) (by decide) ?_
      refine v_goto C 52 dXT_addWinner_48 rfl ?_
      refine fin _ ?_
      have hk2 : en_k e = 2 := (nI_eq (by have := he.1; omega) (by decide)).mp hk
      rw [nI_add, tb_a_n hN, tb_w_inc hs (by rw [hN]; rfl) (by rw [tb_i_s]; exact decide_eq_true hk2)]
set_option maxHeartbeats 4000000 in
set_option maxRecDepth 100000 in
theorem c_T_dropEntry (g : gx_T) {F : Nat → Prop} {M : mp_M} {a sl tier q : Nat} {T : tb_T} {e : en_E} (h : cw_t g F M a sl tier T) (hq : cw_e F M q e) (hT : T (en_s e) = some e) : Ct g yXT_dropEntry cXT_dropEntry 2 none 2 [.ref a, .ref q] M (pv (fun M' => mp_k (fun y => y = a ∨ y = sl) M M' ∧ cw_t g F M' a sl tier (va_up T (en_s e) none))) 0 0 := by
  refine ct_intro (L0 := [some (.ref a), some (.ref q)]) (by decide) (Nat.le_of_ble_eq_true rfl) rfl rfl (fun x C E I => ?_)
  obtain ⟨h1, h2, h3, h4, f, h5, h6⟩ := h
  have he := (h3 _ _ hT).1
  have hs := en_s_lt he
  have hqa : q ≠ a := ne_o hq.2 h4 (by decide)
  have hqs : q ≠ sl := ne_a hq.2 h5
  have has : a ≠ sl := ne_a h4 h5
  have hno : cw_o F M none none := Or.inl ⟨rfl, rfl⟩
  have hok : tb_ok (va_up T (en_s e) none) := by
    intro s e2 z
    by_cases hs2 : s = en_s e
    · rw [hs2, va_up_self] at z
      cases z
    · rw [va_up_ne _ _ hs2] at z
      exact h3 s e2 z
  have hn := tb_n_del hs hT
  first | refine v_aload_n C 1 dXT_dropEntry_0 rfl rfl ?_ | refine v_aload_nN C 1 dXT_dropEntry_0 rfl rfl ?_ | refine v_aload_nQ C 1 dXT_dropEntry_0 rfl rfl ?_
  refine gt_XT_17 C 4 dXT_dropEntry_1 rfl h4 rfl ?_
  first | refine v_aload_n C 5 dXT_dropEntry_4 rfl rfl ?_ | refine v_aload_nN C 5 dXT_dropEntry_4 rfl rfl ?_ | refine v_aload_nQ C 5 dXT_dropEntry_4 rfl rfl ?_
  refine gt_XT_31 C 8 dXT_dropEntry_5 rfl hq.2 rfl ?_
  refine v_null C 9 dXT_dropEntry_8 rfl ?_
  refine v_aastN C 10 0 rfl dXT_dropEntry_9 rfl h5 (en_s e) rfl hs (by decide) ?_
  first | refine v_aload_n C 11 dXT_dropEntry_10 rfl rfl ?_ | refine v_aload_nN C 11 dXT_dropEntry_10 rfl rfl ?_ | refine v_aload_nQ C 11 dXT_dropEntry_10 rfl rfl ?_
  refine v_dup C 12 dXT_dropEntry_11 rfl rfl ?_
  refine gt_XT_21 C 15 dXT_dropEntry_12 rfl ((mp_un has).trans h4) rfl ?_
  refine v_iconst C 16 dXT_dropEntry_15 rfl (nI 1) (by decide) ?_
  refine v_isub C 17 dXT_dropEntry_16 rfl ?_
  refine pt_XT_21 C 20 dXT_dropEntry_17 rfl rfl rfl ((mp_un has).trans h4) (Nat.lt_of_lt_of_le (Nat.lt_succ_self _) (Nat.le_of_ble_eq_true rfl)) [.int (nI tier), .ref sl, .int (nI (tb_n T) - nI 1), .int (nI (tb_w T))] rfl ?_
  first | refine v_aload_n C 21 dXT_dropEntry_20 rfl rfl ?_ | refine v_aload_nN C 21 dXT_dropEntry_20 rfl rfl ?_ | refine v_aload_nQ C 21 dXT_dropEntry_20 rfl rfl ?_
  refine v_dup C 22 dXT_dropEntry_21 rfl rfl ?_
  refine gt_XT_24 C 25 dXT_dropEntry_22 rfl mp_us rfl ?_
  first | refine v_aload_n C 26 dXT_dropEntry_25 rfl rfl ?_ | refine v_aload_nN C 26 dXT_dropEntry_25 rfl rfl ?_ | refine v_aload_nQ C 26 dXT_dropEntry_25 rfl rfl ?_
  refine gt_XT_34 C 29 dXT_dropEntry_26 rfl ((mp_un hqa).trans ((mp_un hqs).trans hq.2)) rfl ?_
  refine v_iconst C 30 dXT_dropEntry_29 rfl (nI 2) (by decide) ?_
  have fin : ∀ w : Int32, nI (tb_w T) - w = nI (tb_w (va_up T (en_s e) none)) → VV g x (mp_u (mp_u M sl (ar_q (gx_E g) 704 (va_up f (en_s e) none))) a (.inr (ci_T, [.int (nI tier), .ref sl, .int (nI (tb_n T) - nI 1), .int (nI (tb_w T))]))) 0 0 38 [some (.ref a), some (.ref q)] [.int w, .int (nI (tb_w T)), .ref a] := by
    intro w hw
    refine v_isub C 39 dXT_dropEntry_38 rfl ?_
    refine pt_XT_24 C 42 dXT_dropEntry_39 rfl rfl rfl mp_us (Nat.lt_of_lt_of_le (Nat.lt_succ_self _) (Nat.le_of_ble_eq_true rfl)) [.int (nI tier), .ref sl, .int (nI (tb_n T) - nI 1), .int (nI (tb_w T) - w)] rfl ?_
    refine v_vret C E dXT_dropEntry_42 (by omega) (by omega) ⟨rfl, ?_, ?_⟩
    · rw [mp_uu]
      exact cw_t_kp
    · rw [mp_uu, hw, pk_sub (by omega), show tb_n T - 1 = tb_n (va_up T (en_s e) none) by omega]
      exact cw_t_up h1 h2 h4 h5 hok (cw_f_up h6 hno)
  refine v_icmp_ne C 33 37 dXT_dropEntry_30 rfl rfl (fun hk => ?_) (fun hk => ?_)
  · refine v_iconst C 38 dXT_dropEntry_37 rfl (nI 0) (by decide) ?_
    refine fin _ ?_
    have hk2 : en_k e ≠ 2 := fun z => hk (by rw [z])
    rw [pk_sub (Nat.zero_le _), Nat.sub_zero, tb_w_up (by rw [hT, tb_i_s]; exact (decide_eq_false hk2).symm)]
  · refine v_iconst C 34 dXT_dropEntry_33 rfl (nI 1) (by decide) ?_
    refine v_goto C 38 dXT_dropEntry_34 rfl ?_
    refine fin _ ?_
    have hk2 : en_k e = 2 := (nI_eq (by have := he.1; omega) (by decide)).mp hk
    have hw := tb_w_dec (T := T) (o := none) hs (by rw [hT, tb_i_s]; exact decide_eq_true hk2) rfl
    rw [pk_sub (by omega), hw, Nat.add_sub_cancel]
set_option maxHeartbeats 4000000 in
set_option maxRecDepth 100000 in
theorem c_T_covers (g : gx_T) {F : Nat → Prop} {M : mp_M} {a sl tier : Nat} {T : tb_T} (r c p : Nat) (hr : r < 16) (hc : c < 8) (hp : p ≤ 9999) (h : cw_t g F M a sl tier T) : Ct g yXT_covers cXT_covers 7 (some .boolean) 2 [.ref a, .int (nI r), .int (nI c), .int (nI p)] M (pi_ (fun v M' => M = M' ∧ v = bI (bo (tb_c T r c p)))) 0 0 := by
  refine ct_intro (L0 := [some (.ref a), some (.int (nI r)), some (.int (nI c)), some (.int (nI p)), none, none, none]) (by decide) (Nat.le_of_ble_eq_true rfl) rfl rfl (fun x C E I => ?_)
  obtain ⟨h1, h2, h3, h4, f, h5, h6⟩ := h
  have hwl := tb_w_le T
  have iff := tb_c_iff h3 (p := p) hr hc
  first | refine v_aload_n C 1 dXT_covers_0 rfl rfl ?_ | refine v_aload_nN C 1 dXT_covers_0 rfl rfl ?_ | refine v_aload_nQ C 1 dXT_covers_0 rfl rfl ?_
  refine gt_XT_24 C 4 dXT_covers_1 rfl h4 rfl ?_
  refine v_if_ne C 7 9 dXT_covers_4 rfl rfl (fun hw => ?_) (fun hw => ?_)
  · have out : (∀ f l, f ≤ c → c ≤ l → l < 8 → ¬ tb_cs T r p f l) → ∀ L4 L5 L6, VV g x M 0 0 71 [some (.ref a), some (.int (nI r)), some (.int (nI c)), some (.int (nI p)), L4, L5, L6] [] := by
      intro hno L4 L5 L6
      refine v_iconst C 72 dXT_covers_71 rfl (nI 0) (by decide) ?_
      refine v_zret C E dXT_covers_72 (by omega) (by omega) (Or.inl rfl) ⟨_, rfl, rfl, (bI_f (bo_f.mpr (fun z => by obtain ⟨f, l, a1, a2, a3, a4⟩ := iff.mp z; exact hno f l a1 a2 a3 a4))).symm⟩
    have inner : ∀ (n j i : Nat), i ≤ c → c ≤ j → j + n = 8 → (∀ l, c ≤ l → l < j → ¬ tb_cs T r p i l) → ((∀ l, c ≤ l → l < 8 → ¬ tb_cs T r p i l) → ∀ L5 L6, VV g x M 0 0 65 [some (.ref a), some (.int (nI r)), some (.int (nI c)), some (.int (nI p)), some (.int (nI i)), L5, L6] []) → ∀ L6, VV g x M 0 0 21 [some (.ref a), some (.int (nI r)), some (.int (nI c)), some (.int (nI p)), some (.int (nI i)), some (.int (nI j)), L6] [] := by
      intro n
      induction n with
      | zero =>
        intro j i hi hj hjn hno kk L6
        refine v_iload C 23 dXT_covers_21 rfl rfl ?_
        refine v_bipush C 25 dXT_covers_23 rfl (nI 8) (by decide) ?_
        refine v_icmp_ge C 28 65 dXT_covers_25 rfl rfl (fun h9 => ?_) (fun h9 => False.elim (by first | exact h9 (nI_le (show 8 ≤ j by omega) (by omega)) | exact (nI_le (show 8 ≤ j by omega) (by omega)) h9))
        exact kk (fun l a1 a2 => hno l a1 (by omega)) _ _
      | succ n ih =>
        intro j i hi hj hjn hno kk L6
        have hsl := (en_ws_lt (r := r) (c := i) (l := j) hr (by omega) (by omega)).2
        refine v_iload C 23 dXT_covers_21 rfl rfl ?_
        refine v_bipush C 25 dXT_covers_23 rfl (nI 8) (by decide) ?_
        refine v_icmp_ge C 28 65 dXT_covers_25 rfl rfl (fun h9 => False.elim (by first | exact h9 (nI_ge (show j < 8 by omega) (by decide)) | exact (nI_ge (show j < 8 by omega) (by decide)) h9)) (fun h9 => ?_)
        first | refine v_aload_n C 29 dXT_covers_28 rfl rfl ?_ | refine v_aload_nN C 29 dXT_covers_28 rfl rfl ?_ | refine v_aload_nQ C 29 dXT_covers_28 rfl rfl ?_
        refine gt_XT_17 C 32 dXT_covers_29 rfl h4 rfl ?_
        refine v_iload_n C 33 dXT_covers_32 rfl rfl ?_
        refine v_iload C 35 dXT_covers_33 rfl rfl ?_
        refine v_iload C 37 dXT_covers_35 rfl rfl ?_
        refine v_ri 40 (cl_XT_45 C ((c_S_wipeSlot g (M := M) r i j (by omega))) dXT_covers_37 rfl rfl (Nat.le_of_ble_eq_true rfl) (Nat.le_of_ble_eq_true rfl) (Nat.le_of_ble_eq_true rfl) (by omega) (by omega)) rfl (fun v M1 hv => ?_)
        obtain ⟨rfl, rfl⟩ := hv
        refine v_aald C 41 0 rfl dXT_covers_40 rfl h5 (en_ws r i j) rfl hsl (by decide) ?_
        first | refine v_astore C 43 _ dXT_covers_41 rfl (Nat.lt_of_lt_of_le (Nat.lt_succ_self _) (Nat.le_of_ble_eq_true rfl)) rfl ?_ | refine v_astoreN C 43 _ dXT_covers_41 rfl (Nat.lt_of_lt_of_le (Nat.lt_succ_self _) (Nat.le_of_ble_eq_true rfl)) rfl ?_ | refine v_astoreQ C 43 _ dXT_covers_41 rfl (Nat.lt_of_lt_of_le (Nat.lt_succ_self _) (Nat.le_of_ble_eq_true rfl)) rfl ?_
        first | refine v_aload C 45 dXT_covers_43 rfl rfl ?_ | refine v_aloadN C 45 dXT_covers_43 rfl rfl ?_ | refine v_aloadQ C 45 dXT_covers_43 rfl rfl ?_
        have nxt : ¬ tb_cs T r p i j → ∀ L6, VV g x M 0 0 59 [some (.ref a), some (.int (nI r)), some (.int (nI c)), some (.int (nI p)), some (.int (nI i)), some (.int (nI j)), L6] [] := by
          intro hn6 L6
          refine v_iinc C 62 _ (nI (j + 1)) dXT_covers_59 rfl rfl (nI_1 j) rfl ?_
          refine v_goto C 21 dXT_covers_62 rfl ?_
          refine ih (j + 1) i hi (by omega) (by omega) (fun l a1 a2 => ?_) kk L6
          by_cases hlj : l = j
          · rw [hlj]
            exact hn6
          · exact hno l a1 (by omega)
        refine v_ifnull C 48 59 dXT_covers_45 rfl rfl (fun hz => ?_) (fun b hb => ?_)
        · refine nxt ?_ _
          rintro ⟨e2, a1, -⟩
          rcases h6 _ hsl with ⟨-, z2⟩ | ⟨q2, e3, g1, -⟩
          · rw [z2] at a1
            cases a1
          · rw [hz] at g1
            cases g1
        · rcases h6 _ hsl with ⟨z1, -⟩ | ⟨q2, e2, g1, g2, g3⟩
          · rw [hb] at z1
            cases z1
          · cases hb.symm.trans g1
            rw [hb]
            first | refine v_aload C 50 dXT_covers_48 rfl rfl ?_ | refine v_aloadN C 50 dXT_covers_48 rfl rfl ?_ | refine v_aloadQ C 50 dXT_covers_48 rfl rfl ?_
            refine gt_XT_49 C 53 dXT_covers_50 rfl g3.2 rfl ?_
            refine v_iload_n C 54 dXT_covers_53 rfl rfl ?_
            have hk2 := (h3 _ _ g2).1.2.2.2.2.2.1
            refine v_icmp_lt C 57 59 dXT_covers_54 rfl rfl (fun hl => ?_) (fun hl => ?_)
            · refine nxt ?_ _
              rintro ⟨e4, a1, a2⟩
              cases g2.symm.trans a1
              rw [nI_ltI (by omega) (by omega)] at hl
              omega
            · refine v_iconst C 58 dXT_covers_57 rfl (nI 1) (by decide) ?_
              rw [nI_ltI (by omega) (by omega)] at hl
              refine v_zret C E dXT_covers_58 (by omega) (by omega) (Or.inr rfl) ⟨_, rfl, rfl, (bI_t (bo_t.mpr (iff.mpr ⟨i, j, hi, hj, by omega, e2, g2, by omega⟩))).symm⟩
    have outer : ∀ (n i : Nat), i + n = c + 1 → (∀ f l, f < i → c ≤ l → l < 8 → ¬ tb_cs T r p f l) → ∀ L5 L6, VV g x M 0 0 12 [some (.ref a), some (.int (nI r)), some (.int (nI c)), some (.int (nI p)), some (.int (nI i)), L5, L6] [] := by
      intro n
      induction n with
      | zero =>
        intro i hin hno L5 L6
        refine v_iload C 14 dXT_covers_12 rfl rfl ?_
        refine v_iload_n C 15 dXT_covers_14 rfl rfl ?_
        refine v_icmp_gt C 18 71 dXT_covers_15 rfl rfl (fun h9 => ?_) (fun h9 => False.elim (by first | exact h9 (nI_lt (show c < i by omega) (by omega)) | exact (nI_lt (show c < i by omega) (by omega)) h9))
        exact out (fun f l a1 a2 a3 => hno f l (by omega) a2 a3) _ _ _
      | succ n ih =>
        intro i hin hno L5 L6
        refine v_iload C 14 dXT_covers_12 rfl rfl ?_
        refine v_iload_n C 15 dXT_covers_14 rfl rfl ?_
        refine v_icmp_gt C 18 71 dXT_covers_15 rfl rfl (fun h9 => False.elim (by first | exact h9 (nI_nlt (show i ≤ c by omega) (by omega)) | exact (nI_nlt (show i ≤ c by omega) (by omega)) h9)) (fun h9 => ?_)
        refine v_iload_n C 19 dXT_covers_18 rfl rfl ?_
        refine v_istore C 21 _ dXT_covers_19 rfl (Nat.lt_of_lt_of_le (Nat.lt_succ_self _) (Nat.le_of_ble_eq_true rfl)) rfl ?_
        refine inner (8 - c) c i (by omega) (Nat.le_refl _) (by omega) (fun l a1 a2 => absurd a2 (by omega)) (fun hn5 L5 L6 => ?_) _
        refine v_iinc C 68 _ (nI (i + 1)) dXT_covers_65 rfl rfl (nI_1 i) rfl ?_
        refine v_goto C 12 dXT_covers_68 rfl ?_
        refine ih (i + 1) (by omega) (fun f l a1 a2 a3 => ?_) _ _
        by_cases hfi : f = i
        · rw [hfi]
          exact hn5 l a2 a3
        · exact hno f l (by omega) a2 a3
    refine v_iconst C 10 dXT_covers_9 rfl (nI 0) (by decide) ?_
    refine v_istore C 12 _ dXT_covers_10 rfl (Nat.lt_of_lt_of_le (Nat.lt_succ_self _) (Nat.le_of_ble_eq_true rfl)) rfl ?_
    exact outer (c + 1) 0 (by omega) (fun f l a1 => absurd a1 (Nat.not_lt_zero f)) _ _
  · refine v_iconst C 8 dXT_covers_7 rfl (nI 0) (by decide) ?_
    have hw0 : tb_w T = 0 := (nI_eq (a := tb_w T) (b := 0) (by omega) (by decide)).mp hw
    refine v_zret C E dXT_covers_8 (by omega) (by omega) (Or.inl rfl) ⟨_, rfl, rfl, (bI_f (bo_f.mpr (tb_c_0 h3 hw0))).symm⟩
set_option maxHeartbeats 4000000 in
set_option maxRecDepth 100000 in
theorem c_T_addWinners (g : gx_T) {F : Nat → Prop} {M : mp_M} {a sl tier b sl2 tier2 : Nat} {T U : tb_T} (h : cw_t g F M a sl tier T) (hU : cw_t g F M b sl2 tier2 U) (hab : b ≠ a) (hss : sl2 ≠ sl) : Ct g yXT_addWinners cXT_addWinners 3 none 3 [.ref a, .ref b] M (pv (fun M' => mp_k (fun y => y = a ∨ y = sl) M M' ∧ cw_t g F M' a sl tier (tb_m T U))) 0 0 := by
  refine ct_intro (L0 := [some (.ref a), some (.ref b), none]) (by decide) (Nat.le_of_ble_eq_true rfl) rfl rfl (fun x C E I => ?_)
  have hnE := nE_t h
  have hsa : sl2 ≠ a := by
    obtain ⟨-, -, -, b4, f2, b5, -⟩ := hU
    obtain ⟨-, -, -, c4, -⟩ := h
    exact fun z => ne_a c4 b5 z.symm
  have hbs : b ≠ sl := by
    obtain ⟨-, -, -, b4, -⟩ := hU
    obtain ⟨-, -, -, -, f1, c5, -⟩ := h
    exact ne_a b4 c5
  have loop : ∀ (n i : Nat) (M' : mp_M), i + n = 704 → mp_k (fun y => y = a ∨ y = sl) M M' → cw_t g F M' a sl tier (tb_mi T U i) → VV g x M' 0 0 2 [some (.ref a), some (.ref b), some (.int (nI i))] [] := by
    intro n
    induction n with
    | zero =>
      intro i M' hin hk ht
      have hi : i = 704 := by omega
      subst hi
      refine v_iload_n C 3 dXT_addWinners_2 rfl rfl ?_
      refine v_sipush C 6 dXT_addWinners_3 rfl (nI 704) (by decide) ?_
      refine v_icmp_ge C 9 34 dXT_addWinners_6 rfl rfl (fun h9 => ?_) (fun h9 => False.elim (by first | exact h9 (nI_le (Nat.le_refl 704) (by decide)) | exact (nI_le (Nat.le_refl 704) (by decide)) h9))
      refine v_vret C E dXT_addWinners_34 (by omega) (by omega) ⟨rfl, hk, by rw [← tb_mi_e h.2.2.1 hU.2.2.1]; exact ht⟩
    | succ n ih =>
      intro i M' hin hk ht
      obtain ⟨b1, b2, b3, b4, f2, b5, b6⟩ := hU.k hk hnE (fun z => z.elim hab hbs) (fun z => z.elim hsa hss)
      refine v_iload_n C 3 dXT_addWinners_2 rfl rfl ?_
      refine v_sipush C 6 dXT_addWinners_3 rfl (nI 704) (by decide) ?_
      refine v_icmp_ge C 9 34 dXT_addWinners_6 rfl rfl (fun h9 => False.elim (by first | exact h9 (nI_ge (show i < 704 by omega) (by decide)) | exact (nI_ge (show i < 704 by omega) (by decide)) h9)) (fun h9 => ?_)
      first | refine v_aload_n C 10 dXT_addWinners_9 rfl rfl ?_ | refine v_aload_nN C 10 dXT_addWinners_9 rfl rfl ?_ | refine v_aload_nQ C 10 dXT_addWinners_9 rfl rfl ?_
      refine gt_XT_17 C 13 dXT_addWinners_10 rfl b4 rfl ?_
      refine v_iload_n C 14 dXT_addWinners_13 rfl rfl ?_
      refine v_aald C 15 0 rfl dXT_addWinners_14 rfl b5 i rfl (by omega) (by decide) ?_
      refine v_ifnull C 18 28 dXT_addWinners_15 rfl rfl (fun hz => ?_) (fun q hq => ?_)
      · refine v_iinc C 31 _ (nI (i + 1)) dXT_addWinners_28 rfl rfl (nI_1 i) rfl ?_
        refine v_goto C 2 dXT_addWinners_31 rfl ?_
        refine ih (i + 1) M' (by omega) hk ?_
        rw [tb_mi_n]
        · exact ht
        · rcases b6 i (by omega) with ⟨-, z⟩ | ⟨q2, e2, g1, -⟩
          · exact z
          · rw [hz] at g1
            cases g1
      · rcases b6 i (by omega) with ⟨z, -⟩ | ⟨q2, e2, g1, g2, g3⟩
        · rw [hq] at z
          cases z
        · cases hq.symm.trans g1
          first | refine v_aload_n C 19 dXT_addWinners_18 rfl rfl ?_ | refine v_aload_nN C 19 dXT_addWinners_18 rfl rfl ?_ | refine v_aload_nQ C 19 dXT_addWinners_18 rfl rfl ?_
          first | refine v_aload_n C 20 dXT_addWinners_19 rfl rfl ?_ | refine v_aload_nN C 20 dXT_addWinners_19 rfl rfl ?_ | refine v_aload_nQ C 20 dXT_addWinners_19 rfl rfl ?_
          refine gt_XT_17 C 23 dXT_addWinners_20 rfl b4 rfl ?_
          refine v_iload_n C 24 dXT_addWinners_23 rfl rfl ?_
          refine v_aald C 25 0 rfl dXT_addWinners_24 rfl b5 i rfl (by omega) (by decide) ?_
          rw [hq]
          refine v_rv 28 (cl_XT_41 C ((c_T_addWinner g ht g3 (b3 _ _ g2).1)) ht.2.2.2.1 dXT_addWinners_25 rfl rfl (Nat.le_of_ble_eq_true rfl) (Nat.le_of_ble_eq_true rfl) (Nat.le_of_ble_eq_true rfl) (by omega) (by omega)) rfl (fun M2 hM2 => ?_)
          refine v_iinc C 31 _ (nI (i + 1)) dXT_addWinners_28 rfl rfl (nI_1 i) rfl ?_
          refine v_goto C 2 dXT_addWinners_31 rfl ?_
          refine ih (i + 1) M2 (by omega) (hk.tr hM2.1) ?_
          rw [← tb_mi_s g2 (b3 _ _ g2).2]
          exact hM2.2
  refine v_iconst C 1 dXT_addWinners_0 rfl (nI 0) (by decide) ?_
  refine v_istore_n C 2 _ dXT_addWinners_1 rfl (Nat.lt_of_lt_of_le (Nat.lt_succ_self _) (Nat.le_of_ble_eq_true rfl)) rfl ?_
  exact loop 704 0 M (by omega) mp_k.rf (by rw [tb_mi_0]; exact h)
set_option maxHeartbeats 4000000 in
set_option maxRecDepth 100000 in
theorem c_T_dropCovered (g : gx_T) {F : Nat → Prop} {M : mp_M} {a sl tier : Nat} {T : tb_T} (h : cw_t g F M a sl tier T) : Ct g yXT_dropCovered cXT_dropCovered 4 none 3 [.ref a] M (pv (fun M' => mp_k (fun y => y = a ∨ y = sl) M M' ∧ cw_t g F M' a sl tier (tb_d T))) 0 0 := by
  refine ct_intro (L0 := [some (.ref a), none, none, none]) (by decide) (Nat.le_of_ble_eq_true rfl) rfl rfl (fun x C E I => ?_)
  have inner : ∀ (n j i : Nat) (M' : mp_M), i < 16 → j + n = 8 → mp_k (fun y => y = a ∨ y = sl) M M' → cw_t g F M' a sl tier (tb_di T (i * 8 + j)) → (∀ M2 : mp_M, mp_k (fun y => y = a ∨ y = sl) M M2 → cw_t g F M2 a sl tier (tb_di T (i * 8 + 8)) → ∀ L2 L3, VV g x M2 0 0 51 [some (.ref a), some (.int (nI i)), L2, L3] []) → ∀ L3, VV g x M' 0 0 10 [some (.ref a), some (.int (nI i)), some (.int (nI j)), L3] [] := by
    intro n
    induction n with
    | zero =>
      intro j i M' hi hj hk ht kk L3
      have hj8 : j = 8 := by omega
      subst hj8
      refine v_iload_n C 11 dXT_dropCovered_10 rfl rfl ?_
      refine v_bipush C 13 dXT_dropCovered_11 rfl (nI 8) (by decide) ?_
      refine v_icmp_ge C 16 51 dXT_dropCovered_13 rfl rfl (fun h9 => ?_) (fun h9 => False.elim (by first | exact h9 (nI_le (Nat.le_refl 8) (by decide)) | exact (nI_le (Nat.le_refl 8) (by decide)) h9))
      exact kk M' hk ht _ _
    | succ n ih =>
      intro j i M' hi hj hk ht kk L3
      refine v_iload_n C 11 dXT_dropCovered_10 rfl rfl ?_
      refine v_bipush C 13 dXT_dropCovered_11 rfl (nI 8) (by decide) ?_
      refine v_icmp_ge C 16 51 dXT_dropCovered_13 rfl rfl (fun h9 => False.elim (by first | exact h9 (nI_ge (show j < 8 by omega) (by decide)) | exact (nI_ge (show j < 8 by omega) (by decide)) h9)) (fun h9 => ?_)
      first | refine v_aload_n C 17 dXT_dropCovered_16 rfl rfl ?_ | refine v_aload_nN C 17 dXT_dropCovered_16 rfl rfl ?_ | refine v_aload_nQ C 17 dXT_dropCovered_16 rfl rfl ?_
      refine v_iload_n C 18 dXT_dropCovered_17 rfl rfl ?_
      refine v_iload_n C 19 dXT_dropCovered_18 rfl rfl ?_
      refine v_rq 22 (cl_XT_52 C ((c_T_pointAt g i j hi (by omega) ht)) ht.2.2.2.1 dXT_dropCovered_19 rfl rfl (Nat.le_of_ble_eq_true rfl) (Nat.le_of_ble_eq_true rfl) (Nat.le_of_ble_eq_true rfl) (by omega) (by omega)) rfl (fun o M2 ho => ?_)
      obtain ⟨rfl, ho⟩ := ho
      first | refine v_astore_n C 23 _ dXT_dropCovered_22 rfl (Nat.lt_of_lt_of_le (Nat.lt_succ_self _) (Nat.le_of_ble_eq_true rfl)) rfl ?_ | refine v_astore_nN C 23 _ dXT_dropCovered_22 rfl (Nat.lt_of_lt_of_le (Nat.lt_succ_self _) (Nat.le_of_ble_eq_true rfl)) rfl ?_ | refine v_astore_nQ C 23 _ dXT_dropCovered_22 rfl (Nat.lt_of_lt_of_le (Nat.lt_succ_self _) (Nat.le_of_ble_eq_true rfl)) rfl ?_
      first | refine v_aload_n C 24 dXT_dropCovered_23 rfl rfl ?_ | refine v_aload_nN C 24 dXT_dropCovered_23 rfl rfl ?_ | refine v_aload_nQ C 24 dXT_dropCovered_23 rfl rfl ?_
      have nxt : ∀ M2 : mp_M, mp_k (fun y => y = a ∨ y = sl) M M2 → cw_t g F M2 a sl tier (tb_di T (i * 8 + (j + 1))) → ∀ L3, VV g x M2 0 0 45 [some (.ref a), some (.int (nI i)), some (.int (nI j)), L3] [] := by
        intro M2 hk2 ht2 L3
        refine v_iinc C 48 _ (nI (j + 1)) dXT_dropCovered_45 rfl rfl (nI_1 j) rfl ?_
        refine v_goto C 10 dXT_dropCovered_48 rfl ?_
        exact ih (j + 1) i M2 hi (by omega) hk2 ht2 kk _
      have hcur : tb_di T (i * 8 + j) (i * 8 + j) = T (i * 8 + j) := tb_di_i
      refine v_ifnull C 27 45 dXT_dropCovered_24 rfl rfl (fun hz => ?_) (fun q hq => ?_)
      · refine nxt M' hk ?_ _
        rw [← Nat.add_assoc, tb_di_n]
        · exact ht
        · rcases ho with ⟨-, z⟩ | ⟨q2, e2, g1, -⟩
          · rw [hcur] at z
            unfold tb_d
            rw [z]
          · rw [hz] at g1
            cases g1
      · rcases ho with ⟨z, -⟩ | ⟨q2, e2, g1, g2, g3⟩
        · rw [hq] at z
          cases z
        · cases hq.symm.trans g1
          rw [hq]
          rw [hcur] at g2
          obtain ⟨ok2, s2⟩ := h.2.2.1 _ _ g2
          have hk2 : en_k e2 ≠ 2 := (en_s_128 ok2).mp (by omega)
          have hrc : en_r e2 = i ∧ en_c e2 = j := by
            rw [en_s_p hk2] at s2
            have l2 := ok2.2.2.2.2.1 hk2
            have l3 := ok2.2.2.2.1
            have l4 := ok2.2.2.1
            omega
          first | refine v_aload_n C 28 dXT_dropCovered_27 rfl rfl ?_ | refine v_aload_nN C 28 dXT_dropCovered_27 rfl rfl ?_ | refine v_aload_nQ C 28 dXT_dropCovered_27 rfl rfl ?_
          refine v_iload_n C 29 dXT_dropCovered_28 rfl rfl ?_
          refine v_iload_n C 30 dXT_dropCovered_29 rfl rfl ?_
          first | refine v_aload_n C 31 dXT_dropCovered_30 rfl rfl ?_ | refine v_aload_nN C 31 dXT_dropCovered_30 rfl rfl ?_ | refine v_aload_nQ C 31 dXT_dropCovered_30 rfl rfl ?_
          refine gt_XT_49 C 34 dXT_dropCovered_31 rfl g3.2 rfl ?_
          refine v_ri 37 (cl_XT_56 C ((c_T_covers g i j (en_p e2) hi (by omega) ok2.2.2.2.2.2.1 ht)) ht.2.2.2.1 dXT_dropCovered_34 rfl rfl (Nat.le_of_ble_eq_true rfl) (Nat.le_of_ble_eq_true rfl) (Nat.le_of_ble_eq_true rfl) (by omega) (by omega)) rfl (fun v M2 hv => ?_)
          obtain ⟨rfl, rfl⟩ := hv
          refine v_if_eq C 40 45 dXT_dropCovered_37 rfl rfl (fun hv => ?_) (fun hv => ?_)
          · refine nxt M' hk ?_ _
            rw [bI_0, bo_f, tb_di_c] at hv
            rw [← Nat.add_assoc, tb_di_n]
            · exact ht
            · unfold tb_d
              rw [g2]
              simp only
              rw [if_neg]
              intro z
              have z2 := (bo_t.mp z).2
              rw [hrc.1, hrc.2] at z2
              exact hv z2
          · first | refine v_aload_n C 41 dXT_dropCovered_40 rfl rfl ?_ | refine v_aload_nN C 41 dXT_dropCovered_40 rfl rfl ?_ | refine v_aload_nQ C 41 dXT_dropCovered_40 rfl rfl ?_
            first | refine v_aload_n C 42 dXT_dropCovered_41 rfl rfl ?_ | refine v_aload_nN C 42 dXT_dropCovered_41 rfl rfl ?_ | refine v_aload_nQ C 42 dXT_dropCovered_41 rfl rfl ?_
            refine v_rv 45 (cl_XT_60 C ((c_T_dropEntry g ht g3 (by rw [s2, hcur]; exact g2))) ht.2.2.2.1 dXT_dropCovered_42 rfl rfl (Nat.le_of_ble_eq_true rfl) (Nat.le_of_ble_eq_true rfl) (Nat.le_of_ble_eq_true rfl) (by omega) (by omega)) rfl (fun M2 hM2 => ?_)
            refine nxt M2 (hk.tr hM2.1) ?_ _
            have hv2 : tb_c T i j (en_p e2) := by
              have : ¬ bo (tb_c (tb_di T (i * 8 + j)) i j (en_p e2)) = false := fun z => hv (bI_0.mpr z)
              rw [bo_f, tb_di_c] at this
              exact Classical.byContradiction this
            rw [← Nat.add_assoc, ← tb_di_d]
            · rw [← s2]
              rw [← s2] at hM2
              exact hM2.2
            · unfold tb_d
              rw [g2]
              simp only
              rw [if_pos (bo_t.mpr ⟨hk2, by rw [hrc.1, hrc.2]; exact hv2⟩)]
  have outer : ∀ (n i : Nat) (M' : mp_M), i + n = 16 → mp_k (fun y => y = a ∨ y = sl) M M' → cw_t g F M' a sl tier (tb_di T (i * 8)) → ∀ L2 L3, VV g x M' 0 0 2 [some (.ref a), some (.int (nI i)), L2, L3] [] := by
    intro n
    induction n with
    | zero =>
      intro i M' hin hk ht L2 L3
      have hi : i = 16 := by omega
      subst hi
      refine v_iload_n C 3 dXT_dropCovered_2 rfl rfl ?_
      refine v_bipush C 5 dXT_dropCovered_3 rfl (nI 16) (by decide) ?_
      refine v_icmp_ge C 8 57 dXT_dropCovered_5 rfl rfl (fun h9 => ?_) (fun h9 => False.elim (by first | exact h9 (nI_le (Nat.le_refl 16) (by decide)) | exact (nI_le (Nat.le_refl 16) (by decide)) h9))
      refine v_vret C E dXT_dropCovered_57 (by omega) (by omega) ⟨rfl, hk, by rw [← tb_di_e h.2.2.1]; exact ht⟩
    | succ n ih =>
      intro i M' hin hk ht L2 L3
      refine v_iload_n C 3 dXT_dropCovered_2 rfl rfl ?_
      refine v_bipush C 5 dXT_dropCovered_3 rfl (nI 16) (by decide) ?_
      refine v_icmp_ge C 8 57 dXT_dropCovered_5 rfl rfl (fun h9 => False.elim (by first | exact h9 (nI_ge (show i < 16 by omega) (by decide)) | exact (nI_ge (show i < 16 by omega) (by decide)) h9)) (fun h9 => ?_)
      refine v_iconst C 9 dXT_dropCovered_8 rfl (nI 0) (by decide) ?_
      refine v_istore_n C 10 _ dXT_dropCovered_9 rfl (Nat.lt_of_lt_of_le (Nat.lt_succ_self _) (Nat.le_of_ble_eq_true rfl)) rfl ?_
      refine inner 8 0 i M' (by omega) (by omega) hk (by rw [Nat.add_zero]; exact ht) (fun M2 hk2 ht2 L2 L3 => ?_) _
      refine v_iinc C 54 _ (nI (i + 1)) dXT_dropCovered_51 rfl rfl (nI_1 i) rfl ?_
      refine v_goto C 2 dXT_dropCovered_54 rfl ?_
      exact ih (i + 1) M2 (by omega) hk2 (by rw [show (i + 1) * 8 = i * 8 + 8 by omega]; exact ht2) _ _
  refine v_iconst C 1 dXT_dropCovered_0 rfl (nI 0) (by decide) ?_
  refine v_istore_n C 2 _ dXT_dropCovered_1 rfl (Nat.lt_of_lt_of_le (Nat.lt_succ_self _) (Nat.le_of_ble_eq_true rfl)) rfl ?_
  exact outer 16 0 M (by omega) mp_k.rf (by rw [Nat.zero_mul, tb_di_0]; exact h) _ _
set_option maxHeartbeats 4000000 in
set_option maxRecDepth 100000 in
theorem c_T_dropOld (g : gx_T) {F : Nat → Prop} {M : mp_M} {a sl tier : Nat} {T : tb_T} (now grace : Nat) (hnow : now ≤ 100000) (hgr : grace ≤ 100) (h : cw_t g F M a sl tier T) : Ct g yXT_dropOld cXT_dropOld 5 none 3 [.ref a, .int (nI now), .int (nI grace)] M (pv (fun M' => mp_k (fun y => y = a ∨ y = sl) M M' ∧ cw_t g F M' a sl tier (tb_o now grace T))) 0 0 := by
  refine ct_intro (L0 := [some (.ref a), some (.int (nI now)), some (.int (nI grace)), none, none]) (by decide) (Nat.le_of_ble_eq_true rfl) rfl rfl (fun x C E I => ?_)
  have loop : ∀ (n i : Nat) (M' : mp_M), i + n = 704 → mp_k (fun y => y = a ∨ y = sl) M M' → cw_t g F M' a sl tier (tb_oi now grace T i) → ∀ L4, VV g x M' 0 0 2 [some (.ref a), some (.int (nI now)), some (.int (nI grace)), some (.int (nI i)), L4] [] := by
    intro n
    induction n with
    | zero =>
      intro i M' hin hk ht L4
      have hi : i = 704 := by omega
      subst hi
      refine v_iload_n C 3 dXT_dropOld_2 rfl rfl ?_
      refine v_sipush C 6 dXT_dropOld_3 rfl (nI 704) (by decide) ?_
      refine v_icmp_ge C 9 45 dXT_dropOld_6 rfl rfl (fun h9 => ?_) (fun h9 => False.elim (by first | exact h9 (nI_le (Nat.le_refl 704) (by decide)) | exact (nI_le (Nat.le_refl 704) (by decide)) h9))
      refine v_vret C E dXT_dropOld_45 (by omega) (by omega) ⟨rfl, hk, by rw [← tb_oi_e h.2.2.1]; exact ht⟩
    | succ n ih =>
      intro i M' hin hk ht L4
      have hcur : tb_oi now grace T i i = T i := tb_oi_i
      have nxt : ∀ M2 : mp_M, mp_k (fun y => y = a ∨ y = sl) M M2 → cw_t g F M2 a sl tier (tb_oi now grace T (i + 1)) → ∀ L4, VV g x M2 0 0 39 [some (.ref a), some (.int (nI now)), some (.int (nI grace)), some (.int (nI i)), L4] [] := by
        intro M2 hk2 ht2 L4
        refine v_iinc C 42 _ (nI (i + 1)) dXT_dropOld_39 rfl rfl (nI_1 i) rfl ?_
        refine v_goto C 2 dXT_dropOld_42 rfl ?_
        exact ih (i + 1) M2 (by omega) hk2 ht2 _
      obtain ⟨b1, b2, b3, b4, f2, b5, b6⟩ := id ht
      refine v_iload_n C 3 dXT_dropOld_2 rfl rfl ?_
      refine v_sipush C 6 dXT_dropOld_3 rfl (nI 704) (by decide) ?_
      refine v_icmp_ge C 9 45 dXT_dropOld_6 rfl rfl (fun h9 => False.elim (by first | exact h9 (nI_ge (show i < 704 by omega) (by decide)) | exact (nI_ge (show i < 704 by omega) (by decide)) h9)) (fun h9 => ?_)
      first | refine v_aload_n C 10 dXT_dropOld_9 rfl rfl ?_ | refine v_aload_nN C 10 dXT_dropOld_9 rfl rfl ?_ | refine v_aload_nQ C 10 dXT_dropOld_9 rfl rfl ?_
      refine gt_XT_17 C 13 dXT_dropOld_10 rfl b4 rfl ?_
      refine v_iload_n C 14 dXT_dropOld_13 rfl rfl ?_
      refine v_aald C 15 0 rfl dXT_dropOld_14 rfl b5 i rfl (by omega) (by decide) ?_
      first | refine v_astore C 17 _ dXT_dropOld_15 rfl (Nat.lt_of_lt_of_le (Nat.lt_succ_self _) (Nat.le_of_ble_eq_true rfl)) rfl ?_ | refine v_astoreN C 17 _ dXT_dropOld_15 rfl (Nat.lt_of_lt_of_le (Nat.lt_succ_self _) (Nat.le_of_ble_eq_true rfl)) rfl ?_ | refine v_astoreQ C 17 _ dXT_dropOld_15 rfl (Nat.lt_of_lt_of_le (Nat.lt_succ_self _) (Nat.le_of_ble_eq_true rfl)) rfl ?_
      first | refine v_aload C 19 dXT_dropOld_17 rfl rfl ?_ | refine v_aloadN C 19 dXT_dropOld_17 rfl rfl ?_ | refine v_aloadQ C 19 dXT_dropOld_17 rfl rfl ?_
      refine v_ifnull C 22 39 dXT_dropOld_19 rfl rfl (fun hz => ?_) (fun q hq => ?_)
      · refine nxt M' hk ?_ _
        rw [tb_oi_n]
        · exact ht
        · rcases b6 i (by omega) with ⟨-, z⟩ | ⟨q2, e2, g1, -⟩
          · rw [hcur] at z
            unfold tb_o
            rw [z]
          · rw [hz] at g1
            cases g1
      · rcases b6 i (by omega) with ⟨z, -⟩ | ⟨q2, e2, g1, g2, g3⟩
        · rw [hq] at z
          cases z
        · cases hq.symm.trans g1
          rw [hq]
          have g2' := g2
          rw [hcur] at g2'
          obtain ⟨ok2, s2⟩ := h.2.2.1 _ _ g2'
          refine v_iload_n C 23 dXT_dropOld_22 rfl rfl ?_
          first | refine v_aload C 25 dXT_dropOld_23 rfl rfl ?_ | refine v_aloadN C 25 dXT_dropOld_23 rfl rfl ?_ | refine v_aloadQ C 25 dXT_dropOld_23 rfl rfl ?_
          refine gt_XT_63 C 28 dXT_dropOld_25 rfl g3.2 rfl ?_
          refine v_isub C 29 dXT_dropOld_28 rfl ?_
          refine v_iload_n C 30 dXT_dropOld_29 rfl rfl ?_
          have key := old_iff (now := now) (t := en_t e2) (grace := grace) hnow (by have := ok2.2.2.2.2.2.2.2; omega) hgr
          refine v_icmp_lt C 33 39 dXT_dropOld_30 rfl rfl (fun hv => ?_) (fun hv => ?_)
          · refine nxt M' hk ?_ _
            rw [tb_oi_n]
            · exact ht
            · unfold tb_o
              rw [g2']
              simp only
              rw [if_neg (key.mp hv)]
          · first | refine v_aload_n C 34 dXT_dropOld_33 rfl rfl ?_ | refine v_aload_nN C 34 dXT_dropOld_33 rfl rfl ?_ | refine v_aload_nQ C 34 dXT_dropOld_33 rfl rfl ?_
            first | refine v_aload C 36 dXT_dropOld_34 rfl rfl ?_ | refine v_aloadN C 36 dXT_dropOld_34 rfl rfl ?_ | refine v_aloadQ C 36 dXT_dropOld_34 rfl rfl ?_
            refine v_rv 39 (cl_XT_60 C ((c_T_dropEntry g ht g3 (by rw [s2]; exact g2))) ht.2.2.2.1 dXT_dropOld_36 rfl rfl (Nat.le_of_ble_eq_true rfl) (Nat.le_of_ble_eq_true rfl) (Nat.le_of_ble_eq_true rfl) (by omega) (by omega)) rfl (fun M2 hM2 => ?_)
            refine nxt M2 (hk.tr hM2.1) ?_ _
            rw [← tb_oi_d]
            · rw [s2] at hM2
              exact hM2.2
            · unfold tb_o
              rw [g2']
              simp only
              rw [if_pos (Classical.byContradiction fun z => hv (key.mpr z))]
  refine v_iconst C 1 dXT_dropOld_0 rfl (nI 0) (by decide) ?_
  refine v_istore_n C 2 _ dXT_dropOld_1 rfl (Nat.lt_of_lt_of_le (Nat.lt_succ_self _) (Nat.le_of_ble_eq_true rfl)) rfl ?_
  exact loop 704 0 M (by omega) mp_k.rf (by rw [tb_oi_0]; exact h) _
set_option maxHeartbeats 4000000 in
set_option maxRecDepth 100000 in
theorem c_T_clearSlots (g : gx_T) {F : Nat → Prop} {M : mp_M} {a sl tier : Nat} {T : tb_T} (h : cw_t g F M a sl tier T) : Ct g yXT_clearSlots cXT_clearSlots 2 none 1 [.ref a] M (pv (fun M' => mp_k (fun y => y = a ∨ y = sl) M M' ∧ cw_t g F M' a sl tier tb_0)) 0 0 := by
  refine ct_intro (L0 := [some (.ref a), none]) (by decide) (Nat.le_of_ble_eq_true rfl) rfl rfl (fun x C E I => ?_)
  obtain ⟨h1, h2, h3, h4, f, h5, h6⟩ := h
  have has : a ≠ sl := ne_a h4 h5
  have loop : ∀ (n i : Nat) (f' : Nat → Option Nat), i + n = 704 → (∀ s, s < i → f' s = none) → VV g x (mp_u M sl (ar_q (gx_E g) 704 f')) 0 0 2 [some (.ref a), some (.int (nI i))] [] := by
    intro n
    induction n with
    | zero =>
      intro i f' hin hf
      have hi : i = 704 := by omega
      subst hi
      refine v_iload_n C 3 dXT_clearSlots_2 rfl rfl ?_
      refine v_sipush C 6 dXT_clearSlots_3 rfl (nI 704) (by decide) ?_
      refine v_icmp_ge C 9 22 dXT_clearSlots_6 rfl rfl (fun h9 => ?_) (fun h9 => False.elim (by first | exact h9 (nI_le (Nat.le_refl 704) (by decide)) | exact (nI_le (Nat.le_refl 704) (by decide)) h9))
      first | refine v_aload_n C 23 dXT_clearSlots_22 rfl rfl ?_ | refine v_aload_nN C 23 dXT_clearSlots_22 rfl rfl ?_ | refine v_aload_nQ C 23 dXT_clearSlots_22 rfl rfl ?_
      refine v_iconst C 24 dXT_clearSlots_23 rfl (nI 0) (by decide) ?_
      refine pt_XT_21 C 27 dXT_clearSlots_24 rfl rfl rfl ((mp_un has).trans h4) (Nat.lt_of_lt_of_le (Nat.lt_succ_self _) (Nat.le_of_ble_eq_true rfl)) [.int (nI tier), .ref sl, .int (nI 0), .int (nI (tb_w T))] rfl ?_
      first | refine v_aload_n C 28 dXT_clearSlots_27 rfl rfl ?_ | refine v_aload_nN C 28 dXT_clearSlots_27 rfl rfl ?_ | refine v_aload_nQ C 28 dXT_clearSlots_27 rfl rfl ?_
      refine v_iconst C 29 dXT_clearSlots_28 rfl (nI 0) (by decide) ?_
      refine pt_XT_24 C 32 dXT_clearSlots_29 rfl rfl rfl mp_us (Nat.lt_of_lt_of_le (Nat.lt_succ_self _) (Nat.le_of_ble_eq_true rfl)) [.int (nI tier), .ref sl, .int (nI 0), .int (nI 0)] rfl ?_
      refine v_vret C E dXT_clearSlots_32 (by omega) (by omega) ⟨rfl, ?_, ?_⟩
      · rw [mp_uu]
        exact cw_t_kp
      · rw [mp_uu]
        have := cw_t_up (tier := tier) (T' := tb_0) (f' := f') h1 h2 h4 h5 tb_ok_0 (fun s hs => Or.inl ⟨hf s hs, rfl⟩)
        rw [ob_T0] at this
        exact this
    | succ n ih =>
      intro i f' hin hf
      refine v_iload_n C 3 dXT_clearSlots_2 rfl rfl ?_
      refine v_sipush C 6 dXT_clearSlots_3 rfl (nI 704) (by decide) ?_
      refine v_icmp_ge C 9 22 dXT_clearSlots_6 rfl rfl (fun h9 => False.elim (by first | exact h9 (nI_ge (show i < 704 by omega) (by decide)) | exact (nI_ge (show i < 704 by omega) (by decide)) h9)) (fun h9 => ?_)
      first | refine v_aload_n C 10 dXT_clearSlots_9 rfl rfl ?_ | refine v_aload_nN C 10 dXT_clearSlots_9 rfl rfl ?_ | refine v_aload_nQ C 10 dXT_clearSlots_9 rfl rfl ?_
      refine gt_XT_17 C 13 dXT_clearSlots_10 rfl ((mp_un has).trans h4) rfl ?_
      refine v_iload_n C 14 dXT_clearSlots_13 rfl rfl ?_
      refine v_null C 15 dXT_clearSlots_14 rfl ?_
      refine v_aastN C 16 0 rfl dXT_clearSlots_15 rfl mp_us i rfl (by omega) (by decide) ?_
      refine v_iinc C 19 _ (nI (i + 1)) dXT_clearSlots_16 rfl rfl (nI_1 i) rfl ?_
      refine v_goto C 2 dXT_clearSlots_19 rfl ?_
      rw [mp_uu]
      refine ih (i + 1) _ (by omega) (fun s hs => ?_)
      by_cases hsi : s = i
      · rw [hsi, va_up_self]
      · rw [va_up_ne _ _ hsi]
        exact hf s (by omega)
  refine v_iconst C 1 dXT_clearSlots_0 rfl (nI 0) (by decide) ?_
  refine v_istore_n C 2 _ dXT_clearSlots_1 rfl (Nat.lt_of_lt_of_le (Nat.lt_succ_self _) (Nat.le_of_ble_eq_true rfl)) rfl ?_
  have hM : mp_u M sl (ar_q (gx_E g) 704 f) = M := mp_same h5
  rw [← hM]
  exact loop 704 0 f (by omega) (fun s hs => absurd hs (Nat.not_lt_zero s))

