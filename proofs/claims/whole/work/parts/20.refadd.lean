theorem tb_n_a {T : tb_T} {e : en_E} (ok : en_ok e) : tb_n T ≤ tb_n (tb_a T e) ∧ tb_n (tb_a T e) ≤ tb_n T + 1 ∧ 0 < tb_n (tb_a T e) := by
  cases h : T (en_s e) with
  | none =>
    rw [tb_a_n h, tb_n_new (en_s_lt ok) h]
    omega
  | some f =>
    have hp : 0 < tb_n T := cn_pos (P := fun s => (T s).isSome) 704 (en_s_lt ok) (by show (T (en_s e)).isSome = true; rw [h]; rfl)
    cases hw : en_w e f with
    | true =>
      rw [tb_a_w h hw, tb_n_old h]
      omega
    | false =>
      rw [tb_a_l h hw]
      omega
theorem lw_new {f : Nat → Int32} {log : List en_E} {e : en_E} {f' : Nat → Int32} (h : lw f log) (ok : en_ok e) (he : rw_e f' (7 * log.length) e) (ho : ∀ j, j < 7 * log.length → f' j = f j) : lw f' (log ++ [e]) := by
  intro i e' h1
  by_cases hi : i < log.length
  · rw [List.getElem?_append_left hi] at h1
    obtain ⟨⟨a0, a1, a2, a3, a4, a5, a6⟩, b⟩ := h i e' h1
    exact ⟨⟨(ho _ (by omega)).trans a0, (ho _ (by omega)).trans a1, (ho _ (by omega)).trans a2, (ho _ (by omega)).trans a3, (ho _ (by omega)).trans a4, (ho _ (by omega)).trans a5, (ho _ (by omega)).trans a6⟩, b⟩
  · rw [List.getElem?_append_right (by omega)] at h1
    have hz : i - log.length < 1 := (List.getElem?_eq_some_iff.mp h1).1
    rw [show i - log.length = 0 by omega] at h1
    cases h1
    rw [show i = log.length by omega]
    exact ⟨he, ok⟩
def wr7 (f : Nat → Int32) (p : Nat) (a0 a1 a2 a3 a4 a5 a6 : Int32) : Nat → Int32 := upd (upd (upd (upd (upd (upd (upd f p a0) (p + 1) a1) (p + 2) a2) (p + 3) a3) (p + 4) a4) (p + 5) a5) (p + 6) a6
theorem wr7_e {f : Nat → Int32} {p : Nat} {e : en_E} : rw_e (wr7 f p (nI (en_k e)) (nI (en_r e)) (nI (en_c e)) (nI (en_l e)) (nI (en_p e)) (en_v e) (tw (en_t e))) p e := by
  unfold wr7
  refine ⟨?_, ?_, ?_, ?_, ?_, ?_, ?_⟩
  · rw [pk_un (by omega), pk_un (by omega), pk_un (by omega), pk_un (by omega), pk_un (by omega), pk_un (by omega), pk_us]
  · rw [pk_un (by omega), pk_un (by omega), pk_un (by omega), pk_un (by omega), pk_un (by omega), pk_us]
  · rw [pk_un (by omega), pk_un (by omega), pk_un (by omega), pk_un (by omega), pk_us]
  · rw [pk_un (by omega), pk_un (by omega), pk_un (by omega), pk_us]
  · rw [pk_un (by omega), pk_un (by omega), pk_us]
  · rw [pk_un (by omega), pk_us]
  · rw [pk_us]
theorem wr7_o {f : Nat → Int32} {p j : Nat} {a0 a1 a2 a3 a4 a5 a6 : Int32} (h : j < p) : wr7 f p a0 a1 a2 a3 a4 a5 a6 j = f j := by
  unfold wr7
  rw [pk_un (by omega), pk_un (by omega), pk_un (by omega), pk_un (by omega), pk_un (by omega), pk_un (by omega), pk_un (by omega)]
set_option maxHeartbeats 4000000 in
set_option maxRecDepth 100000 in
theorem c_M_add (g : gx_T) {M : mp_M} {b : Nat} {A : Nat → Nat} {S : st_S} {n1 n2 : Nat} (h0 : rw g M b A S n1 n2) (e : en_E) (ok : en_ok e) (hn1 : n1 < 520) (hrs : (st_runs S).length < 520) (hn2 : n2 + (st_runs S).length + 5 < 1000000) (hnow : st_now S ≤ 100000) (hgr : st_gr S ≤ 100) (hml : tb_n (st_mem S) ≤ (st_log S).length) (hok : tb_ok (st_mem S)) (hoks : ∀ k, k < (st_runs S).length → tb_ok (st_tb (st_runs S) k)) (hti : ∀ k, k < (st_runs S).length → st_ti (st_runs S) k < 1000000) (hcap : st_cap S ≤ 20) (hmc : tb_n (st_mem S) ≤ st_cap S) : Ct g yXM_add cXM_add 10 (some .boolean) 6 [.ref b, .int (nI (en_k e)), .int (nI (en_r e)), .int (nI (en_c e)), .int (nI (en_l e)), .int (nI (en_p e)), .int (en_v e), .int (tw (en_t e))] M (pi_ (fun r M' => r = nI 1 ∧ mp_k (ra_P b A) M M' ∧ rw g M' b A (st_a S e) (n1 + 1) (n2 + (st_runs S).length + 3))) 0 0 := by
  refine ct_intro (L0 := [some (.ref b), some (.int (nI (en_k e))), some (.int (nI (en_r e))), some (.int (nI (en_c e))), some (.int (nI (en_l e))), some (.int (nI (en_p e))), some (.int (en_v e)), some (.int (tw (en_t e))), none, none]) (by decide) (Nat.le_of_ble_eq_true rfl) rfl rfl (fun x C Rx I => ?_)
  obtain ⟨ml, el, ow, mk, marks, f, h, hl0, ht, hn, hl1, R, hb1, hb2⟩ := h0
  obtain ⟨na1, na2, na3⟩ := tb_n_a (T := st_mem S) ok
  have hA1 := h.2.1 1 (by decide)
  refine v_bipush C 2 dXM_add_0 rfl (nI 7) (by decide) ?_
  first | refine v_aload_n C 3 dXM_add_2 rfl rfl ?_ | refine v_aload_nN C 3 dXM_add_2 rfl rfl ?_ | refine v_aload_nQ C 3 dXM_add_2 rfl rfl ?_
  refine gt_XM_56 C 6 dXM_add_3 rfl h.1 rfl ?_
  refine v_imul C 7 dXM_add_6 rfl ?_
  refine v_top _ (.int (nI (7 * (st_log S).length))) (congrArg Value.int (pk_mul 7 _)) ?_
  refine v_istore C 9 _ dXM_add_7 rfl (Nat.lt_of_lt_of_le (Nat.lt_succ_self _) (Nat.le_of_ble_eq_true rfl)) rfl ?_
  first | refine v_aload_n C 10 dXM_add_9 rfl rfl ?_ | refine v_aload_nN C 10 dXM_add_9 rfl rfl ?_ | refine v_aload_nQ C 10 dXM_add_9 rfl rfl ?_
  refine gt_XM_13 C 13 dXM_add_10 rfl h.1 rfl ?_
  refine v_iload C 15 dXM_add_13 rfl rfl ?_
  refine v_iload_n C 16 dXM_add_15 rfl rfl ?_
  refine v_iast C 17 dXM_add_16 rfl hA1 (7 * (st_log S).length) rfl (show 7 * (st_log S).length < 3640 by omega) (ra_sz_lt 1) ?_
  have i1 := ra_up h 1 (by decide) (upd (f 1) (7 * (st_log S).length) (nI (en_k e)))
  first | refine v_aload_n C 18 dXM_add_17 rfl rfl ?_ | refine v_aload_nN C 18 dXM_add_17 rfl rfl ?_ | refine v_aload_nQ C 18 dXM_add_17 rfl rfl ?_
  refine gt_XM_13 C 21 dXM_add_18 rfl i1.1 rfl ?_
  refine v_iload C 23 dXM_add_21 rfl rfl ?_
  refine v_iconst C 24 dXM_add_23 rfl (nI 1) (by decide) ?_
  refine v_iadd C 25 dXM_add_24 rfl ?_
  refine v_iload_n C 26 dXM_add_25 rfl rfl ?_
  refine v_iast C 27 dXM_add_26 rfl mp_us (7 * (st_log S).length + 1) (nI_add _ 1) (show 7 * (st_log S).length + 1 < 3640 by omega) (ra_sz_lt 1) ?_
  rw [mp_uu]
  have i2 := ra_up h 1 (by decide) (upd (upd (f 1) (7 * (st_log S).length) (nI (en_k e))) (7 * (st_log S).length + 1) (nI (en_r e)))
  first | refine v_aload_n C 28 dXM_add_27 rfl rfl ?_ | refine v_aload_nN C 28 dXM_add_27 rfl rfl ?_ | refine v_aload_nQ C 28 dXM_add_27 rfl rfl ?_
  refine gt_XM_13 C 31 dXM_add_28 rfl i2.1 rfl ?_
  refine v_iload C 33 dXM_add_31 rfl rfl ?_
  refine v_iconst C 34 dXM_add_33 rfl (nI 2) (by decide) ?_
  refine v_iadd C 35 dXM_add_34 rfl ?_
  refine v_iload_n C 36 dXM_add_35 rfl rfl ?_
  refine v_iast C 37 dXM_add_36 rfl mp_us (7 * (st_log S).length + 2) (nI_add _ 2) (show 7 * (st_log S).length + 2 < 3640 by omega) (ra_sz_lt 1) ?_
  rw [mp_uu]
  have i3 := ra_up h 1 (by decide) (upd (upd (upd (f 1) (7 * (st_log S).length) (nI (en_k e))) (7 * (st_log S).length + 1) (nI (en_r e))) (7 * (st_log S).length + 2) (nI (en_c e)))
  first | refine v_aload_n C 38 dXM_add_37 rfl rfl ?_ | refine v_aload_nN C 38 dXM_add_37 rfl rfl ?_ | refine v_aload_nQ C 38 dXM_add_37 rfl rfl ?_
  refine gt_XM_13 C 41 dXM_add_38 rfl i3.1 rfl ?_
  refine v_iload C 43 dXM_add_41 rfl rfl ?_
  refine v_iconst C 44 dXM_add_43 rfl (nI 3) (by decide) ?_
  refine v_iadd C 45 dXM_add_44 rfl ?_
  refine v_iload C 47 dXM_add_45 rfl rfl ?_
  refine v_iast C 48 dXM_add_47 rfl mp_us (7 * (st_log S).length + 3) (nI_add _ 3) (show 7 * (st_log S).length + 3 < 3640 by omega) (ra_sz_lt 1) ?_
  rw [mp_uu]
  have i4 := ra_up h 1 (by decide) (upd (upd (upd (upd (f 1) (7 * (st_log S).length) (nI (en_k e))) (7 * (st_log S).length + 1) (nI (en_r e))) (7 * (st_log S).length + 2) (nI (en_c e))) (7 * (st_log S).length + 3) (nI (en_l e)))
  first | refine v_aload_n C 49 dXM_add_48 rfl rfl ?_ | refine v_aload_nN C 49 dXM_add_48 rfl rfl ?_ | refine v_aload_nQ C 49 dXM_add_48 rfl rfl ?_
  refine gt_XM_13 C 52 dXM_add_49 rfl i4.1 rfl ?_
  refine v_iload C 54 dXM_add_52 rfl rfl ?_
  refine v_iconst C 55 dXM_add_54 rfl (nI 4) (by decide) ?_
  refine v_iadd C 56 dXM_add_55 rfl ?_
  refine v_iload C 58 dXM_add_56 rfl rfl ?_
  refine v_iast C 59 dXM_add_58 rfl mp_us (7 * (st_log S).length + 4) (nI_add _ 4) (show 7 * (st_log S).length + 4 < 3640 by omega) (ra_sz_lt 1) ?_
  rw [mp_uu]
  have i5 := ra_up h 1 (by decide) (upd (upd (upd (upd (upd (f 1) (7 * (st_log S).length) (nI (en_k e))) (7 * (st_log S).length + 1) (nI (en_r e))) (7 * (st_log S).length + 2) (nI (en_c e))) (7 * (st_log S).length + 3) (nI (en_l e))) (7 * (st_log S).length + 4) (nI (en_p e)))
  first | refine v_aload_n C 60 dXM_add_59 rfl rfl ?_ | refine v_aload_nN C 60 dXM_add_59 rfl rfl ?_ | refine v_aload_nQ C 60 dXM_add_59 rfl rfl ?_
  refine gt_XM_13 C 63 dXM_add_60 rfl i5.1 rfl ?_
  refine v_iload C 65 dXM_add_63 rfl rfl ?_
  refine v_iconst C 66 dXM_add_65 rfl (nI 5) (by decide) ?_
  refine v_iadd C 67 dXM_add_66 rfl ?_
  refine v_iload C 69 dXM_add_67 rfl rfl ?_
  refine v_iast C 70 dXM_add_69 rfl mp_us (7 * (st_log S).length + 5) (nI_add _ 5) (show 7 * (st_log S).length + 5 < 3640 by omega) (ra_sz_lt 1) ?_
  rw [mp_uu]
  have i6 := ra_up h 1 (by decide) (upd (upd (upd (upd (upd (upd (f 1) (7 * (st_log S).length) (nI (en_k e))) (7 * (st_log S).length + 1) (nI (en_r e))) (7 * (st_log S).length + 2) (nI (en_c e))) (7 * (st_log S).length + 3) (nI (en_l e))) (7 * (st_log S).length + 4) (nI (en_p e))) (7 * (st_log S).length + 5) (en_v e))
  first | refine v_aload_n C 71 dXM_add_70 rfl rfl ?_ | refine v_aload_nN C 71 dXM_add_70 rfl rfl ?_ | refine v_aload_nQ C 71 dXM_add_70 rfl rfl ?_
  refine gt_XM_13 C 74 dXM_add_71 rfl i6.1 rfl ?_
  refine v_iload C 76 dXM_add_74 rfl rfl ?_
  refine v_bipush C 78 dXM_add_76 rfl (nI 6) (by decide) ?_
  refine v_iadd C 79 dXM_add_78 rfl ?_
  refine v_iload C 81 dXM_add_79 rfl rfl ?_
  refine v_iast C 82 dXM_add_81 rfl mp_us (7 * (st_log S).length + 6) (nI_add _ 6) (show 7 * (st_log S).length + 6 < 3640 by omega) (ra_sz_lt 1) ?_
  rw [mp_uu]
  have i7 := ra_up h 1 (by decide) (wr7 (f 1) (7 * (st_log S).length) (nI (en_k e)) (nI (en_r e)) (nI (en_c e)) (nI (en_l e)) (nI (en_p e)) (en_v e) (tw (en_t e)))
  first | refine v_aload_n C 83 dXM_add_82 rfl rfl ?_ | refine v_aload_nN C 83 dXM_add_82 rfl rfl ?_ | refine v_aload_nQ C 83 dXM_add_82 rfl rfl ?_
  refine v_dup C 84 dXM_add_83 rfl rfl ?_
  refine gt_XM_56 C 87 dXM_add_84 rfl i7.1 rfl ?_
  refine v_iconst C 88 dXM_add_87 rfl (nI 1) (by decide) ?_
  refine v_iadd C 89 dXM_add_88 rfl ?_
  refine v_top _ (.int (nI ((st_log S).length + 1))) (congrArg Value.int (nI_add _ 1)) ?_
  refine pt_XM_56 C 92 dXM_add_89 rfl rfl rfl i7.1 (Nat.lt_of_lt_of_le (Nat.lt_succ_self _) (Nat.le_of_ble_eq_true rfl)) (ob_M A (st_cap S) (st_gr S) (st_now S) ml.length ((st_log S).length + 1) (st_safe S) el.length (st_runs S).length marks) rfl ?_
  have i8 := ra_put i7 (now' := st_now S) (mem' := ml.length) (logs' := (st_log S).length + 1) (safe' := st_safe S) (fl' := el.length) (runs' := (st_runs S).length) (marks' := marks)
  first | refine v_aload_n C 93 dXM_add_92 rfl rfl ?_ | refine v_aload_nN C 93 dXM_add_92 rfl rfl ?_ | refine v_aload_nQ C 93 dXM_add_92 rfl rfl ?_
  refine v_iload C 95 dXM_add_93 rfl rfl ?_
  refine v_rv 98 (cl_XM_59 C ((c_M_remember g i8 (by rw [va_up_ne _ _ (by decide)]; exact hl0) ht hok hn (st_log S).length (by omega) (by rw [va_up_self]; exact wr7_e) ok (by omega))) i8.1 dXM_add_95 rfl rfl (Nat.le_of_ble_eq_true rfl) (Nat.le_of_ble_eq_true rfl) (Nat.le_of_ble_eq_true rfl) (by omega) (by omega)) rfl (fun M2 hM2 => ?_)
  obtain ⟨ml', f0, hk2, h2, hl2, ht2, hn2'⟩ := hM2
  have hkk := (ra_ku (b := b) (A := A) (M := M) (i := 1) (by decide) (e := ar_i (gx_I g) (ra_sz 1) (wr7 (f 1) (7 * (st_log S).length) (nI (en_k e)) (nI (en_r e)) (nI (en_c e)) (nI (en_l e)) (nI (en_p e)) (en_v e) (tw (en_t e))))).tr (ra_kb.tr hk2)
  have hS1 : rw g M2 b A (st_cap S, st_gr S, st_now S, tb_a (st_mem S) e, st_log S ++ [e], st_safe S, st_runs S) (n1 + 1) n2 := by
    refine ⟨ml', el, ow, mk, marks, (va_up (va_up f 1 (wr7 (f 1) (7 * (st_log S).length) (nI (en_k e)) (nI (en_r e)) (nI (en_c e)) (nI (en_l e)) (nI (en_p e)) (en_v e) (tw (en_t e)))) 0 f0), ?_, ?_, ht2, hn2', ?_, ?_, ?_, hb2⟩
    · show ra_M g M2 b A (st_cap S) (st_gr S) (st_now S) ml'.length (st_log S ++ [e]).length (st_safe S) el.length (st_runs S).length marks _
      rw [List.length_append]
      exact h2
    · rw [va_up_self]
      exact hl2
    · rw [va_up_ne _ _ (by decide), va_up_self]
      exact lw_new hl1 ok wr7_e (fun j hj => wr7_o hj)
    · exact R
    · show el.length + (st_log S ++ [e]).length ≤ n1 + 1
      rw [List.length_append]
      show el.length + ((st_log S).length + 1) ≤ n1 + 1
      omega
  first | refine v_aload_n C 99 dXM_add_98 rfl rfl ?_ | refine v_aload_nN C 99 dXM_add_98 rfl rfl ?_ | refine v_aload_nQ C 99 dXM_add_98 rfl rfl ?_
  refine gt_XM_42 C 102 dXM_add_99 rfl h2.1 rfl ?_
  first | refine v_aload_n C 103 dXM_add_102 rfl rfl ?_ | refine v_aload_nN C 103 dXM_add_102 rfl rfl ?_ | refine v_aload_nQ C 103 dXM_add_102 rfl rfl ?_
  refine gt_XM_31 C 106 dXM_add_103 rfl h2.1 rfl ?_
  rw [hn2']
  refine v_icmp_le C 109 115 dXM_add_106 rfl rfl (fun hc => ?_) (fun hc => ?_)
  · rw [nI_leI (by omega) (by omega)] at hc
    refine v_iconst C 116 dXM_add_115 rfl (nI 1) (by decide) ?_
    have hs : st_a S e = (st_cap S, st_gr S, st_now S, tb_a (st_mem S) e, st_log S ++ [e], st_safe S, st_runs S) := if_neg (by omega)
    obtain ⟨ml9, el9, ow9, mk9, marks9, f9, q1, q2, q3, q4, q5, q6, q7, q8⟩ := hS1
    refine v_zret C Rx dXM_add_116 (by omega) (by omega) (Or.inr rfl) ⟨_, rfl, rfl, hkk, by rw [hs]; exact ⟨ml9, el9, ow9, mk9, marks9, f9, q1, q2, q3, q4, q5, q6, q7, by omega⟩⟩
  · rw [nI_leI (by omega) (by omega)] at hc
    have hs : st_a S e = st_f (st_cap S, st_gr S, st_now S, tb_a (st_mem S) e, st_log S ++ [e], st_safe S, st_runs S) := if_pos (by omega)
    first | refine v_aload_n C 110 dXM_add_109 rfl rfl ?_ | refine v_aload_nN C 110 dXM_add_109 rfl rfl ?_ | refine v_aload_nQ C 110 dXM_add_109 rfl rfl ?_
    refine v_ri 113 (cl_XM_63 C ((c_M_flushAll g hS1 (by omega) hrs hn2 hnow hgr (by show tb_n (tb_a (st_mem S) e) ≤ (st_log S ++ [e]).length; rw [List.length_append]; show _ ≤ (st_log S).length + 1; omega) (tb_ok_a hok ok) hoks hti (by show tb_n (tb_a (st_mem S) e) < 24; omega) (fun z => absurd z (by show tb_n (tb_a (st_mem S) e) ≠ 0; omega)))) h2.1 dXM_add_110 rfl rfl (Nat.le_of_ble_eq_true rfl) (Nat.le_of_ble_eq_true rfl) (Nat.le_of_ble_eq_true rfl) (by omega) (by omega)) rfl (fun v M3 hv => ?_)
    obtain ⟨rfl, hk3, hr3⟩ := hv
    refine v_istore C 115 _ dXM_add_113 rfl (Nat.lt_of_lt_of_le (Nat.lt_succ_self _) (Nat.le_of_ble_eq_true rfl)) rfl ?_
    refine v_iconst C 116 dXM_add_115 rfl (nI 1) (by decide) ?_
    refine v_zret C Rx dXM_add_116 (by omega) (by omega) (Or.inr rfl) ⟨_, rfl, rfl, hkk.tr hk3, by rw [hs]; exact hr3⟩

