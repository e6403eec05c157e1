theorem cw.new {g : gx_T} {F : Nat → Prop} {M M' : mp_M} {a : Nat} {S : st_S} (h : cw g F M a S) (K : mp_k (fun _ => False) M M') : cw g F M' a S := by
  obtain ⟨lg, rl, mm, ms, ps, lf, h1, h2, h3, h4, h5, h6, h7, h8, h9⟩ := h
  exact ⟨lg, rl, mm, ms, ps, lf, h1, K _ _ id h2, h3, K _ _ id h4, h5.k K nEF, h6.k K id (fun _ _ _ _ z => z), h7.k K nEF (fun _ _ => ⟨id, id⟩), h8.k K nEF id id, h9⟩
theorem cw_mem {g : gx_T} {F : Nat → Prop} {M M' : mp_M} {a : Nat} {cap gr now safe : Nat} {mem T : tb_T} {log : List en_E} {rs : st_R} {lg rl mm ms : Nat} {ps : List (Nat × Nat)} {lf : Nat → Option Nat} (hEO : gx_E g ≠ gx_O g) (h : cw_x g F M a (cap, gr, now, mem, log, safe, rs) lg rl mm ms ps lf) (K : mp_k (fun y => y = mm ∨ y = ms) M M') (ht : cw_t g F M' mm ms 0 T) : cw_x g F M' a (cap, gr, now, T, log, safe, rs) lg rl mm ms ps lf := by
  obtain ⟨h1, h2, h3, h4, h5, h6, h7, h8, h9⟩ := h
  have nn := nE_t h8
  obtain ⟨c1, c2, c3, c4, f, c5, c6⟩ := id h8
  obtain ⟨mc, ed, l1, l2, l3⟩ := id h6
  refine ⟨h1, K _ _ (fun z => z.elim (ne_o h2 c4 (by decide)) (ne_a h2 c5)) h2, h3, K _ _ (fun z => z.elim (fun z => ne_a c4 h4 z.symm) (fun z => ?_)) h4, h5.k K nn, h6.k K (fun z => z.elim (ne_o l2 c4 (by decide)) (ne_a l2 c5)) (fun q c f' hq z => z.elim (fun z => ne_a c4 hq z.symm) (fun z => ?_)), h7.k K nn (fun p hp => ?_), ht, h9⟩
  · rw [z, c5] at h4
    cases h4
  · rw [z, c5] at hq
    injection hq with hq
    injection hq with hq
    injection hq with hq
    exact hEO hq
  · obtain ⟨t, T', d1, d2, d3, d4, f', d5, d6⟩ := cw_r_tab h7 hp
    obtain ⟨i, hi⟩ := List.getElem?_of_mem hp
    have dd : ∀ q, p.1 = q ∨ p.2 = q → True := fun _ _ => trivial
    refine ⟨fun z => z.elim (fun z => ?_) (ne_a d4 c5), fun z => z.elim (fun z => ne_a c4 d5 z.symm) (fun z => ?_)⟩
    · have := h9 (i + 1) 0 p (mm, ms) (by rw [List.getElem?_cons_succ]; exact hi) rfl (Or.inl z)
      omega
    · have := h9 (i + 1) 0 p (mm, ms) (by rw [List.getElem?_cons_succ]; exact hi) rfl (Or.inr z)
      omega
theorem cw_log {g : gx_T} {F : Nat → Prop} {M : mp_M} {a q : Nat} {e : en_E} {cap gr now safe : Nat} {mem : tb_T} {log : List en_E} {rs : st_R} {lg rl mm ms : Nat} {ps : List (Nat × Nat)} {lf : Nat → Option Nat} (hEO : gx_E g ≠ gx_O g) (h : cw_x g F M a (cap, gr, now, mem, log, safe, rs) lg rl mm ms ps lf) (hq : cw_e F M q e) : cw_x g F (mp_u (mp_u M lg (ar_q (gx_E g) 512 (va_up lf log.length (some q)))) a (ob_S (cap, gr, now, mem, log ++ [e], safe, rs) lg rl mm)) a (cap, gr, now, mem, log ++ [e], safe, rs) lg rl mm ms ps (va_up lf log.length (some q)) ∧ cw_e F (mp_u (mp_u M lg (ar_q (gx_E g) 512 (va_up lf log.length (some q)))) a (ob_S (cap, gr, now, mem, log ++ [e], safe, rs) lg rl mm)) q e := by
  obtain ⟨h1, h2, h3, h4, h5, h6, h7, h8, h9⟩ := h
  have K : mp_k (fun y => y = lg) M (mp_u M lg (ar_q (gx_E g) 512 (va_up lf log.length (some q)))) := mp_k.up rfl
  have nn : nE (fun y => y = lg) M := by
    intro y fs hy
    rw [hy, h4]
    intro z
    cases z
  obtain ⟨mc, ed, l1, l2, l3⟩ := id h6
  have h2' := K _ _ (ne_a h2 h4) h2
  have hq' := hq.k K nn
  refine ⟨cw_mk (fs := _) h1 h2' h3 mp_us (fun i f hi => ?_) (h6.k K (ne_a l2 h4) (fun y c f hy z => ?_)) (h7.k K nn (fun p hp => ?_)) (h8.k K nn ?_ ?_) h9, hq'.1, (mp_un (ne_o hq'.2 h2' (by decide))).trans hq'.2⟩
  · rcases app_cas hi with z | ⟨z, z'⟩
    · have hl := (List.getElem?_eq_some_iff.mp z).1
      have hl2 : i < log.length := hl
      rw [va_up_ne _ _ (by omega)]
      exact (h5 i f z).imp (fun y hy => ⟨hy.1, hy.2.k K nn⟩)
    · have z2 : i = log.length := z
      rw [z2, va_up_self, z']
      exact ⟨q, rfl, hq'⟩
  · rw [z, h4] at hy
    injection hy with hy
    injection hy with hy
    injection hy with hy
    exact hEO hy
  · obtain ⟨t, T', d1, d2, d3, d4, f', d5, d6⟩ := cw_r_tab h7 hp
    refine ⟨ne_a d4 h4, fun z => ?_⟩
    rw [z, h4] at d5
    cases d5
  · exact ne_a h8.2.2.2.1 h4
  · obtain ⟨d1, d2, d3, d4, f', d5, d6⟩ := h8
    intro z
    rw [z, h4] at d5
    cases d5
def mg (S S' : st_S) : Nat := ((st_runs S).length + 1 - (st_runs S').length) / 2
theorem mg_f {S S0 : st_S} (h : st_runs S0 = st_runs S) : st_fm S0 ≤ mg S (st_f S0) := by
  have := st_fm_len S0
  unfold mg
  rw [h] at this
  omega
set_option maxHeartbeats 8000000 in
set_option maxHeartbeats 4000000 in
set_option maxRecDepth 100000 in
theorem c_S_addEntry (g : gx_T) {F : Nat → Prop} {M : mp_M} {a q : Nat} {S : st_S} {e : en_E} (h : cw g F M a S) (hq : cw_e F M q e) (he : en_ok e) (hF : ∀ q, F q → M q ≠ none) (hlog : (st_log S).length < 512) (hcap : st_cap S ≤ 20) (hrs : (st_runs S).length ≤ 550) (hti : ∀ k, k < (st_runs S).length → st_ti (st_runs S) k ≤ 400000) (hnow : st_now S ≤ 100000) (hgr : st_gr S ≤ 100) : Ct g yXS_addEntry cXS_addEntry 2 (some .boolean) 9 [.ref a, .ref q] M (pi_ (fun v M' => v = nI 1 ∧ mp_k (fun q => ¬ F q) M M' ∧ cw g F M' a (st_a S e))) (3 + 3 * mg S (st_a S e)) (1708 + 1708 * mg S (st_a S e)) := by
  refine ct_intro (L0 := [some (.ref a), some (.ref q)]) (by decide) (Nat.le_of_ble_eq_true rfl) rfl rfl (fun x C Rx I => ?_)
  obtain ⟨lg, rl, mm, ms, ps, lf, hx⟩ := id h
  obtain ⟨cap, gr, now, mem, log, safe, rs⟩ := S
  have hEO := EO_ne C
  replace hlog : log.length < 512 := hlog
  replace hcap : cap ≤ 20 := hcap
  obtain ⟨h1, h2, h3, h4, h5, h6, h7, h8, h9⟩ := id hx
  first | refine v_aload_n C 1 dXS_addEntry_0 rfl rfl ?_ | refine v_aload_nN C 1 dXS_addEntry_0 rfl rfl ?_ | refine v_aload_nQ C 1 dXS_addEntry_0 rfl rfl ?_
  refine gt_XS_47 C 4 dXS_addEntry_1 rfl h2 rfl ?_
  refine v_sipush C 7 dXS_addEntry_4 rfl (nI 512) (by decide) ?_
  refine v_icmp_lt C 10 12 dXS_addEntry_7 rfl rfl (fun h9 => ?_) (fun h9 => False.elim (by first | exact h9 ((nI_lt hlog (by decide))) | exact absurd h9 ((nI_lt hlog (by decide)))))
  first | refine v_aload_n C 13 dXS_addEntry_12 rfl rfl ?_ | refine v_aload_nN C 13 dXS_addEntry_12 rfl rfl ?_ | refine v_aload_nQ C 13 dXS_addEntry_12 rfl rfl ?_
  refine gt_XS_27 C 16 dXS_addEntry_13 rfl h2 rfl ?_
  first | refine v_aload_n C 17 dXS_addEntry_16 rfl rfl ?_ | refine v_aload_nN C 17 dXS_addEntry_16 rfl rfl ?_ | refine v_aload_nQ C 17 dXS_addEntry_16 rfl rfl ?_
  refine gt_XS_47 C 20 dXS_addEntry_17 rfl h2 rfl ?_
  first | refine v_aload_n C 21 dXS_addEntry_20 rfl rfl ?_ | refine v_aload_nN C 21 dXS_addEntry_20 rfl rfl ?_ | refine v_aload_nQ C 21 dXS_addEntry_20 rfl rfl ?_
  refine v_aast C 22 0 ci_E rfl rfl dXS_addEntry_21 rfl h4 hq.2 log.length rfl hlog (by decide) ?_
  have h2' : mp_u M lg (ar_q (gx_E g) 512 (va_up lf log.length (some q))) a = some (ob_S (cap, gr, now, mem, log, safe, rs) lg rl mm) := (mp_un (ne_a h2 h4)).trans h2
  first | refine v_aload_n C 23 dXS_addEntry_22 rfl rfl ?_ | refine v_aload_nN C 23 dXS_addEntry_22 rfl rfl ?_ | refine v_aload_nQ C 23 dXS_addEntry_22 rfl rfl ?_
  refine v_dup C 24 dXS_addEntry_23 rfl rfl ?_
  refine gt_XS_47 C 27 dXS_addEntry_24 rfl h2' rfl ?_
  refine v_iconst C 28 dXS_addEntry_27 rfl (nI 1) (by decide) ?_
  refine v_iadd C 29 dXS_addEntry_28 rfl ?_
  refine v_top _ (.int (nI (log ++ [e]).length)) (congrArg Value.int ((nI_add _ _).trans (by rw [List.length_append]; rfl))) ?_
  refine pt_XS_47 C 32 dXS_addEntry_29 rfl rfl rfl h2' (Nat.lt_of_lt_of_le (Nat.lt_succ_self _) (Nat.le_of_ble_eq_true rfl)) _ rfl ?_
  obtain ⟨hx2, hq2⟩ := cw_log hEO hx hq
  generalize hM2 : mp_u (mp_u M lg (ar_q (gx_E g) 512 (va_up lf log.length (some q)))) a (ob_S (cap, gr, now, mem, log ++ [e], safe, rs) lg rl mm) = M2 at hx2 hq2
  have K2 : mp_k (fun q => ¬ F q) M M2 := by
    rw [← hM2]
    exact mp_k.tr (P := fun q => ¬ F q) (mp_k.up h3) (mp_k.up h1)
  refine (show VV g x M2 _ _ 32 _ _ → VV g x (mp_u (mp_u M lg (ar_q (gx_E g) 512 (va_up lf log.length (some q)))) a (ob_S (cap, gr, now, mem, log ++ [e], safe, rs) lg rl mm)) _ _ 32 _ _ from fun z => by rw [hM2]; exact z) ?_
  obtain ⟨y1, y2, y3, y4, y5, y6, y7, y8, y9⟩ := id hx2
  first | refine v_aload_n C 33 dXS_addEntry_32 rfl rfl ?_ | refine v_aload_nN C 33 dXS_addEntry_32 rfl rfl ?_ | refine v_aload_nQ C 33 dXS_addEntry_32 rfl rfl ?_
  refine gt_XS_43 C 36 dXS_addEntry_33 rfl y2 rfl ?_
  first | refine v_aload_n C 37 dXS_addEntry_36 rfl rfl ?_ | refine v_aload_nN C 37 dXS_addEntry_36 rfl rfl ?_ | refine v_aload_nQ C 37 dXS_addEntry_36 rfl rfl ?_
  refine v_rv 40 (cl_XS_113 C ((c_T_addWinner g y8 hq2 he)) y8.2.2.2.1 dXS_addEntry_37 rfl rfl (Nat.le_of_ble_eq_true rfl) (Nat.le_of_ble_eq_true rfl) (Nat.le_of_ble_eq_true rfl) (by omega) (by omega)) rfl (fun M3 hM3 => ?_)
  obtain ⟨k3, t3⟩ := hM3
  have hx3 := cw_mem hEO hx2 k3 t3
  have hw3 : cw g F M3 a (cap, gr, now, tb_a mem e, log ++ [e], safe, rs) := ⟨_, _, _, _, _, _, hx3⟩
  have K3 : mp_k (fun q => ¬ F q) M M3 := mp_k.tr K2 (k3.mono (fun q hq => hq.elim (fun z => by rw [z]; exact y8.1) (fun z => by rw [z]; exact y8.2.1)))
  first | refine v_aload_n C 41 dXS_addEntry_40 rfl rfl ?_ | refine v_aload_nN C 41 dXS_addEntry_40 rfl rfl ?_ | refine v_aload_nQ C 41 dXS_addEntry_40 rfl rfl ?_
  refine gt_XS_43 C 44 dXS_addEntry_41 rfl hx3.2.1 rfl ?_
  refine gt_XS_92 C 47 dXS_addEntry_44 rfl t3.2.2.2.1 rfl ?_
  first | refine v_aload_n C 48 dXS_addEntry_47 rfl rfl ?_ | refine v_aload_nN C 48 dXS_addEntry_47 rfl rfl ?_ | refine v_aload_nQ C 48 dXS_addEntry_47 rfl rfl ?_
  refine gt_XS_18 C 51 dXS_addEntry_48 rfl hx3.2.1 rfl ?_
  have tn := tb_n_le (tb_a mem e)
  refine v_icmp_le C 54 58 dXS_addEntry_51 rfl rfl (fun q1 => ?_) (fun q1 => ?_)
  · have q2 : tb_n (tb_a mem e) ≤ cap := (nI_leI (by omega) (by omega)).mp q1
    refine v_iconst C 59 dXS_addEntry_58 rfl (nI 1) (by decide) ?_
    refine v_zret C Rx dXS_addEntry_59 (by omega) (by omega) (Or.inr rfl) ⟨_, rfl, rfl, K3, ?_⟩
    unfold st_a
    rw [if_neg (fun z => by have z' : cap < tb_n (tb_a mem e) := z; omega)]
    exact hw3
  · have q2 : cap < tb_n (tb_a mem e) := by
      by_cases z : cap < tb_n (tb_a mem e)
      · exact z
      · exact absurd (show nI (tb_n (tb_a mem e)) ≤ nI cap from (nI_leI (by omega) (by omega)).mpr (by omega)) q1
    have es : st_a (cap, gr, now, mem, log, safe, rs) e = st_f (cap, gr, now, tb_a mem e, log ++ [e], safe, rs) := by
      unfold st_a
      exact if_pos q2
    have hmg := mg_f (S := (cap, gr, now, mem, log, safe, rs)) (S0 := (cap, gr, now, tb_a mem e, log ++ [e], safe, rs)) rfl
    rw [← es] at hmg
    first | refine v_aload_n C 55 dXS_addEntry_54 rfl rfl ?_ | refine v_aload_nN C 55 dXS_addEntry_54 rfl rfl ?_ | refine v_aload_nQ C 55 dXS_addEntry_54 rfl rfl ?_
    refine v_rv 58 (cl_XS_95 C ((c_S_flushMemory g hw3 (F_k hF K3 (fun q hq z => z hq)) hrs hti hnow hgr)) hx3.2.1 dXS_addEntry_55 rfl rfl (Nat.le_of_ble_eq_true rfl) (Nat.le_of_ble_eq_true rfl) (Nat.le_of_ble_eq_true rfl) (by omega) (by omega)) rfl (fun M4 hM4 => ?_)
    obtain ⟨k4, w4⟩ := hM4
    refine v_iconst C 59 dXS_addEntry_58 rfl (nI 1) (by decide) ?_
    refine v_zret C Rx dXS_addEntry_59 (by omega) (by omega) (Or.inr rfl) ⟨_, rfl, rfl, K3.tr k4, ?_⟩
    rw [es]
    exact w4

