noncomputable def an_run (S : st_S) (k w : Int32) : Int32 := if 0 ≤ k.toInt ∧ k.toInt < (st_runs S).length ∧ 0 ≤ w.toInt ∧ w.toInt ≤ 2 then (if w = 0 then nI (tb_n (st_tb (st_runs S) k.toInt.toNat)) else if w = 1 then nI (st_ti (st_runs S) k.toInt.toNat) else nI (tb_w (st_tb (st_runs S) k.toInt.toNat))) else -1
theorem rw_seen {g : gx_T} {M : mp_M} {b : Nat} {A : Nat → Nat} {S : st_S} {n1 n2 : Nat} (h : rw g M b A S n1 n2) (f6 : Nat → Int32) : rw g (mp_u M (A 6) (ar_i (gx_I g) 7 f6)) b A S n1 n2 := by
  obtain ⟨ml, el, ow, mk, marks, f, q1, q2, q3, q4, q5, q6, q7, q8⟩ := h
  exact ⟨ml, el, ow, mk, marks, va_up f 6 f6, ra_up q1 6 (by decide) f6, q2, q3, q4, q5, q6, q7, q8⟩
theorem cn_s {P : Nat → Bool} {n : Nat} : cn P (n + 1) = cn P n + (if P n = true then 1 else 0) := rfl
set_option maxHeartbeats 4000000 in
set_option maxRecDepth 100000 in
theorem c_M_run (g : gx_T) {M : mp_M} {b : Nat} {A : Nat → Nat} {S : st_S} {n1 n2 : Nat} (h : rw g M b A S n1 n2) (hn1 : n1 ≤ 520) (hn2 : n2 < 1000000) (hrs : (st_runs S).length ≤ 520) (hoks : ∀ k, k < (st_runs S).length → tb_ok (st_tb (st_runs S) k)) (k w : Int32) : Ct g yXM_run cXM_run 5 (some .int) 2 [.ref b, .int k, .int w] M (pi_ (fun v M' => M = M' ∧ v = an_run S k w)) 0 0 := by
  refine ct_intro (L0 := [some (.ref b), some (.int k), some (.int w), none, none]) (by decide) (Nat.le_of_ble_eq_true rfl) rfl rfl (fun x C Rx I => ?_)
  obtain ⟨ml, el, ow, mk, marks, f, hra, hl0, ht, hn, hl1, R, hb1, hb2⟩ := h
  obtain ⟨R1, R2, R3, R4, R5, R6⟩ := id R
  have hA2 := hra.2.1 2 (by decide)
  have hA3 := hra.2.1 3 (by decide)
  have hA4 := hra.2.1 4 (by decide)
  have hA5 := hra.2.1 5 (by decide)
  have k2 : (nI 2).toInt = 2 := by decide
  have krs : (nI (st_runs S).length).toInt = (st_runs S).length := nI_toInt (by omega)
  have no : ¬ (0 ≤ k.toInt ∧ k.toInt < (st_runs S).length ∧ 0 ≤ w.toInt ∧ w.toInt ≤ 2) → VV g x M 0 0 21 [some (.ref b), some (.int k), some (.int w), none, none] [] := by
    intro hz
    refine v_iconst C 22 dXM_run_21 rfl (-1) (by decide) ?_
    refine v_iret C Rx dXM_run_22 (by omega) (by omega) ⟨_, rfl, rfl, (if_neg hz).symm⟩
  refine v_iload_n C 1 dXM_run_0 rfl rfl ?_
  refine v_if_lt C 4 21 dXM_run_1 rfl rfl (fun q1 => ?_) (fun q1 => ?_)
  · exact no (fun z => by rw [Int32.lt_iff_toInt_lt, i0] at q1; omega)
  · refine v_iload_n C 5 dXM_run_4 rfl rfl ?_
    first | refine v_aload_n C 6 dXM_run_5 rfl rfl ?_ | refine v_aload_nN C 6 dXM_run_5 rfl rfl ?_ | refine v_aload_nQ C 6 dXM_run_5 rfl rfl ?_
    refine gt_XM_88 C 9 dXM_run_6 rfl hra.1 rfl ?_
    refine v_icmp_ge C 12 21 dXM_run_9 rfl rfl (fun q2 => ?_) (fun q2 => ?_)
    · exact no (fun z => by rw [Int32.le_iff_toInt_le, krs] at q2; omega)
    · refine v_iload_n C 13 dXM_run_12 rfl rfl ?_
      refine v_if_lt C 16 21 dXM_run_13 rfl rfl (fun q3 => ?_) (fun q3 => ?_)
      · exact no (fun z => by rw [Int32.lt_iff_toInt_lt, i0] at q3; omega)
      · refine v_iload_n C 17 dXM_run_16 rfl rfl ?_
        refine v_iconst C 18 dXM_run_17 rfl (nI 2) (by decide) ?_
        refine v_icmp_le C 21 23 dXM_run_18 rfl rfl (fun q4 => ?_) (fun q4 => ?_)
        · rw [Int32.lt_iff_toInt_lt, i0] at q1 q3
          rw [Int32.le_iff_toInt_le, krs] at q2
          rw [Int32.le_iff_toInt_le, k2] at q4
          have hc : 0 ≤ k.toInt ∧ k.toInt < (st_runs S).length ∧ 0 ≤ w.toInt ∧ w.toInt ≤ 2 := ⟨by omega, by omega, by omega, by omega⟩
          obtain ⟨i, hi, hki⟩ : ∃ i : Nat, i < (st_runs S).length ∧ k = nI i := by
            obtain ⟨j, a1, rfl⟩ := nI_of (x := k) (by rw [Int32.lt_iff_toInt_lt, i0]; omega)
            rw [nI_toInt a1] at hc
            exact ⟨j, by omega, rfl⟩
          subst hki
          obtain ⟨m1, m2, m3, m4⟩ := R3 i hi
          have han : an_run S (nI i) w = (if w = 0 then nI (tb_n (st_tb (st_runs S) i)) else if w = 1 then nI (st_ti (st_runs S) i) else nI (tb_w (st_tb (st_runs S) i))) := by
            unfold an_run
            rw [if_pos hc, nI_tn (by omega)]
          have tot : cn (fun j => bo (ow j = mk i) && (decide (w = 0) || tb_i el[j]?)) el.length = if w = 0 then tb_n (st_tb (st_runs S) i) else tb_w (st_tb (st_runs S) i) := by
            by_cases hw : w = 0
            · rw [if_pos hw, ← tr_n (R6 i hi) (hoks i hi) (fun j e he => (R1 j e he).2)]
              refine cn_eq _ (fun j _ => ?_)
              rw [decide_eq_true hw]
              simp
            · rw [if_neg hw, ← tr_w (R6 i hi) (hoks i hi) (fun j e he => (R1 j e he).2)]
              refine cn_eq _ (fun j _ => ?_)
              rw [decide_eq_false hw]
              simp
          have loop : ∀ (n E : Nat), E + n = el.length → VV g x M 0 0 28 [some (.ref b), some (.int (nI i)), some (.int w), some (.int (nI (cn (fun j => bo (ow j = mk i) && (decide (w = 0) || tb_i el[j]?)) E))), some (.int (nI E))] [] := by
            intro n
            induction n with
            | zero =>
              intro E hE
              have hEl : E = el.length := by omega
              subst hEl
              refine v_iload C 30 dXM_run_28 rfl rfl ?_
              first | refine v_aload_n C 31 dXM_run_30 rfl rfl ?_ | refine v_aload_nN C 31 dXM_run_30 rfl rfl ?_ | refine v_aload_nQ C 31 dXM_run_30 rfl rfl ?_
              refine gt_XM_85 C 34 dXM_run_31 rfl hra.1 rfl ?_
              refine v_icmp_ge C 37 86 dXM_run_34 rfl rfl (fun h9 => ?_) (fun h9 => False.elim (by first | exact h9 (nI_le (Nat.le_refl el.length) (by omega)) | exact absurd h9 (nI_le (Nat.le_refl el.length) (by omega))))
              refine v_iload_n C 87 dXM_run_86 rfl rfl ?_
              refine v_iconst C 88 dXM_run_87 rfl (nI 1) (by decide) ?_
              refine v_icmp_ne C 91 100 dXM_run_88 rfl rfl (fun q5 => ?_) (fun q5 => ?_)
              · refine v_iload_n C 101 dXM_run_100 rfl rfl ?_
                refine v_iret C Rx dXM_run_101 (by omega) (by omega) ⟨_, rfl, rfl, ?_⟩
                rw [han, tot]
                by_cases hw : w = 0
                · rw [if_pos hw, if_pos hw]
                · rw [if_neg hw, if_neg hw, if_neg (show ¬ w = 1 from q5)]
              · first | refine v_aload_n C 92 dXM_run_91 rfl rfl ?_ | refine v_aload_nN C 92 dXM_run_91 rfl rfl ?_ | refine v_aload_nQ C 92 dXM_run_91 rfl rfl ?_
                refine gt_XM_25 C 95 dXM_run_92 rfl hra.1 rfl ?_
                refine v_iload_n C 96 dXM_run_95 rfl rfl ?_
                refine v_iald C 97 dXM_run_96 rfl hA5 i rfl (show i < 520 by omega) (ra_sz_lt 5) ?_
                rw [m4]
                refine v_goto C 101 dXM_run_97 rfl ?_
                have hw1 : w = 1 := q5
                refine v_iret C Rx dXM_run_101 (by omega) (by omega) ⟨_, rfl, rfl, ?_⟩
                rw [han, hw1, if_neg (by decide), if_pos rfl]
            | succ n ih =>
              intro E hE
              obtain ⟨e, he⟩ : ∃ e, el[E]? = some e := ⟨_, List.getElem?_eq_getElem (show E < el.length by omega)⟩
              obtain ⟨hwe, ok⟩ := R1 E e he
              obtain ⟨w1, w2⟩ := R2 E (by omega)
              have hcl := cn_le (fun j => bo (ow j = mk i) && (decide (w = 0) || tb_i el[j]?)) E
              have nxt : ∀ v : Int32, v = nI (cn (fun j => bo (ow j = mk i) && (decide (w = 0) || tb_i el[j]?)) (E + 1)) → VV g x M 0 0 79 [some (.ref b), some (.int (nI i)), some (.int w), some (.int (nI (cn (fun j => bo (ow j = mk i) && (decide (w = 0) || tb_i el[j]?)) E))), some (.int (nI E))] [.int v] := by
                intro v hv
                subst hv
                refine v_istore_n C 80 _ dXM_run_79 rfl (Nat.lt_of_lt_of_le (Nat.lt_succ_self _) (Nat.le_of_ble_eq_true rfl)) rfl ?_
                refine v_iinc C 83 _ (nI (E + 1)) dXM_run_80 rfl rfl (nI_1 E) rfl ?_
                refine v_goto C 28 dXM_run_83 rfl ?_
                exact ih (E + 1) (by omega)
              have skip : (bo (ow E = mk i) && (decide (w = 0) || tb_i el[E]?)) = false → VV g x M 0 0 78 [some (.ref b), some (.int (nI i)), some (.int w), some (.int (nI (cn (fun j => bo (ow j = mk i) && (decide (w = 0) || tb_i el[j]?)) E))), some (.int (nI E))] [] := by
                intro hz
                refine v_iload_n C 79 dXM_run_78 rfl rfl ?_
                refine nxt _ ?_
                rw [cn_s, if_neg (by rw [hz]; decide), Nat.add_zero]
              have take : (bo (ow E = mk i) && (decide (w = 0) || tb_i el[E]?)) = true → VV g x M 0 0 72 [some (.ref b), some (.int (nI i)), some (.int w), some (.int (nI (cn (fun j => bo (ow j = mk i) && (decide (w = 0) || tb_i el[j]?)) E))), some (.int (nI E))] [] := by
                intro hz
                refine v_iload_n C 73 dXM_run_72 rfl rfl ?_
                refine v_iconst C 74 dXM_run_73 rfl (nI 1) (by decide) ?_
                refine v_iadd C 75 dXM_run_74 rfl ?_
                refine v_goto C 79 dXM_run_75 rfl ?_
                refine nxt _ ?_
                rw [cn_s, if_pos hz, nI_add]
              refine v_iload C 30 dXM_run_28 rfl rfl ?_
              first | refine v_aload_n C 31 dXM_run_30 rfl rfl ?_ | refine v_aload_nN C 31 dXM_run_30 rfl rfl ?_ | refine v_aload_nQ C 31 dXM_run_30 rfl rfl ?_
              refine gt_XM_85 C 34 dXM_run_31 rfl hra.1 rfl ?_
              refine v_icmp_ge C 37 86 dXM_run_34 rfl rfl (fun h9 => False.elim (by first | exact h9 (nI_ge (show E < el.length by omega) (by omega)) | exact absurd h9 (nI_ge (show E < el.length by omega) (by omega)))) (fun h9 => ?_)
              first | refine v_aload_n C 38 dXM_run_37 rfl rfl ?_ | refine v_aload_nN C 38 dXM_run_37 rfl rfl ?_ | refine v_aload_nQ C 38 dXM_run_37 rfl rfl ?_
              refine gt_XM_19 C 41 dXM_run_38 rfl hra.1 rfl ?_
              refine v_iload C 43 dXM_run_41 rfl rfl ?_
              refine v_iald C 44 dXM_run_43 rfl hA3 E rfl (show E < 520 by omega) (ra_sz_lt 3) ?_
              rw [w1]
              first | refine v_aload_n C 45 dXM_run_44 rfl rfl ?_ | refine v_aload_nN C 45 dXM_run_44 rfl rfl ?_ | refine v_aload_nQ C 45 dXM_run_44 rfl rfl ?_
              refine gt_XM_22 C 48 dXM_run_45 rfl hra.1 rfl ?_
              refine v_iload_n C 49 dXM_run_48 rfl rfl ?_
              refine v_iald C 50 dXM_run_49 rfl hA4 i rfl (show i < 520 by omega) (ra_sz_lt 4) ?_
              rw [m1]
              refine v_icmp_ne C 53 78 dXM_run_50 rfl rfl (fun q5 => ?_) (fun q5 => ?_)
              · exact skip (by rw [bo_f.mpr (fun z => q5 (by rw [z]))]; rfl)
              · rw [nI_eq (by omega) (by omega)] at q5
                refine v_iload_n C 54 dXM_run_53 rfl rfl ?_
                refine v_if_eq C 57 72 dXM_run_54 rfl rfl (fun q6 => ?_) (fun q6 => ?_)
                · exact take (by rw [bo_t.mpr q5, decide_eq_true (show w = 0 from q6)]; rfl)
                · first | refine v_aload_n C 58 dXM_run_57 rfl rfl ?_ | refine v_aload_nN C 58 dXM_run_57 rfl rfl ?_ | refine v_aload_nQ C 58 dXM_run_57 rfl rfl ?_
                  refine gt_XM_16 C 61 dXM_run_58 rfl hra.1 rfl ?_
                  refine v_bipush C 63 dXM_run_61 rfl (nI 7) (by decide) ?_
                  refine v_iload C 65 dXM_run_63 rfl rfl ?_
                  refine v_imul C 66 dXM_run_65 rfl ?_
                  refine v_top _ (.int (nI (7 * E))) (congrArg Value.int (pk_mul 7 E)) ?_
                  refine v_ri 69 (cl_XM_38 C ((c_M_point g hA2 (ra_sz_lt 2) (show 7 * E < 3640 by omega) hwe ok)) dXM_run_66 rfl rfl (Nat.le_of_ble_eq_true rfl) (Nat.le_of_ble_eq_true rfl) (Nat.le_of_ble_eq_true rfl) (by omega) (by omega)) rfl (fun v M1 hv => ?_)
                  obtain ⟨rfl, rfl⟩ := hv
                  refine v_if_ne C 72 78 dXM_run_69 rfl rfl (fun q7 => ?_) (fun q7 => ?_)
                  · have hk : en_k e ≠ 2 := fun z => q7 (bI_f (decide_eq_false (fun y => y z)))
                    refine skip ?_
                    rw [decide_eq_false (show ¬ w = 0 from q6), he, tb_i_s, decide_eq_false hk]
                    cases bo (ow E = mk i) <;> rfl
                  · rw [bI_0] at q7
                    have hk : en_k e = 2 := Classical.byContradiction (of_decide_eq_false q7)
                    refine take ?_
                    rw [bo_t.mpr q5, he, tb_i_s, decide_eq_true hk]
                    cases decide (w = 0) <;> rfl
          refine v_iconst C 24 dXM_run_23 rfl (nI 0) (by decide) ?_
          refine v_istore_n C 25 _ dXM_run_24 rfl (Nat.lt_of_lt_of_le (Nat.lt_succ_self _) (Nat.le_of_ble_eq_true rfl)) rfl ?_
          refine v_iconst C 26 dXM_run_25 rfl (nI 0) (by decide) ?_
          refine v_istore C 28 _ dXM_run_26 rfl (Nat.lt_of_lt_of_le (Nat.lt_succ_self _) (Nat.le_of_ble_eq_true rfl)) rfl ?_
          exact loop el.length 0 (by omega)
        · exact no (fun z => by rw [Int32.le_iff_toInt_le, k2] at q4; omega)
noncomputable def an_me (S : st_S) : Int32 := if (st_runs S).length = 0 then 0 else nI (tb_n (st_tb (st_runs (st_me S)) 0))
theorem st_top_s {rs : st_R} {k : Nat} (h : k < rs.length) : st_top (rs.take (k + 1)) = max (st_top (rs.take k)) (st_ti rs k) := by
  unfold st_top st_ti
  rw [List.take_add_one, List.foldl_append, List.getElem?_eq_getElem h, List.getD_eq_getElem?_getD, List.getElem?_eq_getElem h]
  rfl
set_option maxHeartbeats 4000000 in
set_option maxRecDepth 100000 in
theorem c_M_merge (g : gx_T) {M : mp_M} {b : Nat} {A : Nat → Nat} {S : st_S} {n : Nat} (h : rp g M b A S n) (B : st_b S n) (hn : n < 512) : Ct g yXM_merge cXM_merge 3 (some .int) 5 [.ref b] M (pi_ (fun w M' => w = an_me S ∧ mp_k (ra_P b A) M M' ∧ rp g M' b A (st_me S) (n + 1))) 0 0 := by
  refine ct_intro (L0 := [some (.ref b), none, none]) (by decide) (Nat.le_of_ble_eq_true rfl) rfl rfl (fun x C Rx I => ?_)
  obtain ⟨h1, h2, h3, h4, h5, h6, h7, h8, h9, h10, h11, h12, h13, h14, h15⟩ := id B
  obtain ⟨ml, el, ow, mk, marks, f, hra, hl0, ht, hnn, hl1, R, hb1, hb2⟩ := id h
  have hA5 := hra.2.1 5 (by decide)
  first | refine v_aload_n C 1 dXM_merge_0 rfl rfl ?_ | refine v_aload_nN C 1 dXM_merge_0 rfl rfl ?_ | refine v_aload_nQ C 1 dXM_merge_0 rfl rfl ?_
  refine gt_XM_88 C 4 dXM_merge_1 rfl hra.1 rfl ?_
  refine v_if_ne C 7 9 dXM_merge_4 rfl rfl (fun q0 => ?_) (fun q0 => ?_)
  · have hne : (st_runs S).length ≠ 0 := fun z => q0 (by rw [z]; rfl)
    have hme : st_me S = (st_cap S, st_gr S, st_now S, st_mem S, st_log S, st_safe S, st_j (st_now S) (st_gr S) (st_runs S) 0 (st_top (st_runs S))) := if_neg hne
    have htop : ∀ k, st_top ((st_runs S).take k) ≤ 600 * n := by
      intro k
      refine st_top_le _ 0 _ (Nat.zero_le _) (fun r hr => ?_)
      obtain ⟨k', hk'⟩ := List.getElem?_of_mem (List.mem_of_mem_take hr)
      have hlt := (List.getElem?_eq_some_iff.mp hk').1
      have := h15 k' hlt
      unfold st_ti at this
      rw [List.getD_eq_getElem?_getD, hk'] at this
      exact this
    have loop : ∀ (m k : Nat), k + m = (st_runs S).length → VV g x M 0 0 13 [some (.ref b), some (.int (nI (st_top ((st_runs S).take k)))), some (.int (nI k))] [] := by
      intro m
      induction m with
      | zero =>
        intro k hk
        have hkl : k = (st_runs S).length := by omega
        subst hkl
        rw [List.take_length]
        refine v_iload_n C 14 dXM_merge_13 rfl rfl ?_
        first | refine v_aload_n C 15 dXM_merge_14 rfl rfl ?_ | refine v_aload_nN C 15 dXM_merge_14 rfl rfl ?_ | refine v_aload_nQ C 15 dXM_merge_14 rfl rfl ?_
        refine gt_XM_88 C 18 dXM_merge_15 rfl hra.1 rfl ?_
        refine v_icmp_ge C 21 48 dXM_merge_18 rfl rfl (fun h9 => ?_) (fun h9 => False.elim (by first | exact h9 (nI_le (Nat.le_refl (st_runs S).length) (by omega)) | exact absurd h9 (nI_le (Nat.le_refl (st_runs S).length) (by omega))))
        first | refine v_aload_n C 49 dXM_merge_48 rfl rfl ?_ | refine v_aload_nN C 49 dXM_merge_48 rfl rfl ?_ | refine v_aload_nQ C 49 dXM_merge_48 rfl rfl ?_
        first | refine v_aload_n C 50 dXM_merge_49 rfl rfl ?_ | refine v_aload_nN C 50 dXM_merge_49 rfl rfl ?_ | refine v_aload_nQ C 50 dXM_merge_49 rfl rfl ?_
        refine gt_XM_88 C 53 dXM_merge_50 rfl hra.1 rfl ?_
        refine v_iload_n C 54 dXM_merge_53 rfl rfl ?_
        refine v_rv 57 (cl_XM_94 C ((c_M_join g hra R 0 (st_runs S).length (st_top (st_runs S)) (by omega) (by omega) (by omega) (by omega) (by omega) (by omega) (by omega))) hra.1 dXM_merge_54 rfl rfl (Nat.le_of_ble_eq_true rfl) (Nat.le_of_ble_eq_true rfl) (Nat.le_of_ble_eq_true rfl) (by omega) (by omega)) rfl (fun M2 hM2 => ?_)
        obtain ⟨f3, f4, f5, hk2, hra2, e4, e5, hao⟩ := hM2
        subst e4 e5
        have hR2 := rl_join (tier := st_top (st_runs S)) R (show 0 < (st_runs S).length by omega) h4 hao
        have hlen : (st_j (st_now S) (st_gr S) (st_runs S) 0 (st_top (st_runs S))).length = 0 + 1 := st_j_len (Nat.zero_le _)
        have hr2 : rp g M2 b A (st_me S) (n + 1) := by
          rw [hme]
          exact ⟨ml, el, _, _, marks + 1, va_up (va_up (va_up f 4 (upd (f 4) 0 (nI (marks + 1)))) 5 (upd (f 5) 0 (nI (st_top (st_runs S))))) 3 f3, by show ra_M g M2 b A _ _ _ _ _ _ _ (st_j (st_now S) (st_gr S) (st_runs S) 0 (st_top (st_runs S))).length _ _; rw [hlen]; exact hra2, hl0, ht, hnn, hl1, hR2, by show el.length + (st_log S).length ≤ n + 1; omega, by omega⟩
        have B2 := st_b_me B hn
        first | refine v_aload_n C 58 dXM_merge_57 rfl rfl ?_ | refine v_aload_nN C 58 dXM_merge_57 rfl rfl ?_ | refine v_aload_nQ C 58 dXM_merge_57 rfl rfl ?_
        refine v_iconst C 59 dXM_merge_58 rfl (nI 0) (by decide) ?_
        refine v_iconst C 60 dXM_merge_59 rfl (nI 0) (by decide) ?_
        refine v_ri 63 (cl_XM_102 C ((c_M_run g hr2 (by omega) (by omega) (by have := B2.2.2.2.2.2.2.1; omega) B2.2.2.2.1 (nI 0) (nI 0))) hra2.1 dXM_merge_60 rfl rfl (Nat.le_of_ble_eq_true rfl) (Nat.le_of_ble_eq_true rfl) (Nat.le_of_ble_eq_true rfl) (by omega) (by omega)) rfl (fun v M3 hv => ?_)
        obtain ⟨rfl, rfl⟩ := hv
        refine v_iret C Rx dXM_merge_63 (by omega) (by omega) ⟨_, rfl, ?_, hk2, hr2⟩
        have hl1' : (st_runs (st_me S)).length = 1 := by
          rw [hme]
          exact hlen
        unfold an_run an_me
        rw [if_neg hne, if_pos ⟨by decide, by rw [hl1']; decide, by decide, by decide⟩, if_pos (show nI 0 = 0 from rfl), nI_tn (by decide)]
      | succ m ih =>
        intro k hk
        have hti := h15 k (by omega)
        have ht2 := htop k
        have tv : f 5 k = nI (st_ti (st_runs S) k) := (R.2.2.1 k (by omega)).2.2.2
        have nxt : ∀ v : Int32, v = nI (st_top ((st_runs S).take (k + 1))) → VV g x M 0 0 41 [some (.ref b), some (.int (nI (st_top ((st_runs S).take k)))), some (.int (nI k))] [.int v] := by
          intro v hv
          subst hv
          refine v_istore_n C 42 _ dXM_merge_41 rfl (Nat.lt_of_lt_of_le (Nat.lt_succ_self _) (Nat.le_of_ble_eq_true rfl)) rfl ?_
          refine v_iinc C 45 _ (nI (k + 1)) dXM_merge_42 rfl rfl (nI_1 k) rfl ?_
          refine v_goto C 13 dXM_merge_45 rfl ?_
          exact ih (k + 1) (by omega)
        refine v_iload_n C 14 dXM_merge_13 rfl rfl ?_
        first | refine v_aload_n C 15 dXM_merge_14 rfl rfl ?_ | refine v_aload_nN C 15 dXM_merge_14 rfl rfl ?_ | refine v_aload_nQ C 15 dXM_merge_14 rfl rfl ?_
        refine gt_XM_88 C 18 dXM_merge_15 rfl hra.1 rfl ?_
        refine v_icmp_ge C 21 48 dXM_merge_18 rfl rfl (fun h9 => False.elim (by first | exact h9 (nI_ge (show k < (st_runs S).length by omega) (by omega)) | exact absurd h9 (nI_ge (show k < (st_runs S).length by omega) (by omega)))) (fun h9 => ?_)
        first | refine v_aload_n C 22 dXM_merge_21 rfl rfl ?_ | refine v_aload_nN C 22 dXM_merge_21 rfl rfl ?_ | refine v_aload_nQ C 22 dXM_merge_21 rfl rfl ?_
        refine gt_XM_25 C 25 dXM_merge_22 rfl hra.1 rfl ?_
        refine v_iload_n C 26 dXM_merge_25 rfl rfl ?_
        refine v_iald C 27 dXM_merge_26 rfl hA5 k rfl (show k < 520 by omega) (ra_sz_lt 5) ?_
        rw [tv]
        refine v_iload_n C 28 dXM_merge_27 rfl rfl ?_
        refine v_icmp_le C 31 40 dXM_merge_28 rfl rfl (fun q1 => ?_) (fun q1 => ?_)
        · rw [nI_leI (by omega) (by omega)] at q1
          refine v_iload_n C 41 dXM_merge_40 rfl rfl ?_
          refine nxt _ ?_
          rw [st_top_s (by omega), Nat.max_eq_left q1]
        · rw [nI_leI (by omega) (by omega)] at q1
          first | refine v_aload_n C 32 dXM_merge_31 rfl rfl ?_ | refine v_aload_nN C 32 dXM_merge_31 rfl rfl ?_ | refine v_aload_nQ C 32 dXM_merge_31 rfl rfl ?_
          refine gt_XM_25 C 35 dXM_merge_32 rfl hra.1 rfl ?_
          refine v_iload_n C 36 dXM_merge_35 rfl rfl ?_
          refine v_iald C 37 dXM_merge_36 rfl hA5 k rfl (show k < 520 by omega) (ra_sz_lt 5) ?_
          rw [tv]
          refine v_goto C 41 dXM_merge_37 rfl ?_
          refine nxt _ ?_
          rw [st_top_s (by omega), Nat.max_eq_right (by omega)]
    refine v_iconst C 10 dXM_merge_9 rfl (nI 0) (by decide) ?_
    refine v_istore_n C 11 _ dXM_merge_10 rfl (Nat.lt_of_lt_of_le (Nat.lt_succ_self _) (Nat.le_of_ble_eq_true rfl)) rfl ?_
    refine v_iconst C 12 dXM_merge_11 rfl (nI 0) (by decide) ?_
    refine v_istore_n C 13 _ dXM_merge_12 rfl (Nat.lt_of_lt_of_le (Nat.lt_succ_self _) (Nat.le_of_ble_eq_true rfl)) rfl ?_
    exact loop (st_runs S).length 0 (by omega)
  · refine v_iconst C 8 dXM_merge_7 rfl (nI 0) (by decide) ?_
    have hz : (st_runs S).length = 0 := (nI_eq (a := (st_runs S).length) (b := 0) (by omega) (by decide)).mp q0
    have hme : st_me S = S := if_pos hz
    refine v_iret C Rx dXM_merge_8 (by omega) (by omega) ⟨_, rfl, (if_pos hz).symm, mp_k.rf, by rw [hme]; exact h.mono (by omega) (by omega)⟩

