def cw_r (g : gx_T) (F : Nat → Prop) (M : mp_M) (ps : List (Nat × Nat)) (rs : st_R) : Prop := ps.length = rs.length ∧ ∀ (i : Nat) (p : Nat × Nat) (t : Nat × tb_T), ps[i]? = some p → rs[i]? = some t → cw_t g F M p.1 p.2 t.1 t.2
def dj (ps : List (Nat × Nat)) : Prop := ∀ (i j : Nat) (p q : Nat × Nat), ps[i]? = some p → ps[j]? = some q → p.1 = q.1 ∨ p.2 = q.2 → i = j
def cw_g (F : Nat → Prop) (M : mp_M) (lf : Nat → Option Nat) (log : List en_E) : Prop := ∀ (i : Nat) (e : en_E), log[i]? = some e → ∃ q : Nat, lf i = some q ∧ cw_e F M q e
abbrev ob_S (S : st_S) (lg rl mm : Nat) : va_E := .inr (ci_S, [.int (nI (st_cap S)), .int (nI (st_gr S)), .ref lg, .ref rl, .ref mm, .int (nI (st_log S).length), .int (nI (st_safe S)), .int (nI (st_now S))])
def cw_x (g : gx_T) (F : Nat → Prop) (M : mp_M) (a : Nat) (S : st_S) (lg rl mm ms : Nat) (ps : List (Nat × Nat)) (lf : Nat → Option Nat) : Prop := ¬ F a ∧ M a = some (ob_S S lg rl mm) ∧ ¬ F lg ∧ M lg = some (ar_q (gx_E g) 512 lf) ∧ cw_g F M lf (st_log S) ∧ cw_l g F M rl (ps.map Prod.fst) ∧ cw_r g F M ps (st_runs S) ∧ cw_t g F M mm ms 0 (st_mem S) ∧ dj ((mm, ms) :: ps)
def cw (g : gx_T) (F : Nat → Prop) (M : mp_M) (a : Nat) (S : st_S) : Prop := ∃ (lg rl mm ms : Nat) (ps : List (Nat × Nat)) (lf : Nat → Option Nat), cw_x g F M a S lg rl mm ms ps lf
theorem cw_g.k {F P : Nat → Prop} {M M' : mp_M} {lf : Nat → Option Nat} {log : List en_E} (h : cw_g F M lf log) (hk : mp_k P M M') (hn : nE P M) : cw_g F M' lf log := fun i e hi => (h i e hi).imp (fun q hq => ⟨hq.1, hq.2.k hk hn⟩)
theorem cw_r.k {g : gx_T} {F P : Nat → Prop} {M M' : mp_M} {ps : List (Nat × Nat)} {rs : st_R} (h : cw_r g F M ps rs) (hk : mp_k P M M') (hn : nE P M) (hP : ∀ p, p ∈ ps → ¬ P p.1 ∧ ¬ P p.2) : cw_r g F M' ps rs := ⟨h.1, fun i p t hp ht => (h.2 i p t hp ht).k hk hn (hP p (List.mem_of_getElem? hp)).1 (hP p (List.mem_of_getElem? hp)).2⟩
theorem cw_r.at {g : gx_T} {F : Nat → Prop} {M : mp_M} {ps : List (Nat × Nat)} {rs : st_R} (h : cw_r g F M ps rs) {i : Nat} (hi : i < rs.length) : ∃ p : Nat × Nat, ps[i]? = some p ∧ (ps.map Prod.fst)[i]? = some p.1 ∧ cw_t g F M p.1 p.2 (st_ti rs i) (st_tb rs i) := by
  have h1 : i < ps.length := by rw [h.1]; exact hi
  refine ⟨ps[i], List.getElem?_eq_getElem h1, ?_, ?_⟩
  · rw [List.getElem?_map, List.getElem?_eq_getElem h1]
    rfl
  · have := h.2 i ps[i] rs[i] (List.getElem?_eq_getElem h1) (List.getElem?_eq_getElem hi)
    unfold st_ti st_tb
    rw [List.getD_eq_getElem?_getD, List.getElem?_eq_getElem hi]
    exact this
theorem cw_r_tab {g : gx_T} {F : Nat → Prop} {M : mp_M} {ps : List (Nat × Nat)} {rs : st_R} (h : cw_r g F M ps rs) {p : Nat × Nat} (hp : p ∈ ps) : ∃ (t : Nat) (T : tb_T), cw_t g F M p.1 p.2 t T := by
  obtain ⟨i, hi⟩ := List.getElem?_of_mem hp
  have h1 : i < ps.length := (List.getElem?_eq_some_iff.mp hi).1
  have h2 : i < rs.length := by rw [← h.1]; exact h1
  exact ⟨_, _, h.2 i p rs[i] hi (List.getElem?_eq_getElem h2)⟩
theorem cw_r_len {g : gx_T} {F : Nat → Prop} {M : mp_M} {ps : List (Nat × Nat)} {rs : st_R} (h : cw_r g F M ps rs) : (ps.map Prod.fst).length = rs.length := by
  rw [List.length_map]
  exact h.1
def wsum (S : st_S) (s : Nat) (k : Nat) : Option en_E := ((st_runs S).take k).foldl (fun o r => en_m o (r.2 s)) (st_mem S s)
theorem wsum_0 (S : st_S) (s : Nat) : wsum S s 0 = st_mem S s := rfl
theorem wsum_e (S : st_S) (s k : Nat) (hk : (st_runs S).length ≤ k) : wsum S s k = st_w S s := by
  unfold wsum st_w
  rw [List.take_of_length_le hk]
theorem wsum_s (S : st_S) (s k : Nat) (h : k < (st_runs S).length) : wsum S s (k + 1) = en_m (wsum S s k) (st_tb (st_runs S) k s) := by
  unfold wsum st_tb
  rw [List.take_add_one, List.foldl_append, List.getElem?_eq_getElem h, List.getD_eq_getElem?_getD, List.getElem?_eq_getElem h]
  rfl
theorem en_m_n (a : Option en_E) : en_m a none = a := by cases a <;> rfl
theorem cw_o_e {F : Nat → Prop} {M : mp_M} {q : Nat} {w : Option en_E} (h : cw_o F M (some q) w) : ∃ e, w = some e ∧ cw_e F M q e := by
  rcases h with ⟨h, -⟩ | ⟨q2, e, h1, h2, h3⟩
  · cases h
  · cases h1
    exact ⟨e, h2, h3⟩
theorem cw_o_n {F : Nat → Prop} {M : mp_M} {w : Option en_E} (h : cw_o F M none w) : w = none := by
  rcases h with ⟨-, h⟩ | ⟨q2, e, h1, h2, h3⟩
  · exact h
  · cases h1
theorem cw_o_s {F : Nat → Prop} {M : mp_M} {q : Nat} {e : en_E} (h : cw_e F M q e) : cw_o F M (some q) (some e) := Or.inr ⟨q, e, rfl, rfl, h⟩
set_option maxHeartbeats 4000000 in
set_option maxRecDepth 100000 in
theorem c_S_winningPoint (g : gx_T) {F : Nat → Prop} {M : mp_M} {a : Nat} {S : st_S} (h : cw g F M a S) (hrs : (st_runs S).length ≤ 600) (r c : Nat) (hr : r < 16) (hc : c < 8) : Ct g yXS_winningPoint cXS_winningPoint 6 (some (.object "WideStore$Entry")) 4 [.ref a, .int (nI r), .int (nI c)] M (pq (fun o M' => M = M' ∧ cw_o F M o (st_w S (r * 8 + c)) ∧ ∀ e, st_w S (r * 8 + c) = some e → en_ok e ∧ en_s e = r * 8 + c)) 0 0 := by
  refine ct_intro (L0 := [some (.ref a), some (.int (nI r)), some (.int (nI c)), none, none, none]) (by decide) (Nat.le_of_ble_eq_true rfl) rfl rfl (fun x C Rx I => ?_)
  obtain ⟨lg, rl, mm, ms, ps, lf, h1, h2, h3, h4, h5, h6, h7, h8, h9⟩ := id h
  obtain ⟨mc, ed, l1, l2, l3⟩ := id h6
  have hpl := cw_r_len h7
  have loop : ∀ (n k : Nat) (o : Option Nat) (L5 : Option Value), k + n = (st_runs S).length → cw_o F M o (wsum S (r * 8 + c) k) → (∀ e, wsum S (r * 8 + c) k = some e → en_ok e ∧ en_s e = r * 8 + c) → VV g x M 0 0 13 [some (.ref a), some (.int (nI r)), some (.int (nI c)), some (va_rf o), some (.int (nI k)), L5] [] := by
    intro n
    induction n with
    | zero =>
      intro k o L5 hk ho hok
      refine v_iload C 15 dXS_winningPoint_13 rfl rfl ?_
      first | refine v_aload_n C 16 dXS_winningPoint_15 rfl rfl ?_ | refine v_aload_nN C 16 dXS_winningPoint_15 rfl rfl ?_ | refine v_aload_nQ C 16 dXS_winningPoint_15 rfl rfl ?_
      refine gt_XS_34 C 19 dXS_winningPoint_16 rfl h2 rfl ?_
      refine v_ri 22 (cl_XS_117 C ((c_A_size g h6)) l2 dXS_winningPoint_19 rfl rfl (Nat.le_of_ble_eq_true rfl) (Nat.le_of_ble_eq_true rfl) (Nat.le_of_ble_eq_true rfl) (by omega) (by omega)) rfl (fun v M2 hv => ?_)
      obtain ⟨rfl, rfl⟩ := hv
      refine v_icmp_ge C 25 71 dXS_winningPoint_22 rfl rfl (fun h9 => ?_) (fun h9 => False.elim (by first | exact h9 (nI_le (by omega) (by omega)) | exact absurd h9 (nI_le (by omega) (by omega))))
      first | refine v_aload_n C 72 dXS_winningPoint_71 rfl rfl ?_ | refine v_aload_nN C 72 dXS_winningPoint_71 rfl rfl ?_ | refine v_aload_nQ C 72 dXS_winningPoint_71 rfl rfl ?_
      refine v_aret C Rx (Or.inl ⟨_, rfl⟩) dXS_winningPoint_72 (by omega) (by omega) ⟨_, rfl, rfl, by rw [← wsum_e S _ k (by omega)]; exact ho, by rw [← wsum_e S _ k (by omega)]; exact hok⟩
    | succ n ih =>
      intro k o L5 hk ho hok
      obtain ⟨p, p1, p2, p3⟩ := h7.at (i := k) (by omega)
      refine v_iload C 15 dXS_winningPoint_13 rfl rfl ?_
      first | refine v_aload_n C 16 dXS_winningPoint_15 rfl rfl ?_ | refine v_aload_nN C 16 dXS_winningPoint_15 rfl rfl ?_ | refine v_aload_nQ C 16 dXS_winningPoint_15 rfl rfl ?_
      refine gt_XS_34 C 19 dXS_winningPoint_16 rfl h2 rfl ?_
      refine v_ri 22 (cl_XS_117 C ((c_A_size g h6)) l2 dXS_winningPoint_19 rfl rfl (Nat.le_of_ble_eq_true rfl) (Nat.le_of_ble_eq_true rfl) (Nat.le_of_ble_eq_true rfl) (by omega) (by omega)) rfl (fun v M2 hv => ?_)
      obtain ⟨rfl, rfl⟩ := hv
      refine v_icmp_ge C 25 71 dXS_winningPoint_22 rfl rfl (fun h9 => False.elim (by first | exact h9 (nI_ge (by omega) (by omega)) | exact absurd h9 (nI_ge (by omega) (by omega)))) (fun h9 => ?_)
      first | refine v_aload_n C 26 dXS_winningPoint_25 rfl rfl ?_ | refine v_aload_nN C 26 dXS_winningPoint_25 rfl rfl ?_ | refine v_aload_nQ C 26 dXS_winningPoint_25 rfl rfl ?_
      refine gt_XS_34 C 29 dXS_winningPoint_26 rfl h2 rfl ?_
      refine v_iload C 31 dXS_winningPoint_29 rfl rfl ?_
      refine v_rq 34 (cl_XS_119 C ((c_A_get g h6 k (by omega) (by omega))) l2 dXS_winningPoint_31 rfl rfl (Nat.le_of_ble_eq_true rfl) (Nat.le_of_ble_eq_true rfl) (Nat.le_of_ble_eq_true rfl) (by omega) (by omega)) rfl (fun o2 M2 hv => ?_)
      obtain ⟨rfl, rfl⟩ := hv
      rw [p2]
      refine ca_XS_38 C 37 dXS_winningPoint_34 rfl p3.2.2.2.1 ?_
      refine v_iload_n C 38 dXS_winningPoint_37 rfl rfl ?_
      refine v_iload_n C 39 dXS_winningPoint_38 rfl rfl ?_
      refine v_rq 42 (cl_XS_163 C ((c_T_pointAt g r c hr hc p3)) p3.2.2.2.1 dXS_winningPoint_39 rfl rfl (Nat.le_of_ble_eq_true rfl) (Nat.le_of_ble_eq_true rfl) (Nat.le_of_ble_eq_true rfl) (by omega) (by omega)) rfl (fun o2 M2 hv => ?_)
      obtain ⟨rfl, hv⟩ := hv
      first | refine v_astore C 44 _ dXS_winningPoint_42 rfl (Nat.lt_of_lt_of_le (Nat.lt_succ_self _) (Nat.le_of_ble_eq_true rfl)) rfl ?_ | refine v_astoreN C 44 _ dXS_winningPoint_42 rfl (Nat.lt_of_lt_of_le (Nat.lt_succ_self _) (Nat.le_of_ble_eq_true rfl)) rfl ?_ | refine v_astoreQ C 44 _ dXS_winningPoint_42 rfl (Nat.lt_of_lt_of_le (Nat.lt_succ_self _) (Nat.le_of_ble_eq_true rfl)) rfl ?_
      first | refine v_aload C 46 dXS_winningPoint_44 rfl rfl ?_ | refine v_aloadN C 46 dXS_winningPoint_44 rfl rfl ?_ | refine v_aloadQ C 46 dXS_winningPoint_44 rfl rfl ?_
      have hws := wsum_s S (r * 8 + c) k (by omega)
      have keep : st_tb (st_runs S) k (r * 8 + c) = none ∨ en_m (wsum S (r * 8 + c) k) (st_tb (st_runs S) k (r * 8 + c)) = wsum S (r * 8 + c) k → ∀ L5 : Option Value, VV g x M 0 0 65 [some (.ref a), some (.int (nI r)), some (.int (nI c)), some (va_rf o), some (.int (nI k)), L5] [] := by
        intro hz L5
        have e1 : wsum S (r * 8 + c) (k + 1) = wsum S (r * 8 + c) k := by
          rw [hws]
          rcases hz with hz | hz
          · rw [hz, en_m_n]
          · exact hz
        refine v_iinc C 68 _ (nI (k + 1)) dXS_winningPoint_65 rfl rfl (nI_1 k) rfl ?_
        refine v_goto C 13 dXS_winningPoint_68 rfl ?_
        exact ih (k + 1) o L5 (by omega) (by rw [e1]; exact ho) (by rw [e1]; exact hok)
      refine v_ifnull C 49 65 dXS_winningPoint_46 rfl rfl (fun hz => ?_) (fun q hq => ?_)
      · subst hz
        exact keep (Or.inl (cw_o_n hv)) _
      · subst hq
        obtain ⟨e, he, hqe⟩ := cw_o_e hv
        have hoke := p3.2.2.1 _ _ he
        have take : en_m (wsum S (r * 8 + c) k) (some e) = some e → VV g x M 0 0 62 [some (.ref a), some (.int (nI r)), some (.int (nI c)), some (va_rf o), some (.int (nI k)), some (.ref q)] [] := by
          intro hz
          have e1 : wsum S (r * 8 + c) (k + 1) = some e := by
            rw [hws, he]
            exact hz
          first | refine v_aload C 64 dXS_winningPoint_62 rfl rfl ?_ | refine v_aloadN C 64 dXS_winningPoint_62 rfl rfl ?_ | refine v_aloadQ C 64 dXS_winningPoint_62 rfl rfl ?_
          first | refine v_astore_n C 65 _ dXS_winningPoint_64 rfl (Nat.lt_of_lt_of_le (Nat.lt_succ_self _) (Nat.le_of_ble_eq_true rfl)) rfl ?_ | refine v_astore_nN C 65 _ dXS_winningPoint_64 rfl (Nat.lt_of_lt_of_le (Nat.lt_succ_self _) (Nat.le_of_ble_eq_true rfl)) rfl ?_ | refine v_astore_nQ C 65 _ dXS_winningPoint_64 rfl (Nat.lt_of_lt_of_le (Nat.lt_succ_self _) (Nat.le_of_ble_eq_true rfl)) rfl ?_
          refine v_iinc C 68 _ (nI (k + 1)) dXS_winningPoint_65 rfl rfl (nI_1 k) rfl ?_
          refine v_goto C 13 dXS_winningPoint_68 rfl ?_
          refine ih (k + 1) (some q) _ (by omega) (by rw [e1]; exact cw_o_s hqe) (fun f hf => ?_)
          rw [e1] at hf
          cases hf
          exact hoke
        first | refine v_aload_n C 50 dXS_winningPoint_49 rfl rfl ?_ | refine v_aload_nN C 50 dXS_winningPoint_49 rfl rfl ?_ | refine v_aload_nQ C 50 dXS_winningPoint_49 rfl rfl ?_
        refine v_ifnull C 53 62 dXS_winningPoint_50 rfl rfl (fun hz2 => ?_) (fun q2 hq2 => ?_)
        · subst hz2
          refine take ?_
          rw [cw_o_n ho]
          rfl
        · subst hq2
          obtain ⟨f, hf, hqf⟩ := cw_o_e ho
          have hokf := hok f hf
          first | refine v_aload C 55 dXS_winningPoint_53 rfl rfl ?_ | refine v_aloadN C 55 dXS_winningPoint_53 rfl rfl ?_ | refine v_aloadQ C 55 dXS_winningPoint_53 rfl rfl ?_
          first | refine v_aload_n C 56 dXS_winningPoint_55 rfl rfl ?_ | refine v_aload_nN C 56 dXS_winningPoint_55 rfl rfl ?_ | refine v_aload_nQ C 56 dXS_winningPoint_55 rfl rfl ?_
          refine v_ri 59 (cl_XS_166 C ((c_E_winsOver g hqe hqf hoke.1 hokf.1)) hqe.2 dXS_winningPoint_56 rfl rfl (Nat.le_of_ble_eq_true rfl) (Nat.le_of_ble_eq_true rfl) (Nat.le_of_ble_eq_true rfl) (by omega) (by omega)) rfl (fun v M2 hv2 => ?_)
          obtain ⟨rfl, rfl⟩ := hv2
          refine v_if_eq C 62 65 dXS_winningPoint_59 rfl rfl (fun hb => ?_) (fun hb => ?_)
          · refine keep (Or.inr ?_) _
            rw [hf, he]
            show (if en_w e f = true then some e else some f) = some f
            rw [bI_0.mp hb]
            rfl
          · refine take ?_
            rw [hf]
            show (if en_w e f = true then some e else some f) = some e
            rw [if_pos (by cases hz : en_w e f with
              | true => rfl
              | false => exact absurd (bI_f hz) hb)]
  first | refine v_aload_n C 1 dXS_winningPoint_0 rfl rfl ?_ | refine v_aload_nN C 1 dXS_winningPoint_0 rfl rfl ?_ | refine v_aload_nQ C 1 dXS_winningPoint_0 rfl rfl ?_
  refine gt_XS_43 C 4 dXS_winningPoint_1 rfl h2 rfl ?_
  refine v_iload_n C 5 dXS_winningPoint_4 rfl rfl ?_
  refine v_iload_n C 6 dXS_winningPoint_5 rfl rfl ?_
  refine v_rq 9 (cl_XS_163 C ((c_T_pointAt g r c hr hc h8)) h8.2.2.2.1 dXS_winningPoint_6 rfl rfl (Nat.le_of_ble_eq_true rfl) (Nat.le_of_ble_eq_true rfl) (Nat.le_of_ble_eq_true rfl) (by omega) (by omega)) rfl (fun o2 M2 hv => ?_)
  obtain ⟨rfl, hv⟩ := hv
  first | refine v_astore_n C 10 _ dXS_winningPoint_9 rfl (Nat.lt_of_lt_of_le (Nat.lt_succ_self _) (Nat.le_of_ble_eq_true rfl)) rfl ?_ | refine v_astore_nN C 10 _ dXS_winningPoint_9 rfl (Nat.lt_of_lt_of_le (Nat.lt_succ_self _) (Nat.le_of_ble_eq_true rfl)) rfl ?_ | refine v_astore_nQ C 10 _ dXS_winningPoint_9 rfl (Nat.lt_of_lt_of_le (Nat.lt_succ_self _) (Nat.le_of_ble_eq_true rfl)) rfl ?_
  refine v_iconst C 11 dXS_winningPoint_10 rfl (nI 0) (by decide) ?_
  refine v_istore C 13 _ dXS_winningPoint_11 rfl (Nat.lt_of_lt_of_le (Nat.lt_succ_self _) (Nat.le_of_ble_eq_true rfl)) rfl ?_
  exact loop (st_runs S).length 0 o2 none (by omega) hv (fun e he => h8.2.2.1 _ _ he)
theorem cov_s {S : st_S} {r c p k : Nat} (h : k < (st_runs S).length) (hz : tb_c (st_tb (st_runs S) k) r c p) : st_cov S r c p := by
  refine Or.inr ⟨(st_runs S)[k], List.getElem_mem h, ?_⟩
  unfold st_tb at hz
  rw [List.getD_eq_getElem?_getD, List.getElem?_eq_getElem h] at hz
  exact hz
theorem cov_n {S : st_S} {r c p : Nat} (h : ¬ tb_c (st_mem S) r c p) (hz : ∀ k, k < (st_runs S).length → ¬ tb_c (st_tb (st_runs S) k) r c p) : ¬ st_cov S r c p := by
  rintro (z | ⟨t, z1, z2⟩)
  · exact h z
  · obtain ⟨k, hk⟩ := List.getElem?_of_mem z1
    have hl := (List.getElem?_eq_some_iff.mp hk).1
    refine hz k hl ?_
    unfold st_tb
    rw [List.getD_eq_getElem?_getD, hk]
    exact z2
set_option maxHeartbeats 4000000 in
set_option maxRecDepth 100000 in
theorem c_S_isCovered (g : gx_T) {F : Nat → Prop} {M : mp_M} {a : Nat} {S : st_S} (h : cw g F M a S) (hrs : (st_runs S).length ≤ 600) (r c p : Nat) (hr : r < 16) (hc : c < 8) (hp : p ≤ 9999) : Ct g yXS_isCovered cXS_isCovered 5 (some .boolean) 4 [.ref a, .int (nI r), .int (nI c), .int (nI p)] M (pi_ (fun v M' => M = M' ∧ v = bI (bo (st_cov S r c p)))) 0 0 := by
  refine ct_intro (L0 := [some (.ref a), some (.int (nI r)), some (.int (nI c)), some (.int (nI p)), none]) (by decide) (Nat.le_of_ble_eq_true rfl) rfl rfl (fun x C Rx I => ?_)
  obtain ⟨lg, rl, mm, ms, ps, lf, h1, h2, h3, h4, h5, h6, h7, h8, h9⟩ := id h
  obtain ⟨mc, ed, l1, l2, l3⟩ := id h6
  have hpl := cw_r_len h7
  have loop : ∀ (n k : Nat), k + n = (st_runs S).length → ¬ tb_c (st_mem S) r c p → (∀ j, j < k → ¬ tb_c (st_tb (st_runs S) j) r c p) → VV g x M 0 0 18 [some (.ref a), some (.int (nI r)), some (.int (nI c)), some (.int (nI p)), some (.int (nI k))] [] := by
    intro n
    induction n with
    | zero =>
      intro k hk hm hj
      refine v_iload C 20 dXS_isCovered_18 rfl rfl ?_
      first | refine v_aload_n C 21 dXS_isCovered_20 rfl rfl ?_ | refine v_aload_nN C 21 dXS_isCovered_20 rfl rfl ?_ | refine v_aload_nQ C 21 dXS_isCovered_20 rfl rfl ?_
      refine gt_XS_34 C 24 dXS_isCovered_21 rfl h2 rfl ?_
      refine v_ri 27 (cl_XS_117 C ((c_A_size g h6)) l2 dXS_isCovered_24 rfl rfl (Nat.le_of_ble_eq_true rfl) (Nat.le_of_ble_eq_true rfl) (Nat.le_of_ble_eq_true rfl) (by omega) (by omega)) rfl (fun v M2 hv => ?_)
      obtain ⟨rfl, rfl⟩ := hv
      refine v_icmp_ge C 30 59 dXS_isCovered_27 rfl rfl (fun h9 => ?_) (fun h9 => False.elim (by first | exact h9 (nI_le (by omega) (by omega)) | exact absurd h9 (nI_le (by omega) (by omega))))
      refine v_iconst C 60 dXS_isCovered_59 rfl (nI 0) (by decide) ?_
      refine v_zret C Rx dXS_isCovered_60 (by omega) (by omega) (Or.inl rfl) ⟨_, rfl, rfl, (bI_f (bo_f.mpr (cov_n hm (fun j hj2 => hj j (by omega))))).symm⟩
    | succ n ih =>
      intro k hk hm hj
      obtain ⟨q, p1, p2, p3⟩ := h7.at (i := k) (by omega)
      refine v_iload C 20 dXS_isCovered_18 rfl rfl ?_
      first | refine v_aload_n C 21 dXS_isCovered_20 rfl rfl ?_ | refine v_aload_nN C 21 dXS_isCovered_20 rfl rfl ?_ | refine v_aload_nQ C 21 dXS_isCovered_20 rfl rfl ?_
      refine gt_XS_34 C 24 dXS_isCovered_21 rfl h2 rfl ?_
      refine v_ri 27 (cl_XS_117 C ((c_A_size g h6)) l2 dXS_isCovered_24 rfl rfl (Nat.le_of_ble_eq_true rfl) (Nat.le_of_ble_eq_true rfl) (Nat.le_of_ble_eq_true rfl) (by omega) (by omega)) rfl (fun v M2 hv => ?_)
      obtain ⟨rfl, rfl⟩ := hv
      refine v_icmp_ge C 30 59 dXS_isCovered_27 rfl rfl (fun h9 => False.elim (by first | exact h9 (nI_ge (by omega) (by omega)) | exact absurd h9 (nI_ge (by omega) (by omega)))) (fun h9 => ?_)
      first | refine v_aload_n C 31 dXS_isCovered_30 rfl rfl ?_ | refine v_aload_nN C 31 dXS_isCovered_30 rfl rfl ?_ | refine v_aload_nQ C 31 dXS_isCovered_30 rfl rfl ?_
      refine gt_XS_34 C 34 dXS_isCovered_31 rfl h2 rfl ?_
      refine v_iload C 36 dXS_isCovered_34 rfl rfl ?_
      refine v_rq 39 (cl_XS_119 C ((c_A_get g h6 k (by omega) (by omega))) l2 dXS_isCovered_36 rfl rfl (Nat.le_of_ble_eq_true rfl) (Nat.le_of_ble_eq_true rfl) (Nat.le_of_ble_eq_true rfl) (by omega) (by omega)) rfl (fun o2 M2 hv => ?_)
      obtain ⟨rfl, rfl⟩ := hv
      rw [p2]
      refine ca_XS_38 C 42 dXS_isCovered_39 rfl p3.2.2.2.1 ?_
      refine v_iload_n C 43 dXS_isCovered_42 rfl rfl ?_
      refine v_iload_n C 44 dXS_isCovered_43 rfl rfl ?_
      refine v_iload_n C 45 dXS_isCovered_44 rfl rfl ?_
      refine v_ri 48 (cl_XS_169 C ((c_T_covers g r c p hr hc hp p3)) p3.2.2.2.1 dXS_isCovered_45 rfl rfl (Nat.le_of_ble_eq_true rfl) (Nat.le_of_ble_eq_true rfl) (Nat.le_of_ble_eq_true rfl) (by omega) (by omega)) rfl (fun v M2 hv => ?_)
      obtain ⟨rfl, rfl⟩ := hv
      refine v_if_eq C 51 53 dXS_isCovered_48 rfl rfl (fun hb => ?_) (fun hb => ?_)
      · refine v_iinc C 56 _ (nI (k + 1)) dXS_isCovered_53 rfl rfl (nI_1 k) rfl ?_
        refine v_goto C 18 dXS_isCovered_56 rfl ?_
        refine ih (k + 1) (by omega) hm (fun j hj2 => ?_)
        by_cases hjk : j = k
        · subst hjk
          exact bo_f.mp (bI_0.mp hb)
        · exact hj j (by omega)
      · refine v_iconst C 52 dXS_isCovered_51 rfl (nI 1) (by decide) ?_
        refine v_zret C Rx dXS_isCovered_52 (by omega) (by omega) (Or.inr rfl) ⟨_, rfl, rfl, (bI_t (bo_t.mpr (cov_s (k := k) (by omega) (bo_t.mp (by cases hz : bo (tb_c (st_tb (st_runs S) k) r c p) with
          | true => rfl
          | false => exact absurd (bI_f hz) hb))))).symm⟩
  first | refine v_aload_n C 1 dXS_isCovered_0 rfl rfl ?_ | refine v_aload_nN C 1 dXS_isCovered_0 rfl rfl ?_ | refine v_aload_nQ C 1 dXS_isCovered_0 rfl rfl ?_
  refine gt_XS_43 C 4 dXS_isCovered_1 rfl h2 rfl ?_
  refine v_iload_n C 5 dXS_isCovered_4 rfl rfl ?_
  refine v_iload_n C 6 dXS_isCovered_5 rfl rfl ?_
  refine v_iload_n C 7 dXS_isCovered_6 rfl rfl ?_
  refine v_ri 10 (cl_XS_169 C ((c_T_covers g r c p hr hc hp h8)) h8.2.2.2.1 dXS_isCovered_7 rfl rfl (Nat.le_of_ble_eq_true rfl) (Nat.le_of_ble_eq_true rfl) (Nat.le_of_ble_eq_true rfl) (by omega) (by omega)) rfl (fun v M2 hv => ?_)
  obtain ⟨rfl, rfl⟩ := hv
  refine v_if_eq C 13 15 dXS_isCovered_10 rfl rfl (fun hb => ?_) (fun hb => ?_)
  · refine v_iconst C 16 dXS_isCovered_15 rfl (nI 0) (by decide) ?_
    refine v_istore C 18 _ dXS_isCovered_16 rfl (Nat.lt_of_lt_of_le (Nat.lt_succ_self _) (Nat.le_of_ble_eq_true rfl)) rfl ?_
    exact loop (st_runs S).length 0 (by omega) (bo_f.mp (bI_0.mp hb)) (fun j hj => absurd hj (Nat.not_lt_zero j))
  · refine v_iconst C 14 dXS_isCovered_13 rfl (nI 1) (by decide) ?_
    refine v_zret C Rx dXS_isCovered_14 (by omega) (by omega) (Or.inr rfl) ⟨_, rfl, rfl, (bI_t (bo_t.mpr (Or.inl (bo_t.mp (by cases hz : bo (tb_c (st_mem S) r c p) with
      | true => rfl
      | false => exact absurd (bI_f hz) hb))))).symm⟩

