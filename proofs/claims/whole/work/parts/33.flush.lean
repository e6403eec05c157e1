theorem cw_mk {g : gx_T} {F : Nat → Prop} {M : mp_M} {a : Nat} {fs : List Value} {S : st_S} {lg rl mm ms : Nat} {ps : List (Nat × Nat)} {lf : Nat → Option Nat} (h1 : ¬ F a) (h2 : M a = some (.inr (ci_S, fs))) (h3 : ¬ F lg) (h4 : M lg = some (ar_q (gx_E g) 512 lf)) (h5 : cw_g F M lf (st_log S)) (h6 : cw_l g F M rl (ps.map Prod.fst)) (h7 : cw_r g F M ps (st_runs S)) (h8 : cw_t g F M mm ms 0 (st_mem S)) (h9 : dj ((mm, ms) :: ps)) : cw_x g F (mp_u M a (ob_S S lg rl mm)) a S lg rl mm ms ps lf := by
  have K : mp_k (fun q => q = a) M (mp_u M a (ob_S S lg rl mm)) := mp_k.up rfl
  have nn : nE (fun q => q = a) M := by
    intro q fs hq
    rw [hq, h2]
    intro z
    cases z
  obtain ⟨mc, ed, l1, l2, l3⟩ := id h6
  refine ⟨h1, mp_us, h3, K _ _ (fun z => ne_a h2 h4 z.symm) h4, h5.k K nn, h6.k K (ne_o l2 h2 (by decide)) (fun q c f hq z => ne_a h2 hq z.symm), ?_, ?_, h9⟩
  · refine h7.k K nn (fun p hp => ?_)
    obtain ⟨t, T, c1, c2, c3, c4, f, c5, c6⟩ := cw_r_tab h7 hp
    exact ⟨ne_o c4 h2 (by decide), fun z => ne_a h2 c5 z.symm⟩
  · obtain ⟨c1, c2, c3, c4, f, c5, c6⟩ := id h8
    exact h8.k K nn (ne_o c4 h2 (by decide)) (fun z => ne_a h2 c5 z.symm)
theorem dj_take {l : List (Nat × Nat)} (h : dj l) (n : Nat) : dj (l.take n) := by
  intro i j p q hp hq he
  have f : ∀ {i : Nat} {p : Nat × Nat}, (l.take n)[i]? = some p → l[i]? = some p := by
    intro i p hp
    have hl := (List.getElem?_eq_some_iff.mp hp).1
    rw [List.length_take] at hl
    rw [List.getElem?_take, if_pos (by omega)] at hp
    exact hp
  exact h i j p q (f hp) (f hq) he
theorem app_cas {α : Type} {l : List α} {x p : α} {i : Nat} (hp : (l ++ [x])[i]? = some p) : l[i]? = some p ∨ (i = l.length ∧ p = x) := by
  by_cases hi : i < l.length
  · rw [List.getElem?_append_left hi] at hp
    exact Or.inl hp
  · rw [List.getElem?_append_right (by omega)] at hp
    have hz : i - l.length < 1 := (List.getElem?_eq_some_iff.mp hp).1
    rw [show i - l.length = 0 by omega] at hp
    cases hp
    exact Or.inr ⟨by omega, rfl⟩
theorem dj_app {l : List (Nat × Nat)} (h : dj l) {x : Nat × Nat} (hx : ∀ p, p ∈ l → p.1 ≠ x.1 ∧ p.2 ≠ x.2) : dj (l ++ [x]) := by
  intro i j p q hp hq he
  rcases app_cas hp with z | ⟨z, z'⟩ <;> rcases app_cas hq with y | ⟨y, y'⟩
  · exact h i j p q z y he
  · have := hx p (List.mem_of_getElem? z)
    rw [y'] at he
    exact absurd he (fun w => w.elim this.1 this.2)
  · have := hx q (List.mem_of_getElem? y)
    rw [z'] at he
    exact absurd he (fun w => w.elim (fun w => this.1 w.symm) (fun w => this.2 w.symm))
  · omega
theorem dj_rot {x y : Nat × Nat} {l : List (Nat × Nat)} (h : dj (y :: l)) (hx : ∀ p, p ∈ y :: l → p.1 ≠ x.1 ∧ p.2 ≠ x.2) : dj (x :: (l ++ [y])) := by
  have h1 : dj (l ++ [y]) := by
    intro i j p q hp hq he
    have f : ∀ {i : Nat} {p : Nat × Nat}, (l ++ [y])[i]? = some p → (y :: l)[if i = l.length then 0 else i + 1]? = some p ∧ i ≤ l.length := by
      intro i p hp
      rcases app_cas hp with z | ⟨z, z'⟩
      · have hl := (List.getElem?_eq_some_iff.mp z).1
        rw [if_neg (by omega), List.getElem?_cons_succ]
        exact ⟨z, by omega⟩
      · rw [if_pos z, z']
        exact ⟨rfl, by omega⟩
    have e := h _ _ p q (f hp).1 (f hq).1 he
    have a1 := (f hp).2
    have a2 := (f hq).2
    by_cases c1 : i = l.length <;> by_cases c2 : j = l.length
    · omega
    · rw [if_pos c1, if_neg c2] at e
      omega
    · rw [if_neg c1, if_pos c2] at e
      omega
    · rw [if_neg c1, if_neg c2] at e
      omega
  intro i j p q hp hq he
  have mem : ∀ {p : Nat × Nat}, p ∈ l ++ [y] → p ∈ y :: l := by
    intro p hp
    rcases List.mem_append.mp hp with z | z
    · exact List.mem_cons_of_mem _ z
    · rw [List.mem_singleton.mp z]
      exact List.mem_cons_self
  cases i with
  | zero =>
    cases j with
    | zero => rfl
    | succ j =>
      rw [List.getElem?_cons_succ] at hq
      cases hp
      have := hx q (mem (List.mem_of_getElem? hq))
      exact absurd he (fun w => w.elim (fun w => this.1 w.symm) (fun w => this.2 w.symm))
  | succ i =>
    rw [List.getElem?_cons_succ] at hp
    cases j with
    | zero =>
      cases hq
      have := hx p (mem (List.mem_of_getElem? hp))
      exact absurd he (fun w => w.elim this.1 this.2)
    | succ j =>
      rw [List.getElem?_cons_succ] at hq
      rw [h1 i j p q hp hq he]
theorem cw_t_ad {g : gx_T} {F : Nat → Prop} {M : mp_M} {a sl t : Nat} {T : tb_T} (h : cw_t g F M a sl t T) {na ns : Nat} (h1 : M na = none) (h2 : M ns = none) : a ≠ na ∧ sl ≠ ns := by
  obtain ⟨c1, c2, c3, c4, f, c5, c6⟩ := h
  exact ⟨ne_n c4 h1, ne_n c5 h2⟩
theorem cw_x_all {g : gx_T} {F : Nat → Prop} {M : mp_M} {ps : List (Nat × Nat)} {rs : st_R} {mm ms t : Nat} {T : tb_T} (h7 : cw_r g F M ps rs) (h8 : cw_t g F M mm ms t T) {na ns : Nat} (h1 : M na = none) (h2 : M ns = none) : ∀ p, p ∈ (mm, ms) :: ps → p.1 ≠ na ∧ p.2 ≠ ns := by
  intro p hp
  rcases List.mem_cons.mp hp with z | z
  · rw [z]
    exact cw_t_ad h8 h1 h2
  · obtain ⟨t, T, h⟩ := cw_r_tab h7 z
    exact cw_t_ad h h1 h2
theorem cw_r_app {g : gx_T} {F : Nat → Prop} {M : mp_M} {ps : List (Nat × Nat)} {rs : st_R} (h : cw_r g F M ps rs) {p : Nat × Nat} {t : Nat × tb_T} (hp : cw_t g F M p.1 p.2 t.1 t.2) : cw_r g F M (ps ++ [p]) (rs ++ [t]) := by
  refine ⟨by rw [List.length_append, List.length_append, h.1]; rfl, fun i q u hq hu => ?_⟩
  rcases app_cas hq with z | ⟨z, z'⟩ <;> rcases app_cas hu with y | ⟨y, y'⟩
  · exact h.2 i q u z y
  · have := (List.getElem?_eq_some_iff.mp z).1
    have := h.1
    omega
  · have := (List.getElem?_eq_some_iff.mp y).1
    have := h.1
    omega
  · rw [z', y']
    exact hp
theorem cw_r_take {g : gx_T} {F : Nat → Prop} {M : mp_M} {ps : List (Nat × Nat)} {rs : st_R} (h : cw_r g F M ps rs) (n : Nat) : cw_r g F M (ps.take n) (rs.take n) := by
  refine ⟨by rw [List.length_take, List.length_take, h.1], fun i q u hq hu => ?_⟩
  have hl := (List.getElem?_eq_some_iff.mp hq).1
  rw [List.length_take] at hl
  rw [List.getElem?_take, if_pos (by omega)] at hq hu
  exact h.2 i q u hq hu
theorem lq_nF {g : gx_T} {F : Nat → Prop} {M M' : mp_M} {rl : Nat} (h : mp_k (lq g F M rl) M M') (hr : ¬ F rl) : mp_k (fun q => ¬ F q) M M' := by
  refine h.mono (fun q hq => ?_)
  rcases hq with z | z
  · rw [z]
    exact hr
  · exact z.1
theorem cw_l_F {g : gx_T} {F : Nat → Prop} {M : mp_M} {rl : Nat} {as : List Nat} (h : cw_l g F M rl as) : ¬ F rl := by
  obtain ⟨mc, ed, h1, -⟩ := h
  exact h1
theorem cw_merge {g : gx_T} {F : Nat → Prop} {M M' : mp_M} {a : Nat} {cap gr now safe : Nat} {mem : tb_T} {log : List en_E} {rs : st_R} {lg rl mm ms : Nat} {ps : List (Nat × Nat)} {lf : Nat → Option Nat} (hEO : gx_E g ≠ gx_O g) (h : cw_x g F M a (cap, gr, now, mem, log, safe, rs) lg rl mm ms ps lf) {i0 tier na ns : Nat} (hi : i0 ≤ rs.length) (hna : M na = none) (hns : M ns = none) (K : mp_k (lq g F M rl) M M') (hl : cw_l g F M' rl ((ps.take i0 ++ [(na, ns)]).map Prod.fst)) (ht : cw_t g F M' na ns tier (tb_j now gr (decide (i0 = 0)) ((rs.drop i0).map Prod.snd))) : cw_x g F M' a (cap, gr, now, mem, log, safe, st_j now gr rs i0 tier) lg rl mm ms (ps.take i0 ++ [(na, ns)]) lf := by
  obtain ⟨h1, h2, h3, h4, h5, h6, h7, h8, h9⟩ := h
  have nn := lq_nE h6
  refine ⟨h1, K _ _ (lq_nT h6 h2 (by decide)) h2, h3, K _ _ (lq_nA h6 h4 hEO) h4, h5.k K nn, hl, ?_, ?_, ?_⟩
  · refine cw_r_app (p := (na, ns)) (cw_r_take (h7.k K nn (fun p hp => ?_)) i0) ht
    obtain ⟨t, T, c1, c2, c3, c4, f, c5, c6⟩ := cw_r_tab h7 hp
    exact ⟨lq_nT h6 c4 (by decide), lq_nA h6 c5 hEO⟩
  · obtain ⟨c1, c2, c3, c4, f, c5, c6⟩ := id h8
    exact h8.k K nn (lq_nT h6 c4 (by decide)) (lq_nA h6 c5 hEO)
  · refine dj_app (x := (na, ns)) (dj_take h9 (i0 + 1)) (fun p hp => ?_)
    exact cw_x_all h7 h8 hna hns p (List.mem_of_mem_take hp)
noncomputable def st_gm (now gr : Nat) : Nat → st_R → Nat
  | 0, _ => 0
  | n + 1, rs => if st_3 rs = true then st_gm now gr n (st_j now gr rs (rs.length - 3) (st_ti rs (rs.length - 3) + 1)) + 1 else 0
theorem st_gm_len (now gr : Nat) : ∀ (n : Nat) (rs : st_R), (st_g now gr n rs).length + 2 * st_gm now gr n rs = rs.length
  | 0, rs => by simp [st_g, st_gm]
  | n + 1, rs => by
    unfold st_g st_gm
    split
    · next h3 =>
      have h4 := of_decide_eq_true h3
      have := st_gm_len now gr n (st_j now gr rs (rs.length - 3) (st_ti rs (rs.length - 3) + 1))
      rw [st_j_len (by omega)] at this
      omega
    · omega
noncomputable def st_fm (S : st_S) : Nat := if tb_n (st_mem S) = 0 then 0 else st_gm (st_now S) (st_gr S) ((st_runs S).length + 1) (st_runs S ++ [(0, st_mem S)])
theorem st_fm_len (S : st_S) : (st_runs (st_f S)).length + 2 * st_fm S ≤ (st_runs S).length + 1 := by
  unfold st_fm st_f
  split
  · omega
  · have := st_gm_len (st_now S) (st_gr S) ((st_runs S).length + 1) (st_runs S ++ [(0, st_mem S)])
    rw [List.length_append] at this
    show (st_g (st_now S) (st_gr S) ((st_runs S).length + 1) (st_runs S ++ [(0, st_mem S)])).length + _ ≤ _
    have e : ([(0, st_mem S)] : st_R).length = 1 := rfl
    omega
set_option maxHeartbeats 8000000 in
set_option maxHeartbeats 4000000 in
set_option maxRecDepth 100000 in
theorem c_S_flushMemory (g : gx_T) {F : Nat → Prop} {M : mp_M} {a : Nat} {S : st_S} (h : cw g F M a S) (hF : ∀ q, F q → M q ≠ none) (hrs : (st_runs S).length ≤ 550) (hti : ∀ k, k < (st_runs S).length → st_ti (st_runs S) k ≤ 400000) (hnow : st_now S ≤ 100000) (hgr : st_gr S ≤ 100) : Ct g yXS_flushMemory cXS_flushMemory 3 none 8 [.ref a] M (pv (fun M' => mp_k (fun q => ¬ F q) M M' ∧ cw g F M' a (st_f S))) (3 + 3 * st_fm S) (1708 + 1708 * st_fm S) := by
  refine ct_intro (L0 := [some (.ref a), none, none]) (by decide) (Nat.le_of_ble_eq_true rfl) rfl rfl (fun x C Rx I => ?_)
  obtain ⟨lg, rl, mm, ms, ps, lf, h1, h2, h3, h4, h5, h6, h7, h8, h9⟩ := id h
  have hpl := cw_r_len h7
  have hEO := EO_ne C
  have loop : ∀ (n : Nat) (M3 : mp_M) (rs : st_R) (k ns : Nat) (L2 : Option Value), cw g F M3 a (st_cap S, st_gr S, st_now S, tb_0, [], 0, rs) → mp_k (fun q => ¬ F q) M M3 → rs.length ≤ 600 → n ≤ 600 → (∀ k, k < rs.length → st_ti rs k + n ≤ 900000) → k + 3 * st_gm (st_now S) (st_gr S) n rs ≤ 3 + 3 * st_fm S → ns + 1708 * st_gm (st_now S) (st_gr S) n rs ≤ 1708 + 1708 * st_fm S → cw g F M a S → tb_n (st_mem S) ≠ 0 → st_g (st_now S) (st_gr S) n rs = st_g (st_now S) (st_gr S) ((st_runs S).length + 1) (st_runs S ++ [(0, st_mem S)]) → VV g x M3 k ns 53 [some (.ref a), some (.int (nI n)), L2] [] := by
    intro n
    induction n with
    | zero =>
      intro M3 rs k ns L2 w3 K3 hr hn ht hk hs _ hm he
      refine v_iload_n C 54 dXS_flushMemory_53 rfl rfl ?_
      refine v_if_le C 57 102 dXS_flushMemory_54 rfl rfl (fun h9 => ?_) (fun h9 => False.elim (by first | exact h9 ((by decide)) | exact absurd h9 ((by decide))))
      refine v_vret C Rx dXS_flushMemory_102 (by omega) (by omega) ⟨rfl, K3, ?_⟩
      unfold st_f
      rw [if_neg hm, ← he]
      exact w3
    | succ n ih =>
      intro M3 rs k ns L2 w3 K3 hr hn ht hk hs _ hm he
      obtain ⟨lg', rl', mm', ms', ps', lf', hx⟩ := id w3
      obtain ⟨y1, y2, y3, y4, y5, y6, y7, y8, y9⟩ := id hx
      replace y7 : cw_r g F M3 ps' rs := y7
      have ypl := cw_r_len y7
      obtain ⟨mc', ed', x1, x2, x3⟩ := id y6
      refine v_iload_n C 54 dXS_flushMemory_53 rfl rfl ?_
      refine v_if_le C 57 102 dXS_flushMemory_54 rfl rfl (fun h9 => False.elim (by first | exact h9 ((nI_nle (by omega) (by omega))) | exact absurd h9 ((nI_nle (by omega) (by omega))))) (fun h9 => ?_)
      first | refine v_aload_n C 58 dXS_flushMemory_57 rfl rfl ?_ | refine v_aload_nN C 58 dXS_flushMemory_57 rfl rfl ?_ | refine v_aload_nQ C 58 dXS_flushMemory_57 rfl rfl ?_
      refine v_ri 61 (cl_XS_133 C ((c_S_newest g y2 y6 y7 hr (fun k hk => (by have := ht k hk; omega)))) y2 dXS_flushMemory_58 rfl rfl (Nat.le_of_ble_eq_true rfl) (Nat.le_of_ble_eq_true rfl) (Nat.le_of_ble_eq_true rfl) (by omega) (by omega)) rfl (fun v M4 hv => ?_)
      obtain ⟨rfl, rfl⟩ := hv
      refine v_if_eq C 64 102 dXS_flushMemory_61 rfl rfl (fun q1 => ?_) (fun q1 => ?_)
      · have q2 : st_3 rs = false := bI_0.mp q1
        refine v_vret C Rx dXS_flushMemory_102 (by omega) (by omega) ⟨rfl, K3, ?_⟩
        unfold st_f
        rw [if_neg hm, ← he, st_g, if_neg (by rw [q2]; decide)]
        exact w3
      · have q2 : st_3 rs = true := bI_n0 q1
        have q3 := (of_decide_eq_true q2).1
        rw [st_gm, if_pos q2] at hk hs
        rw [st_g, if_pos q2] at he
        obtain ⟨p, p1, p2, p3⟩ := y7.at (i := rs.length - 3) (by show rs.length - 3 < rs.length; omega)
        first | refine v_aload_n C 65 dXS_flushMemory_64 rfl rfl ?_ | refine v_aload_nN C 65 dXS_flushMemory_64 rfl rfl ?_ | refine v_aload_nQ C 65 dXS_flushMemory_64 rfl rfl ?_
        refine gt_XS_34 C 68 dXS_flushMemory_65 rfl y2 rfl ?_
        refine v_ri 71 (cl_XS_117 C ((c_A_size g y6)) x2 dXS_flushMemory_68 rfl rfl (Nat.le_of_ble_eq_true rfl) (Nat.le_of_ble_eq_true rfl) (Nat.le_of_ble_eq_true rfl) (by omega) (by omega)) rfl (fun v M4 hv => ?_)
        obtain ⟨rfl, rfl⟩ := hv
        refine v_iconst C 72 dXS_flushMemory_71 rfl (nI 3) (by decide) ?_
        refine v_isub C 73 dXS_flushMemory_72 rfl ?_
        refine v_top _ (.int (nI (rs.length - 3))) (congrArg Value.int (by rw [ypl]; exact nI_sb q3)) ?_
        refine v_istore_n C 74 _ dXS_flushMemory_73 rfl (Nat.lt_of_lt_of_le (Nat.lt_succ_self _) (Nat.le_of_ble_eq_true rfl)) rfl ?_
        first | refine v_aload_n C 75 dXS_flushMemory_74 rfl rfl ?_ | refine v_aload_nN C 75 dXS_flushMemory_74 rfl rfl ?_ | refine v_aload_nQ C 75 dXS_flushMemory_74 rfl rfl ?_
        refine v_iload_n C 76 dXS_flushMemory_75 rfl rfl ?_
        first | refine v_aload_n C 77 dXS_flushMemory_76 rfl rfl ?_ | refine v_aload_nN C 77 dXS_flushMemory_76 rfl rfl ?_ | refine v_aload_nQ C 77 dXS_flushMemory_76 rfl rfl ?_
        refine gt_XS_34 C 80 dXS_flushMemory_77 rfl y2 rfl ?_
        refine v_iload_n C 81 dXS_flushMemory_80 rfl rfl ?_
        refine v_rq 84 (cl_XS_119 C ((c_A_get g y6 (rs.length - 3) (by rw [ypl]; show rs.length - 3 < rs.length; omega) (by rw [ypl]; show rs.length < 2 ^ 31; omega))) x2 dXS_flushMemory_81 rfl rfl (Nat.le_of_ble_eq_true rfl) (Nat.le_of_ble_eq_true rfl) (Nat.le_of_ble_eq_true rfl) (by omega) (by omega)) rfl (fun o M4 hv => ?_)
        obtain ⟨rfl, rfl⟩ := hv
        rw [p2]
        refine ca_XS_38 C 87 dXS_flushMemory_84 rfl p3.2.2.2.1 ?_
        refine gt_XS_123 C 90 dXS_flushMemory_87 rfl p3.2.2.2.1 rfl ?_
        refine v_iconst C 91 dXS_flushMemory_90 rfl (nI 1) (by decide) ?_
        refine v_iadd C 92 dXS_flushMemory_91 rfl ?_
        refine v_top _ (.int (nI (st_ti rs (rs.length - 3) + 1))) (congrArg Value.int (nI_add _ _)) ?_
        have hF3 := F_k hF K3 (fun q hq z => z hq)
        refine v_rq 95 (cl_XS_106 C ((c_S_mergeFrom g y2 y6 y7 hF3 hr hnow hgr (rs.length - 3) (st_ti rs (rs.length - 3) + 1) (by show rs.length - 3 ≤ rs.length; omega))) y2 dXS_flushMemory_92 rfl rfl (Nat.le_of_ble_eq_true rfl) (Nat.le_of_ble_eq_true rfl) (Nat.le_of_ble_eq_true rfl) (by omega) (by omega)) rfl (fun o M4 hv => ?_)
        obtain ⟨na, nsl, rfl, z1, z2, z3, z4, z5⟩ := hv
        have hx4 := cw_merge hEO hx (show rs.length - 3 ≤ rs.length by omega) z1 z2 z3 z4 z5
        refine v_pop C 96 dXS_flushMemory_95 rfl rfl ?_
        refine v_iinc C 99 _ (nI n) dXS_flushMemory_96 rfl rfl (by rw [← nI_pred n, Int32.sub_eq_add_neg]; rfl) rfl ?_
        refine v_goto C 53 dXS_flushMemory_99 rfl ?_
        refine ih M4 _ _ _ _ ⟨_, _, _, _, _, _, hx4⟩ (mp_k.tr K3 (lq_nF z3 x1)) ?_ (by omega) (fun k hk => ?_) (by omega) (by omega) h hm he
        · rw [st_j_len (by omega)]
          omega
        · rw [st_j_len (by omega)] at hk
          by_cases hkk : k < rs.length - 3
          · have := ht k (by omega)
            unfold st_ti at this ⊢
            rw [st_j_lo (by omega) hkk]
            omega
          · have := ht (rs.length - 3) (by omega)
            rw [show k = rs.length - 3 by omega]
            have e9 : st_ti (st_j (st_now S) (st_gr S) rs (rs.length - 3) (st_ti rs (rs.length - 3) + 1)) (rs.length - 3) = st_ti rs (rs.length - 3) + 1 := by
              show ((st_j (st_now S) (st_gr S) rs (rs.length - 3) (st_ti rs (rs.length - 3) + 1)).getD (rs.length - 3) (0, tb_0)).1 = _
              rw [st_j_hi (by omega)]
            omega
  first | refine v_aload_n C 1 dXS_flushMemory_0 rfl rfl ?_ | refine v_aload_nN C 1 dXS_flushMemory_0 rfl rfl ?_ | refine v_aload_nQ C 1 dXS_flushMemory_0 rfl rfl ?_
  refine gt_XS_43 C 4 dXS_flushMemory_1 rfl h2 rfl ?_
  refine gt_XS_92 C 7 dXS_flushMemory_4 rfl h8.2.2.2.1 rfl ?_
  have tn := tb_n_le (st_mem S)
  refine v_if_ne C 10 11 dXS_flushMemory_7 rfl rfl (fun q1 => ?_) (fun q1 => ?_)
  · have hm : tb_n (st_mem S) ≠ 0 := fun z => q1 (by rw [z]; rfl)
    obtain ⟨mc', ed', x1, x2, x3⟩ := id h6
    first | refine v_aload_n C 12 dXS_flushMemory_11 rfl rfl ?_ | refine v_aload_nN C 12 dXS_flushMemory_11 rfl rfl ?_ | refine v_aload_nQ C 12 dXS_flushMemory_11 rfl rfl ?_
    refine gt_XS_34 C 15 dXS_flushMemory_12 rfl h2 rfl ?_
    first | refine v_aload_n C 16 dXS_flushMemory_15 rfl rfl ?_ | refine v_aload_nN C 16 dXS_flushMemory_15 rfl rfl ?_ | refine v_aload_nQ C 16 dXS_flushMemory_15 rfl rfl ?_
    refine gt_XS_43 C 19 dXS_flushMemory_16 rfl h2 rfl ?_
    have hel : ∀ y, y ∈ ps.map Prod.fst → ∃ fs, M y = some (.inr (ci_T, fs)) := by
      intro y hy
      obtain ⟨p, hp, rfl⟩ := List.mem_map.mp hy
      obtain ⟨t, T, c1, c2, c3, c4, c5⟩ := cw_r_tab h7 hp
      exact ⟨_, c4⟩
    refine v_ri 22 (cl_XS_129 C ((c_A_add g h6 h8.2.2.2.1 hel hF (by omega))) x2 dXS_flushMemory_19 rfl rfl (Nat.le_of_ble_eq_true rfl) (Nat.le_of_ble_eq_true rfl) (Nat.le_of_ble_eq_true rfl) (by omega) (by omega)) rfl (fun v M1 hv => ?_)
    obtain ⟨K1, l1⟩ := hv
    have hF1 := F_k hF K1 (lq_F x1)
    have nn := lq_nE h6
    have h21 := K1 _ _ (lq_nT h6 h2 (by decide)) h2
    refine v_pop C 23 dXS_flushMemory_22 rfl rfl ?_
    first | refine v_aload_n C 24 dXS_flushMemory_23 rfl rfl ?_ | refine v_aload_nN C 24 dXS_flushMemory_23 rfl rfl ?_ | refine v_aload_nQ C 24 dXS_flushMemory_23 rfl rfl ?_
    refine nw_XS_38 C 27 dXS_flushMemory_24 rfl (by omega) (by omega) (fun na hna => ?_)
    refine v_dup C 28 dXS_flushMemory_27 rfl rfl ?_
    refine v_iconst C 29 dXS_flushMemory_28 rfl (nI 0) (by decide) ?_
    have nFa : ¬ F na := fun z => hF1 na z hna
    have hF0 : ∀ q, F q → mp_u M1 na (.inr (ci_T, [.int 0, .null, .int 0, .int 0])) q ≠ none := F_k (P := fun _ => False) hF1 (mp_k.new hna) (fun _ _ z => z)
    refine v_rv 32 (cl_XS_40 C ((c_T_init g 0 mp_us rfl hF0 nFa)) dXS_flushMemory_29 rfl rfl (Nat.le_of_ble_eq_true rfl) (Nat.le_of_ble_eq_true rfl) (Nat.le_of_ble_eq_true rfl) (by omega) (by omega)) rfl (fun M2 hM2 => ?_)
    obtain ⟨nsl, hns, k2, t2⟩ := hM2
    have hns0 : M1 nsl = none := by
      by_cases z : nsl = na
      · rw [z]
        exact hna
      · rw [mp_un z] at hns
        exact hns
    have K2 : mp_k (fun _ => False) M1 M2 := mp_kF (mp_k.new hna) k2 (fun q hq => by rw [hq]; exact hna)
    have h22 := K2 _ _ id h21
    refine pt_XS_43 C 35 dXS_flushMemory_32 rfl rfl rfl h22 (Nat.lt_of_lt_of_le (Nat.lt_succ_self _) (Nat.le_of_ble_eq_true rfl)) _ rfl ?_
    first | refine v_aload_n C 36 dXS_flushMemory_35 rfl rfl ?_ | refine v_aload_nN C 36 dXS_flushMemory_35 rfl rfl ?_ | refine v_aload_nQ C 36 dXS_flushMemory_35 rfl rfl ?_
    refine v_iconst C 37 dXS_flushMemory_36 rfl (nI 0) (by decide) ?_
    refine pt_XS_47 C 40 dXS_flushMemory_37 rfl rfl rfl mp_us (Nat.lt_of_lt_of_le (Nat.lt_succ_self _) (Nat.le_of_ble_eq_true rfl)) _ rfl ?_
    rw [mp_uu]
    first | refine v_aload_n C 41 dXS_flushMemory_40 rfl rfl ?_ | refine v_aload_nN C 41 dXS_flushMemory_40 rfl rfl ?_ | refine v_aload_nQ C 41 dXS_flushMemory_40 rfl rfl ?_
    refine v_iconst C 42 dXS_flushMemory_41 rfl (nI 0) (by decide) ?_
    refine pt_XS_50 C 45 dXS_flushMemory_42 rfl rfl rfl mp_us (Nat.lt_of_lt_of_le (Nat.lt_succ_self _) (Nat.le_of_ble_eq_true rfl)) _ rfl ?_
    rw [mp_uu]
    have h81 : cw_t g F M1 mm ms 0 (st_mem S) := by
      obtain ⟨c1, c2, c3, c4, f, c5, c6⟩ := id h8
      exact h8.k K1 nn (lq_nT h6 c4 (by decide)) (lq_nA h6 c5 hEO)
    have h71 : cw_r g F M1 ps (st_runs S) := by
      refine h7.k K1 nn (fun p hp => ?_)
      obtain ⟨t, T, c1, c2, c3, c4, f, c5, c6⟩ := cw_r_tab h7 hp
      exact ⟨lq_nT h6 c4 (by decide), lq_nA h6 c5 hEO⟩
    have hx5 := cw_mk (S := (st_cap S, st_gr S, st_now S, tb_0, [], 0, st_runs S ++ [(0, st_mem S)])) (lg := lg) (rl := rl) (mm := na) (ms := nsl) (ps := ps ++ [(mm, ms)]) (lf := lf) h1 h22 h3 (K2 _ _ id (K1 _ _ (lq_nA h6 h4 hEO) h4)) (fun i e hi => (by simp [st_log] at hi)) (by rw [List.map_append]; exact l1.k K2 id (fun _ _ _ _ z => z)) (cw_r_app (p := (mm, ms)) (h71.k K2 nEF (fun _ _ => ⟨id, id⟩)) (h81.k K2 nEF id id)) t2 (dj_rot h9 (cw_x_all h71 h81 hna hns0))
    obtain ⟨y1, y2, y3, y4, y5, y6, y7, y8, y9⟩ := id hx5
    obtain ⟨mc5, ed5, v1, v2, v3⟩ := id y6
    first | refine v_aload_n C 46 dXS_flushMemory_45 rfl rfl ?_ | refine v_aload_nN C 46 dXS_flushMemory_45 rfl rfl ?_ | refine v_aload_nQ C 46 dXS_flushMemory_45 rfl rfl ?_
    refine gt_XS_34 C 49 dXS_flushMemory_46 rfl y2 rfl ?_
    refine v_ri 52 (cl_XS_117 C ((c_A_size g y6)) v2 dXS_flushMemory_49 rfl rfl (Nat.le_of_ble_eq_true rfl) (Nat.le_of_ble_eq_true rfl) (Nat.le_of_ble_eq_true rfl) (by omega) (by omega)) rfl (fun v M6 hv => ?_)
    obtain ⟨rfl, rfl⟩ := hv
    refine v_istore_n C 53 _ dXS_flushMemory_52 rfl (Nat.lt_of_lt_of_le (Nat.lt_succ_self _) (Nat.le_of_ble_eq_true rfl)) rfl ?_
    have hlen : ((ps ++ [(mm, ms)]).map Prod.fst).length = (st_runs S).length + 1 := by
      rw [List.map_append, List.length_append, hpl]
      rfl
    rw [hlen]
    have hfm : st_fm S = st_gm (st_now S) (st_gr S) ((st_runs S).length + 1) (st_runs S ++ [(0, st_mem S)]) := if_neg hm
    refine loop ((st_runs S).length + 1) _ (st_runs S ++ [(0, st_mem S)]) _ _ _ ⟨_, _, _, _, _, _, hx5⟩ ?_ ?_ (by omega) (fun k hk => ?_) (by omega) (by omega) h hm rfl
    · exact mp_k.tr (P := fun q => ¬ F q) (mp_k.tr (P := fun q => ¬ F q) (lq_nF K1 x1) (K2.mono (fun _ z => z.elim))) (mp_k.up h1)
    · rw [List.length_append]
      show (st_runs S).length + 1 ≤ 600
      omega
    · rw [List.length_append] at hk
      have hk : k < (st_runs S).length + 1 := hk
      by_cases hkk : k < (st_runs S).length
      · have := hti k hkk
        unfold st_ti at this ⊢
        rw [st_app_lo hkk]
        omega
      · rw [show k = (st_runs S).length by omega]
        unfold st_ti
        rw [st_app_hi]
        show 0 + _ ≤ _
        omega
  · have hm : tb_n (st_mem S) = 0 := (nI_eq (by omega) (by decide)).mp (by first | exact q1 | exact Classical.not_not.mp q1)
    refine v_vret C Rx dXS_flushMemory_10 (by omega) (by omega) ⟨rfl, mp_k.rf, ?_⟩
    unfold st_f
    rw [if_pos hm]
    exact h

