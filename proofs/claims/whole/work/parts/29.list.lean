theorem EO_ne {g : gx_T} {x : cx_T} {cc : ByteArray} {own : String} {fr ce sl lc : Nat} (C : CX g x cc own fr ce sl lc) : gx_E g ≠ gx_O g := by
  obtain ⟨p, e, R, s, m, args, below, meth, c, nL, Q⟩ := x
  obtain ⟨-, hK, -, -⟩ := C
  obtain ⟨k1, c1, h1, h2, -, -⟩ := (hK.1.2 0 _ rfl).2
  obtain ⟨k2, c2, h3, h4, -, -⟩ := (hK.1.2 1 _ rfl).2
  intro z
  have z2 : (gx_E g) = (gx_O g) := z
  rw [z2] at h1
  cases h1.symm.trans h3
  have := h2.symm.trans h4
  injection this with a b
  injection b with b
  exact absurd b (by decide)
def lq (g : gx_T) (F : Nat → Prop) (M : mp_M) (rl : Nat) : Nat → Prop := fun q => q = rl ∨ (¬ F q ∧ ∃ (c : Nat) (f : Nat → Option Nat), M q = some (ar_q (gx_O g) c f))
def cw_lr (g : gx_T) (F : Nat → Prop) (M : mp_M) (rl : Nat) (mc : Int32) (ed : Nat) (as : List Nat) : Prop := ¬ F rl ∧ M rl = some (.inr (ci_A, [.int mc, .ref ed, .int (nI as.length)])) ∧ ((as = [] ∧ ed = gx_e g) ∨ ∃ (cap : Nat) (f : Nat → Option Nat), ¬ F ed ∧ M ed = some (ar_q (gx_O g) cap f) ∧ as.length ≤ cap ∧ 10 ≤ cap ∧ cap ≤ 1000 ∧ ∀ i, i < as.length → f i = as[i]?)
def cw_l (g : gx_T) (F : Nat → Prop) (M : mp_M) (rl : Nat) (as : List Nat) : Prop := ∃ (mc : Int32) (ed : Nat), cw_lr g F M rl mc ed as
theorem lq_tr {g : gx_T} {F : Nat → Prop} {M M' M2 : mp_M} {rl : Nat} (h : mp_k (lq g F M rl) M M') (h2 : mp_k (lq g F M' rl) M' M2) : mp_k (lq g F M rl) M M2 := by
  intro q e hq hm
  have h3 := h q e hq hm
  refine h2 q e (fun z => hq ?_) h3
  rcases z with z | ⟨z, c, f, y⟩
  · exact Or.inl z
  · rw [h3] at y
    rw [← hm] at y
    exact Or.inr ⟨z, c, f, y⟩
theorem lq_nE {g : gx_T} {F : Nat → Prop} {M : mp_M} {rl : Nat} {as : List Nat} (h : cw_l g F M rl as) : nE (lq g F M rl) M := by
  obtain ⟨mc, ed, h1, h2, h3⟩ := h
  intro q fs hq
  rcases hq with rfl | ⟨-, c, f, y⟩
  · rw [h2]
    intro z
    cases z
  · rw [y]
    intro z
    cases z
theorem lq_nT {g : gx_T} {F : Nat → Prop} {M : mp_M} {rl : Nat} {as : List Nat} (h : cw_l g F M rl as) {q c : Nat} {fs : List Value} (hq : M q = some (.inr (c, fs))) (hc : c ≠ ci_A) : ¬ lq g F M rl q := by
  obtain ⟨mc, ed, h1, h2, h3⟩ := h
  intro z
  rcases z with rfl | ⟨-, c2, f, y⟩
  · cases hq.symm.trans h2
    exact hc rfl
  · cases hq.symm.trans y
theorem lq_nA {g : gx_T} {F : Nat → Prop} {M : mp_M} {rl : Nat} {as : List Nat} (h : cw_l g F M rl as) {q c : Nat} {cA : ClassId} {y} (hq : M q = some (.inl (cA, c, y))) (hc : cA ≠ gx_O g) : ¬ lq g F M rl q := by
  obtain ⟨mc, ed, h1, h2, h3⟩ := h
  intro z
  rcases z with rfl | ⟨-, c2, f, y⟩
  · cases hq.symm.trans h2
  · cases hq.symm.trans y
    exact hc rfl
theorem cw_l.k {g : gx_T} {F P : Nat → Prop} {M M' : mp_M} {rl : Nat} {as : List Nat} (h : cw_l g F M rl as) (hk : mp_k P M M') (h1 : ¬ P rl) (h2 : ∀ (q c : Nat) (f : Nat → Option Nat), M q = some (ar_q (gx_O g) c f) → ¬ P q) : cw_l g F M' rl as := by
  obtain ⟨mc, ed, a1, a2, a3⟩ := h
  refine ⟨mc, ed, a1, hk _ _ h1 a2, ?_⟩
  rcases a3 with a3 | ⟨cap, f, b1, b2, b3⟩
  · exact Or.inl a3
  · exact Or.inr ⟨cap, f, b1, hk _ _ (h2 _ _ _ b2) b2, b3⟩
theorem nI_sb {a b : Nat} (h : b ≤ a) : nI a - nI b = nI (a - b) := by
  have e := nI_add (a - b) b
  rw [Nat.sub_add_cancel h] at e
  rw [← e, Int32.add_sub_cancel]
theorem shr1 : ∀ n, n < 1001 → nI n >>> (nI 1 &&& 31) = nI (n / 2) := by decide +kernel
set_option maxHeartbeats 4000000 in
set_option maxRecDepth 100000 in
theorem c_P_checkIndex (g : gx_T) {M : mp_M} (i n : Nat) (h : i < n) (hn : n < 2 ^ 31) : Ct g yXP_checkIndex cXP_checkIndex 3 (some .int) 1 [.int (nI i), .int (nI n), .null] M (pi_ (fun v M' => M = M' ∧ v = nI i)) 0 0 := by
  refine ct_intro (L0 := [some (.int (nI i)), some (.int (nI n)), some (.null)]) (by decide) (Nat.le_of_ble_eq_true rfl) rfl rfl (fun x C Rx I => ?_)
  refine v_iload_n C 1 dXP_checkIndex_0 rfl rfl ?_
  refine v_if_lt C 4 9 dXP_checkIndex_1 rfl rfl (fun h9 => False.elim (by first | exact h9 ((nI_pos (Nat.lt_trans h hn))) | exact absurd h9 ((nI_pos (Nat.lt_trans h hn))))) (fun h9 => ?_)
  refine v_iload_n C 5 dXP_checkIndex_4 rfl rfl ?_
  refine v_iload_n C 6 dXP_checkIndex_5 rfl rfl ?_
  refine v_icmp_lt C 9 16 dXP_checkIndex_6 rfl rfl (fun h9 => ?_) (fun h9 => False.elim (by first | exact h9 ((nI_lt h hn)) | exact absurd h9 ((nI_lt h hn))))
  refine v_iload_n C 17 dXP_checkIndex_16 rfl rfl ?_
  refine v_iret C Rx dXP_checkIndex_17 (by omega) (by omega) ⟨_, rfl, rfl, rfl⟩
set_option maxHeartbeats 4000000 in
set_option maxRecDepth 100000 in
theorem c_O_checkIndex (g : gx_T) {M : mp_M} (i n : Nat) (h : i < n) (hn : n < 2 ^ 31) : Ct g yXO_checkIndex cXO_checkIndex 2 (some .int) 2 [.int (nI i), .int (nI n)] M (pi_ (fun v M' => M = M' ∧ v = nI i)) 0 0 := by
  refine ct_intro (L0 := [some (.int (nI i)), some (.int (nI n))]) (by decide) (Nat.le_of_ble_eq_true rfl) rfl rfl (fun x C Rx I => ?_)
  refine v_iload_n C 1 dXO_checkIndex_0 rfl rfl ?_
  refine v_iload_n C 2 dXO_checkIndex_1 rfl rfl ?_
  refine v_null C 3 dXO_checkIndex_2 rfl ?_
  refine v_ri 6 (cl_XO_105 C ((c_P_checkIndex g i n h hn)) dXO_checkIndex_3 rfl rfl (Nat.le_of_ble_eq_true rfl) (Nat.le_of_ble_eq_true rfl) (Nat.le_of_ble_eq_true rfl) (by omega) (by omega)) rfl (fun r M2 hr => ?_)
  obtain ⟨rfl, rfl⟩ := hr
  refine v_iret C Rx dXO_checkIndex_6 (by omega) (by omega) ⟨_, rfl, rfl, rfl⟩
set_option maxHeartbeats 4000000 in
set_option maxRecDepth 100000 in
theorem c_A_size (g : gx_T) {F : Nat → Prop} {M : mp_M} {rl : Nat} {as : List Nat} (h : cw_l g F M rl as) : Ct g yXA_size cXA_size 1 (some .int) 1 [.ref rl] M (pi_ (fun v M' => M = M' ∧ v = nI as.length)) 0 0 := by
  refine ct_intro (L0 := [some (.ref rl)]) (by decide) (Nat.le_of_ble_eq_true rfl) rfl rfl (fun x C Rx I => ?_)
  obtain ⟨mc, ed, h1, h2, h3⟩ := h
  first | refine v_aload_n C 1 dXA_size_0 rfl rfl ?_ | refine v_aload_nN C 1 dXA_size_0 rfl rfl ?_ | refine v_aload_nQ C 1 dXA_size_0 rfl rfl ?_
  refine gt_XA_48 C 4 dXA_size_1 rfl h2 rfl ?_
  refine v_iret C Rx dXA_size_4 (by omega) (by omega) ⟨_, rfl, rfl, rfl⟩
set_option maxHeartbeats 4000000 in
set_option maxRecDepth 100000 in
theorem c_A_isEmpty (g : gx_T) {F : Nat → Prop} {M : mp_M} {rl : Nat} {as : List Nat} (h : cw_l g F M rl as) (hn : as.length < 2 ^ 31) : Ct g yXA_isEmpty cXA_isEmpty 1 (some .boolean) 1 [.ref rl] M (pi_ (fun v M' => M = M' ∧ v = bI (decide (as.length = 0)))) 0 0 := by
  refine ct_intro (L0 := [some (.ref rl)]) (by decide) (Nat.le_of_ble_eq_true rfl) rfl rfl (fun x C Rx I => ?_)
  obtain ⟨mc, ed, h1, h2, h3⟩ := h
  first | refine v_aload_n C 1 dXA_isEmpty_0 rfl rfl ?_ | refine v_aload_nN C 1 dXA_isEmpty_0 rfl rfl ?_ | refine v_aload_nQ C 1 dXA_isEmpty_0 rfl rfl ?_
  refine gt_XA_48 C 4 dXA_isEmpty_1 rfl h2 rfl ?_
  refine v_if_ne C 7 11 dXA_isEmpty_4 rfl rfl (fun h4 => ?_) (fun h4 => ?_)
  · refine v_iconst C 12 dXA_isEmpty_11 rfl (nI 0) (by decide) ?_
    refine v_zret C Rx dXA_isEmpty_12 (by omega) (by omega) (Or.inl rfl) ⟨_, rfl, rfl, (bI_f (decide_eq_false (fun z => h4 (by rw [z]; rfl)))).symm⟩
  · refine v_iconst C 8 dXA_isEmpty_7 rfl (nI 1) (by decide) ?_
    refine v_goto C 12 dXA_isEmpty_8 rfl ?_
    refine v_zret C Rx dXA_isEmpty_12 (by omega) (by omega) (Or.inr rfl) ⟨_, rfl, rfl, (bI_t (decide_eq_true ((nI_eq hn (by decide)).mp h4))).symm⟩
set_option maxHeartbeats 4000000 in
set_option maxRecDepth 100000 in
theorem c_A_elementData (g : gx_T) {F : Nat → Prop} {M : mp_M} {rl : Nat} {as : List Nat} (h : cw_l g F M rl as) (i : Nat) (hi : i < as.length) : Ct g yXA_elementData cXA_elementData 2 (some (.object "java/lang/Object")) 1 [.ref rl, .int (nI i)] M (pq (fun o M' => M = M' ∧ o = as[i]?)) 0 0 := by
  refine ct_intro (L0 := [some (.ref rl), some (.int (nI i))]) (by decide) (Nat.le_of_ble_eq_true rfl) rfl rfl (fun x C Rx I => ?_)
  obtain ⟨mc, ed, h1, h2, h3⟩ := h
  rcases h3 with ⟨rfl, -⟩ | ⟨cap, f, b1, b2, b3, b4, b5, b6⟩
  · exact absurd hi (Nat.not_lt_zero i)
  first | refine v_aload_n C 1 dXA_elementData_0 rfl rfl ?_ | refine v_aload_nN C 1 dXA_elementData_0 rfl rfl ?_ | refine v_aload_nQ C 1 dXA_elementData_0 rfl rfl ?_
  refine gt_XA_9 C 4 dXA_elementData_1 rfl h2 rfl ?_
  refine v_iload_n C 5 dXA_elementData_4 rfl rfl ?_
  refine v_aald C 6 1 rfl dXA_elementData_5 rfl b2 i rfl (by omega) (by omega) ?_
  refine v_aret C Rx (Or.inl ⟨_, rfl⟩) dXA_elementData_6 (by omega) (by omega) ⟨_, rfl, rfl, b6 i hi⟩
set_option maxHeartbeats 4000000 in
set_option maxRecDepth 100000 in
theorem c_A_get (g : gx_T) {F : Nat → Prop} {M : mp_M} {rl : Nat} {as : List Nat} (h : cw_l g F M rl as) (i : Nat) (hi : i < as.length) (hn : as.length < 2 ^ 31) : Ct g yXA_get cXA_get 2 (some (.object "java/lang/Object")) 3 [.ref rl, .int (nI i)] M (pq (fun o M' => M = M' ∧ o = as[i]?)) 0 0 := by
  refine ct_intro (L0 := [some (.ref rl), some (.int (nI i))]) (by decide) (Nat.le_of_ble_eq_true rfl) rfl rfl (fun x C Rx I => ?_)
  obtain ⟨mc, ed, h1, h2, h3⟩ := id h
  refine v_iload_n C 1 dXA_get_0 rfl rfl ?_
  first | refine v_aload_n C 2 dXA_get_1 rfl rfl ?_ | refine v_aload_nN C 2 dXA_get_1 rfl rfl ?_ | refine v_aload_nQ C 2 dXA_get_1 rfl rfl ?_
  refine gt_XA_48 C 5 dXA_get_2 rfl h2 rfl ?_
  refine v_ri 8 (cl_XA_118 C ((c_O_checkIndex g i as.length hi hn)) dXA_get_5 rfl rfl (Nat.le_of_ble_eq_true rfl) (Nat.le_of_ble_eq_true rfl) (Nat.le_of_ble_eq_true rfl) (by omega) (by omega)) rfl (fun r M2 hr => ?_)
  obtain ⟨rfl, rfl⟩ := hr
  refine v_pop C 9 dXA_get_8 rfl rfl ?_
  first | refine v_aload_n C 10 dXA_get_9 rfl rfl ?_ | refine v_aload_nN C 10 dXA_get_9 rfl rfl ?_ | refine v_aload_nQ C 10 dXA_get_9 rfl rfl ?_
  refine v_iload_n C 11 dXA_get_10 rfl rfl ?_
  refine v_rq 14 (cl_XA_123 C ((c_A_elementData g h i hi)) h2 dXA_get_11 rfl rfl (Nat.le_of_ble_eq_true rfl) (Nat.le_of_ble_eq_true rfl) (Nat.le_of_ble_eq_true rfl) (by omega) (by omega)) rfl (fun r M2 hr => ?_)
  obtain ⟨rfl, rfl⟩ := hr
  refine v_aret C Rx (Or.inl ⟨_, rfl⟩) dXA_get_14 (by omega) (by omega) ⟨_, rfl, rfl, rfl⟩
set_option maxHeartbeats 4000000 in
set_option maxRecDepth 100000 in
theorem c_C_init (g : gx_T) {M : mp_M} (a : Nat) : Ct g yXC_init cXC_init 1 none 1 [.ref a] M (pv (fun M' => M = M')) 0 0 := by
  refine ct_intro (L0 := [some (.ref a)]) (by decide) (Nat.le_of_ble_eq_true rfl) rfl rfl (fun x C Rx I => ?_)
  first | refine v_aload_n C 1 dXC_init_0 rfl rfl ?_ | refine v_aload_nN C 1 dXC_init_0 rfl rfl ?_ | refine v_aload_nQ C 1 dXC_init_0 rfl rfl ?_
  refine oi_XC_1 C 4 dXC_init_1 rfl (Nat.le_of_ble_eq_true rfl) (Nat.le_of_ble_eq_true rfl) ?_
  refine v_vret C Rx dXC_init_4 (by omega) (by omega) ⟨rfl, rfl⟩
set_option maxHeartbeats 4000000 in
set_option maxRecDepth 100000 in
theorem c_B_init (g : gx_T) {M : mp_M} {a : Nat} {fs : List Value} (hM : M a = some (.inr (ci_A, fs))) (hl : fs.length = 3) : Ct g yXB_init cXB_init 1 none 2 [.ref a] M (pv (fun M' => M' = mp_u M a (.inr (ci_A, fs.set 0 (.int (nI 0)))))) 0 0 := by
  refine ct_intro (L0 := [some (.ref a)]) (by decide) (Nat.le_of_ble_eq_true rfl) rfl rfl (fun x C Rx I => ?_)
  obtain ⟨f0, f1, f2, rfl⟩ : ∃ f0 f1 f2, fs = [f0, f1, f2] := by
    match fs, hl with
    | [f0, f1, f2], _ => exact ⟨_, _, _, rfl⟩
  first | refine v_aload_n C 1 dXB_init_0 rfl rfl ?_ | refine v_aload_nN C 1 dXB_init_0 rfl rfl ?_ | refine v_aload_nQ C 1 dXB_init_0 rfl rfl ?_
  refine v_rv 4 (cl_XB_1 C ((c_C_init g a)) dXB_init_1 rfl rfl (Nat.le_of_ble_eq_true rfl) (Nat.le_of_ble_eq_true rfl) (Nat.le_of_ble_eq_true rfl) (by omega) (by omega)) rfl (fun M2 hr => ?_)
  obtain rfl := hr
  first | refine v_aload_n C 5 dXB_init_4 rfl rfl ?_ | refine v_aload_nN C 5 dXB_init_4 rfl rfl ?_ | refine v_aload_nQ C 5 dXB_init_4 rfl rfl ?_
  refine v_iconst C 6 dXB_init_5 rfl (nI 0) (by decide) ?_
  refine pt_XB_7 C 9 dXB_init_6 rfl rfl rfl hM (Nat.lt_of_lt_of_le (Nat.lt_succ_self _) (Nat.le_of_ble_eq_true rfl)) _ rfl ?_
  refine v_vret C Rx dXB_init_9 (by omega) (by omega) ⟨rfl, rfl⟩
set_option maxHeartbeats 4000000 in
set_option maxRecDepth 100000 in
theorem c_A_init (g : gx_T) {F : Nat → Prop} {M : mp_M} {a : Nat} {fs : List Value} (hM : M a = some (.inr (ci_A, fs))) (hl : fs.length = 3) (hs : fs[2]? = some (.int 0)) (hF : ¬ F a) : Ct g yXA_init cXA_init 1 none 3 [.ref a] M (pv (fun M' => mp_k (fun q => q = a) M M' ∧ cw_l g F M' a [])) 0 0 := by
  refine ct_intro (L0 := [some (.ref a)]) (by decide) (Nat.le_of_ble_eq_true rfl) rfl rfl (fun x C Rx I => ?_)
  obtain ⟨f0, f1, f2, rfl⟩ : ∃ f0 f1 f2, fs = [f0, f1, f2] := by
    match fs, hl with
    | [f0, f1, f2], _ => exact ⟨_, _, _, rfl⟩
  obtain rfl : f2 = .int 0 := Option.some.inj hs
  first | refine v_aload_n C 1 dXA_init_0 rfl rfl ?_ | refine v_aload_nN C 1 dXA_init_0 rfl rfl ?_ | refine v_aload_nQ C 1 dXA_init_0 rfl rfl ?_
  refine v_rv 4 (cl_XA_1 C ((c_B_init g hM rfl)) dXA_init_1 rfl rfl (Nat.le_of_ble_eq_true rfl) (Nat.le_of_ble_eq_true rfl) (Nat.le_of_ble_eq_true rfl) (by omega) (by omega)) rfl (fun M2 hr => ?_)
  obtain rfl := hr
  first | refine v_aload_n C 5 dXA_init_4 rfl rfl ?_ | refine v_aload_nN C 5 dXA_init_4 rfl rfl ?_ | refine v_aload_nQ C 5 dXA_init_4 rfl rfl ?_
  refine v_gets C 8 al_60 dXA_init_5 rfl ?_
  refine pt_XA_9 C 11 dXA_init_8 rfl rfl rfl mp_us (Nat.lt_of_lt_of_le (Nat.lt_succ_self _) (Nat.le_of_ble_eq_true rfl)) _ rfl ?_
  refine v_vret C Rx dXA_init_11 (by omega) (by omega) ⟨rfl, mp_k.tr (P := fun q => q = a) (mp_k.up rfl) (mp_k.up rfl), ⟨_, _, hF, mp_us, Or.inl ⟨rfl, rfl⟩⟩⟩
set_option maxHeartbeats 4000000 in
set_option maxRecDepth 100000 in
theorem c_U_newLength (g : gx_T) {M : mp_M} (n a b : Nat) (h0 : 0 < n) (hn : n ≤ 100000) (ha : a ≤ 100000) (hb : b ≤ 100000) : Ct g yXU_newLength cXU_newLength 4 (some .int) 1 [.int (nI n), .int (nI a), .int (nI b)] M (pi_ (fun v M' => M = M' ∧ v = nI (n + max a b))) 0 0 := by
  refine ct_intro (L0 := [some (.int (nI n)), some (.int (nI a)), some (.int (nI b)), none]) (by decide) (Nat.le_of_ble_eq_true rfl) rfl rfl (fun x C Rx I => ?_)
  have e1 : (if nI a < nI b then nI b else nI a) = nI (max a b) := by
    by_cases hab : a < b
    · rw [if_pos (nI_lt hab (by omega)), Nat.max_eq_right (by omega)]
    · rw [if_neg (nI_nlt (by omega) (by omega)), Nat.max_eq_left (by omega)]
  have hm : max a b ≤ 100000 := Nat.max_le.mpr ⟨ha, hb⟩
  refine v_iload_n C 1 dXU_newLength_0 rfl rfl ?_
  refine v_iload_n C 2 dXU_newLength_1 rfl rfl ?_
  refine v_iload_n C 3 dXU_newLength_2 rfl rfl ?_
  refine max_XU_194 C 6 dXU_newLength_3 rfl (Nat.le_of_ble_eq_true rfl) (Nat.le_of_ble_eq_true rfl) (by omega) (by omega) ?_
  refine v_iadd C 7 dXU_newLength_6 rfl ?_
  refine v_top _ (.int (nI (n + max a b))) (congrArg Value.int ((congrArg (fun z => nI n + z) e1).trans (nI_add _ _))) ?_
  refine v_istore_n C 8 _ dXU_newLength_7 rfl (Nat.lt_of_lt_of_le (Nat.lt_succ_self _) (Nat.le_of_ble_eq_true rfl)) rfl ?_
  refine v_iconst C 9 dXU_newLength_8 rfl (nI 0) (by decide) ?_
  refine v_iload_n C 10 dXU_newLength_9 rfl rfl ?_
  refine v_icmp_ge C 13 21 dXU_newLength_10 rfl rfl (fun h9 => False.elim (by first | exact h9 ((nI_ge (by omega) (by omega))) | exact absurd h9 ((nI_ge (by omega) (by omega))))) (fun h9 => ?_)
  refine v_iload_n C 14 dXU_newLength_13 rfl rfl ?_
  refine ld_XU_200 C 16 dXU_newLength_14 rfl ?_
  refine v_icmp_gt C 19 21 dXU_newLength_16 rfl rfl (fun h9 => False.elim (by first | exact h9 ((show ¬ (nI 2147483639 < nI (n + max a b)) from nI_nlt (by omega) (by omega))) | exact absurd h9 ((show ¬ (nI 2147483639 < nI (n + max a b)) from nI_nlt (by omega) (by omega))))) (fun h9 => ?_)
  refine v_iload_n C 20 dXU_newLength_19 rfl rfl ?_
  refine v_iret C Rx dXU_newLength_20 (by omega) (by omega) ⟨_, rfl, rfl, rfl⟩
set_option maxHeartbeats 4000000 in
set_option maxRecDepth 100000 in
theorem c_Y_copyOf3 (g : gx_T) {M : mp_M} {ed cap : Nat} {f : Nat → Option Nat} (hM : M ed = some (ar_q (gx_O g) cap f)) (N : Nat) (hc : cap ≤ N) (hN : N ≤ 1000) (hel : ∀ i, i < cap → ∀ y, f i = some y → ∃ fs, M y = some (.inr (ci_T, fs))) : Ct g yXY_copyOf3 cXY_copyOf3 4 (some (.array (.object "java/lang/Object"))) 1 [.ref ed, .int (nI N), .ref (gx_m g)] M (pq (fun o M' => ∃ a : Nat, o = some a ∧ M a = none ∧ M' = mp_u M a (ar_q (gx_O g) N (va_cpy f (fun _ => none) 0 0 cap)))) 1 1000 := by
  refine ct_intro (L0 := [some (.ref ed), some (.int (nI N)), some (.ref (gx_m g)), none]) (by decide) (Nat.le_of_ble_eq_true rfl) rfl rfl (fun x C Rx I => ?_)
  have e1 : (if nI N < nI cap then nI N else nI cap) = nI cap := if_neg (nI_nlt hc (by omega))
  first | refine v_aload_n C 1 dXY_copyOf3_0 rfl rfl ?_ | refine v_aload_nN C 1 dXY_copyOf3_0 rfl rfl ?_ | refine v_aload_nQ C 1 dXY_copyOf3_0 rfl rfl ?_
  refine v_ldcM C 3 al_189 dXY_copyOf3_1 rfl ?_
  refine v_acmp_ne C 6 13 dXY_copyOf3_3 rfl rfl (fun h9 => absurd rfl h9) (fun _ => ?_)
  refine v_iload_n C 7 dXY_copyOf3_6 rfl rfl ?_
  refine na_XY_2 C 10 dXY_copyOf3_7 rfl N rfl (by omega) (by omega) (by omega) (fun a ha => ?_)
  refine v_goto C 24 dXY_copyOf3_10 rfl ?_
  first | refine v_astore_n C 25 _ dXY_copyOf3_24 rfl (Nat.lt_of_lt_of_le (Nat.lt_succ_self _) (Nat.le_of_ble_eq_true rfl)) rfl ?_ | refine v_astore_nN C 25 _ dXY_copyOf3_24 rfl (Nat.lt_of_lt_of_le (Nat.lt_succ_self _) (Nat.le_of_ble_eq_true rfl)) rfl ?_ | refine v_astore_nQ C 25 _ dXY_copyOf3_24 rfl (Nat.lt_of_lt_of_le (Nat.lt_succ_self _) (Nat.le_of_ble_eq_true rfl)) rfl ?_
  first | refine v_aload_n C 26 dXY_copyOf3_25 rfl rfl ?_ | refine v_aload_nN C 26 dXY_copyOf3_25 rfl rfl ?_ | refine v_aload_nQ C 26 dXY_copyOf3_25 rfl rfl ?_
  refine v_iconst C 27 dXY_copyOf3_26 rfl (nI 0) (by decide) ?_
  first | refine v_aload_n C 28 dXY_copyOf3_27 rfl rfl ?_ | refine v_aload_nN C 28 dXY_copyOf3_27 rfl rfl ?_ | refine v_aload_nQ C 28 dXY_copyOf3_27 rfl rfl ?_
  refine v_iconst C 29 dXY_copyOf3_28 rfl (nI 0) (by decide) ?_
  first | refine v_aload_n C 30 dXY_copyOf3_29 rfl rfl ?_ | refine v_aload_nN C 30 dXY_copyOf3_29 rfl rfl ?_ | refine v_aload_nQ C 30 dXY_copyOf3_29 rfl rfl ?_
  have hne : ed ≠ a := ne_n hM ha
  have hM1 : mp_u M a (ar_q (gx_O g) N (fun _ => none)) ed = some (ar_q (gx_O g) cap f) := (mp_un hne).trans hM
  refine v_alen C 31 1 rfl dXY_copyOf3_30 rfl hM1 ?_
  refine v_iload_n C 32 dXY_copyOf3_31 rfl rfl ?_
  refine min_XY_304 C 35 dXY_copyOf3_32 rfl (Nat.le_of_ble_eq_true rfl) (Nat.le_of_ble_eq_true rfl) (by omega) (by omega) ?_
  refine v_acopy C 38 (h := fun _ => none) al_192 al_194 al_193 al_30 dXY_copyOf3_35 rfl hM1 mp_us cap e1 (Nat.le_refl _) hc (by omega) (fun i hi y hy => ?_) (Nat.le_of_ble_eq_true rfl) (by decide) ?_
  · obtain ⟨fs, hfs⟩ := hel i hi y hy
    exact ⟨fs, (mp_un (ne_n hfs ha)).trans hfs⟩
  first | refine v_aload_n C 39 dXY_copyOf3_38 rfl rfl ?_ | refine v_aload_nN C 39 dXY_copyOf3_38 rfl rfl ?_ | refine v_aload_nQ C 39 dXY_copyOf3_38 rfl rfl ?_
  refine v_aret C Rx (r := some a) (Or.inr ⟨_, rfl⟩) dXY_copyOf3_39 (by omega) (by omega) ⟨_, rfl, a, rfl, ha, mp_uu⟩
set_option maxHeartbeats 4000000 in
set_option maxRecDepth 100000 in
theorem c_Y_copyOf2 (g : gx_T) {M : mp_M} {ed cap : Nat} {f : Nat → Option Nat} (hM : M ed = some (ar_q (gx_O g) cap f)) (N : Nat) (hc : cap ≤ N) (hN : N ≤ 1000) (hel : ∀ i, i < cap → ∀ y, f i = some y → ∃ fs, M y = some (.inr (ci_T, fs))) : Ct g yXY_copyOf2 cXY_copyOf2 2 (some (.array (.object "java/lang/Object"))) 2 [.ref ed, .int (nI N)] M (pq (fun o M' => ∃ a : Nat, o = some a ∧ M a = none ∧ M' = mp_u M a (ar_q (gx_O g) N (va_cpy f (fun _ => none) 0 0 cap)))) 1 1000 := by
  refine ct_intro (L0 := [some (.ref ed), some (.int (nI N))]) (by decide) (Nat.le_of_ble_eq_true rfl) rfl rfl (fun x C Rx I => ?_)
  first | refine v_aload_n C 1 dXY_copyOf2_0 rfl rfl ?_ | refine v_aload_nN C 1 dXY_copyOf2_0 rfl rfl ?_ | refine v_aload_nQ C 1 dXY_copyOf2_0 rfl rfl ?_
  refine v_iload_n C 2 dXY_copyOf2_1 rfl rfl ?_
  first | refine v_aload_n C 3 dXY_copyOf2_2 rfl rfl ?_ | refine v_aload_nN C 3 dXY_copyOf2_2 rfl rfl ?_ | refine v_aload_nQ C 3 dXY_copyOf2_2 rfl rfl ?_
  refine v_getC C 6 al_178 al_472 al_179 al_185 dXY_copyOf2_3 rfl (Nat.le_of_ble_eq_true rfl) (Nat.le_of_ble_eq_true rfl) hM ?_
  refine v_rq 9 (cl_XY_300 C ((c_Y_copyOf3 g hM N hc hN hel)) dXY_copyOf2_6 rfl rfl (Nat.le_of_ble_eq_true rfl) (Nat.le_of_ble_eq_true rfl) (Nat.le_of_ble_eq_true rfl) (by omega) (by omega)) rfl (fun r M2 hr => ?_)
  refine v_aret C Rx (Or.inr ⟨_, rfl⟩) dXY_copyOf2_9 (by omega) (by omega) ⟨_, rfl, hr⟩
set_option maxHeartbeats 4000000 in
set_option maxRecDepth 100000 in
theorem c_A_grow1 (g : gx_T) {M : mp_M} {rl : Nat} {mc : Int32} (hM : M rl = some (.inr (ci_A, [.int mc, .ref (gx_e g), .int (nI 0)]))) : Ct g yXA_grow1 cXA_grow1 4 (some (.array (.object "java/lang/Object"))) 3 [.ref rl, .int (nI 1)] M (pq (fun o M' => ∃ a : Nat, o = some a ∧ M a = none ∧ M' = mp_u (mp_u M a (ar_q (gx_O g) 10 (fun _ => none))) rl (.inr (ci_A, [.int mc, .ref a, .int (nI 0)])))) 1 1000 := by
  refine ct_intro (L0 := [some (.ref rl), some (.int (nI 1)), none, none]) (by decide) (Nat.le_of_ble_eq_true rfl) rfl rfl (fun x C Rx I => ?_)
  first | refine v_aload_n C 1 dXA_grow1_0 rfl rfl ?_ | refine v_aload_nN C 1 dXA_grow1_0 rfl rfl ?_ | refine v_aload_nQ C 1 dXA_grow1_0 rfl rfl ?_
  refine gt_XA_9 C 4 dXA_grow1_1 rfl hM rfl ?_
  refine v_alenE C 5 dXA_grow1_4 rfl ?_
  refine v_istore_n C 6 _ dXA_grow1_5 rfl (Nat.lt_of_lt_of_le (Nat.lt_succ_self _) (Nat.le_of_ble_eq_true rfl)) rfl ?_
  refine v_iload_n C 7 dXA_grow1_6 rfl rfl ?_
  refine v_if_gt C 10 20 dXA_grow1_7 rfl rfl (fun h9 => False.elim (by first | exact h9 ((by decide)) | exact absurd h9 ((by decide)))) (fun h9 => ?_)
  first | refine v_aload_n C 11 dXA_grow1_10 rfl rfl ?_ | refine v_aload_nN C 11 dXA_grow1_10 rfl rfl ?_ | refine v_aload_nQ C 11 dXA_grow1_10 rfl rfl ?_
  refine gt_XA_9 C 14 dXA_grow1_11 rfl hM rfl ?_
  refine v_gets C 17 al_60 dXA_grow1_14 rfl ?_
  refine v_acmp_eq C 20 45 dXA_grow1_17 rfl rfl (fun _ => ?_) (fun h9 => absurd rfl h9)
  first | refine v_aload_n C 46 dXA_grow1_45 rfl rfl ?_ | refine v_aload_nN C 46 dXA_grow1_45 rfl rfl ?_ | refine v_aload_nQ C 46 dXA_grow1_45 rfl rfl ?_
  refine v_bipush C 48 dXA_grow1_46 rfl (nI 10) (by decide) ?_
  refine v_iload_n C 49 dXA_grow1_48 rfl rfl ?_
  refine max_XA_79 C 52 dXA_grow1_49 rfl (Nat.le_of_ble_eq_true rfl) (Nat.le_of_ble_eq_true rfl) (by omega) (by omega) ?_
  refine v_top _ (.int (nI 10)) (congrArg Value.int (by decide)) ?_
  refine na_XA_7 C 55 dXA_grow1_52 rfl 10 rfl (by decide) (by omega) (by omega) (fun a ha => ?_)
  refine v_dup_x1 C 56 dXA_grow1_55 rfl rfl rfl ?_
  refine pt_XA_9 C 59 dXA_grow1_56 rfl rfl rfl ((mp_un (ne_n hM ha)).trans hM) (Nat.lt_of_lt_of_le (Nat.lt_succ_self _) (Nat.le_of_ble_eq_true rfl)) _ rfl ?_
  refine v_aret C Rx (r := some a) (Or.inr ⟨_, rfl⟩) dXA_grow1_59 (by omega) (by omega) ⟨_, rfl, a, rfl, ha, rfl⟩
set_option maxHeartbeats 4000000 in
set_option maxRecDepth 100000 in
theorem c_A_grow1b (g : gx_T) {M : mp_M} {rl ed n : Nat} {mc : Int32} {f : Nat → Option Nat} (hM : M rl = some (.inr (ci_A, [.int mc, .ref ed, .int (nI n)]))) (hE : M ed = some (ar_q (gx_O g) n f)) (h10 : 10 ≤ n) (hn : n ≤ 600) (hel : ∀ i, i < n → ∀ y, f i = some y → ∃ fs, M y = some (.inr (ci_T, fs))) : Ct g yXA_grow1 cXA_grow1 4 (some (.array (.object "java/lang/Object"))) 3 [.ref rl, .int (nI (n + 1))] M (pq (fun o M' => ∃ a : Nat, o = some a ∧ M a = none ∧ M' = mp_u (mp_u M a (ar_q (gx_O g) (n + n / 2) (va_cpy f (fun _ => none) 0 0 n))) rl (.inr (ci_A, [.int mc, .ref a, .int (nI n)])))) 1 1000 := by
  refine ct_intro (L0 := [some (.ref rl), some (.int (nI (n + 1))), none, none]) (by decide) (Nat.le_of_ble_eq_true rfl) rfl rfl (fun x C Rx I => ?_)
  first | refine v_aload_n C 1 dXA_grow1_0 rfl rfl ?_ | refine v_aload_nN C 1 dXA_grow1_0 rfl rfl ?_ | refine v_aload_nQ C 1 dXA_grow1_0 rfl rfl ?_
  refine gt_XA_9 C 4 dXA_grow1_1 rfl hM rfl ?_
  refine v_alen C 5 1 rfl dXA_grow1_4 rfl hE ?_
  refine v_istore_n C 6 _ dXA_grow1_5 rfl (Nat.lt_of_lt_of_le (Nat.lt_succ_self _) (Nat.le_of_ble_eq_true rfl)) rfl ?_
  refine v_iload_n C 7 dXA_grow1_6 rfl rfl ?_
  refine v_if_gt C 10 20 dXA_grow1_7 rfl rfl (fun h9 => ?_) (fun h9 => False.elim (by first | exact h9 ((show nI 0 < nI n from nI_lt (by omega) (by omega))) | exact absurd h9 ((show nI 0 < nI n from nI_lt (by omega) (by omega)))))
  refine v_iload_n C 21 dXA_grow1_20 rfl rfl ?_
  refine v_iload_n C 22 dXA_grow1_21 rfl rfl ?_
  refine v_iload_n C 23 dXA_grow1_22 rfl rfl ?_
  refine v_isub C 24 dXA_grow1_23 rfl ?_
  refine v_top _ (.int (nI 1)) (congrArg Value.int ((nI_sb (by omega)).trans (by rw [Nat.add_sub_cancel_left]))) ?_
  refine v_iload_n C 25 dXA_grow1_24 rfl rfl ?_
  refine v_iconst C 26 dXA_grow1_25 rfl (nI 1) (by decide) ?_
  refine v_ishr C 27 dXA_grow1_26 rfl ?_
  refine v_top _ (.int (nI (n / 2))) (congrArg Value.int (shr1 n (by omega))) ?_
  refine v_ri 30 (cl_XA_73 C ((c_U_newLength g n 1 (n / 2) (by omega) (by omega) (by omega) (by omega))) dXA_grow1_27 rfl rfl (Nat.le_of_ble_eq_true rfl) (Nat.le_of_ble_eq_true rfl) (Nat.le_of_ble_eq_true rfl) (by omega) (by omega)) rfl (fun r M2 hr => ?_)
  obtain ⟨rfl, rfl⟩ := hr
  have e1 : max 1 (n / 2) = n / 2 := Nat.max_eq_right (by omega)
  rw [e1]
  refine v_istore_n C 31 _ dXA_grow1_30 rfl (Nat.lt_of_lt_of_le (Nat.lt_succ_self _) (Nat.le_of_ble_eq_true rfl)) rfl ?_
  first | refine v_aload_n C 32 dXA_grow1_31 rfl rfl ?_ | refine v_aload_nN C 32 dXA_grow1_31 rfl rfl ?_ | refine v_aload_nQ C 32 dXA_grow1_31 rfl rfl ?_
  first | refine v_aload_n C 33 dXA_grow1_32 rfl rfl ?_ | refine v_aload_nN C 33 dXA_grow1_32 rfl rfl ?_ | refine v_aload_nQ C 33 dXA_grow1_32 rfl rfl ?_
  refine gt_XA_9 C 36 dXA_grow1_33 rfl hM rfl ?_
  refine v_iload_n C 37 dXA_grow1_36 rfl rfl ?_
  refine v_rq 40 (cl_XA_66 C ((c_Y_copyOf2 g hE (n + n / 2) (by omega) (by omega) hel)) dXA_grow1_37 rfl rfl (Nat.le_of_ble_eq_true rfl) (Nat.le_of_ble_eq_true rfl) (Nat.le_of_ble_eq_true rfl) (by omega) (by omega)) rfl (fun r M2 hr => ?_)
  obtain ⟨a, rfl, ha, rfl⟩ := hr
  refine v_dup_x1 C 41 dXA_grow1_40 rfl rfl rfl ?_
  refine pt_XA_9 C 44 dXA_grow1_41 rfl rfl rfl ((mp_un (ne_n hM ha)).trans hM) (Nat.lt_of_lt_of_le (Nat.lt_succ_self _) (Nat.le_of_ble_eq_true rfl)) _ rfl ?_
  refine v_aret C Rx (r := some a) (Or.inr ⟨_, rfl⟩) dXA_grow1_44 (by omega) (by omega) ⟨_, rfl, a, rfl, ha, rfl⟩
set_option maxHeartbeats 4000000 in
set_option maxRecDepth 100000 in
theorem c_A_grow0 (g : gx_T) {M : mp_M} {rl : Nat} {mc : Int32} (hM : M rl = some (.inr (ci_A, [.int mc, .ref (gx_e g), .int (nI 0)]))) : Ct g yXA_grow0 cXA_grow0 1 (some (.array (.object "java/lang/Object"))) 4 [.ref rl] M (pq (fun o M' => ∃ a : Nat, o = some a ∧ M a = none ∧ M' = mp_u (mp_u M a (ar_q (gx_O g) 10 (fun _ => none))) rl (.inr (ci_A, [.int mc, .ref a, .int (nI 0)])))) 1 1000 := by
  refine ct_intro (L0 := [some (.ref rl)]) (by decide) (Nat.le_of_ble_eq_true rfl) rfl rfl (fun x C Rx I => ?_)
  first | refine v_aload_n C 1 dXA_grow0_0 rfl rfl ?_ | refine v_aload_nN C 1 dXA_grow0_0 rfl rfl ?_ | refine v_aload_nQ C 1 dXA_grow0_0 rfl rfl ?_
  first | refine v_aload_n C 2 dXA_grow0_1 rfl rfl ?_ | refine v_aload_nN C 2 dXA_grow0_1 rfl rfl ?_ | refine v_aload_nQ C 2 dXA_grow0_1 rfl rfl ?_
  refine gt_XA_48 C 5 dXA_grow0_2 rfl hM rfl ?_
  refine v_iconst C 6 dXA_grow0_5 rfl (nI 1) (by decide) ?_
  refine v_iadd C 7 dXA_grow0_6 rfl ?_
  refine v_top _ (.int (nI 1)) (congrArg Value.int (by decide)) ?_
  refine v_rq 10 (cl_XA_69 C ((c_A_grow1 g hM)) hM dXA_grow0_7 rfl rfl (Nat.le_of_ble_eq_true rfl) (Nat.le_of_ble_eq_true rfl) (Nat.le_of_ble_eq_true rfl) (by omega) (by omega)) rfl (fun r M2 hr => ?_)
  refine v_aret C Rx (Or.inr ⟨_, rfl⟩) dXA_grow0_10 (by omega) (by omega) ⟨_, rfl, hr⟩
set_option maxHeartbeats 4000000 in
set_option maxRecDepth 100000 in
theorem c_A_grow0b (g : gx_T) {M : mp_M} {rl ed n : Nat} {mc : Int32} {f : Nat → Option Nat} (hM : M rl = some (.inr (ci_A, [.int mc, .ref ed, .int (nI n)]))) (hE : M ed = some (ar_q (gx_O g) n f)) (h10 : 10 ≤ n) (hn : n ≤ 600) (hel : ∀ i, i < n → ∀ y, f i = some y → ∃ fs, M y = some (.inr (ci_T, fs))) : Ct g yXA_grow0 cXA_grow0 1 (some (.array (.object "java/lang/Object"))) 4 [.ref rl] M (pq (fun o M' => ∃ a : Nat, o = some a ∧ M a = none ∧ M' = mp_u (mp_u M a (ar_q (gx_O g) (n + n / 2) (va_cpy f (fun _ => none) 0 0 n))) rl (.inr (ci_A, [.int mc, .ref a, .int (nI n)])))) 1 1000 := by
  refine ct_intro (L0 := [some (.ref rl)]) (by decide) (Nat.le_of_ble_eq_true rfl) rfl rfl (fun x C Rx I => ?_)
  first | refine v_aload_n C 1 dXA_grow0_0 rfl rfl ?_ | refine v_aload_nN C 1 dXA_grow0_0 rfl rfl ?_ | refine v_aload_nQ C 1 dXA_grow0_0 rfl rfl ?_
  first | refine v_aload_n C 2 dXA_grow0_1 rfl rfl ?_ | refine v_aload_nN C 2 dXA_grow0_1 rfl rfl ?_ | refine v_aload_nQ C 2 dXA_grow0_1 rfl rfl ?_
  refine gt_XA_48 C 5 dXA_grow0_2 rfl hM rfl ?_
  refine v_iconst C 6 dXA_grow0_5 rfl (nI 1) (by decide) ?_
  refine v_iadd C 7 dXA_grow0_6 rfl ?_
  refine v_top _ (.int (nI (n + 1))) (congrArg Value.int (nI_add _ _)) ?_
  refine v_rq 10 (cl_XA_69 C ((c_A_grow1b g hM hE h10 hn hel)) hM dXA_grow0_7 rfl rfl (Nat.le_of_ble_eq_true rfl) (Nat.le_of_ble_eq_true rfl) (Nat.le_of_ble_eq_true rfl) (by omega) (by omega)) rfl (fun r M2 hr => ?_)
  refine v_aret C Rx (Or.inr ⟨_, rfl⟩) dXA_grow0_10 (by omega) (by omega) ⟨_, rfl, hr⟩
theorem cw_l_fin {g : gx_T} {F : Nat → Prop} {M : mp_M} {rl ed cap b : Nat} {mc : Int32} {f : Nat → Option Nat} {as : List Nat} (h1 : ¬ F rl) (h2 : ¬ F ed) (hM : M rl = some (.inr (ci_A, [.int mc, .ref ed, .int (nI as.length)]))) (hE : M ed = some (ar_q (gx_O g) cap f)) (hlt : as.length < cap) (h10 : 10 ≤ cap) (hc : cap ≤ 1000) (hf : ∀ i, i < as.length → f i = as[i]?) : cw_l g F (mp_u (mp_u M ed (ar_q (gx_O g) cap (va_up f as.length (some b)))) rl (.inr (ci_A, [.int mc, .ref ed, .int (nI (as.length + 1))]))) rl (as ++ [b]) := by
  have hne : ed ≠ rl := fun z => ne_a hM hE z.symm
  refine ⟨mc, ed, h1, ?_, Or.inr ⟨cap, va_up f as.length (some b), h2, by rw [mp_un hne]; exact mp_us, ?_, h10, hc, fun i hi => ?_⟩⟩
  · rw [List.length_append]
    exact mp_us
  · rw [List.length_append]
    exact hlt
  · rw [List.length_append] at hi
    have hi : i < as.length + 1 := hi
    by_cases h : i < as.length
    · rw [va_up_ne _ _ (by omega), List.getElem?_append_left h]
      exact hf i h
    · obtain rfl : i = as.length := by omega
      rw [va_up_self, List.getElem?_append_right (Nat.le_refl _), Nat.sub_self]
      rfl
set_option maxHeartbeats 4000000 in
set_option maxRecDepth 100000 in
theorem c_A_addp (g : gx_T) {F : Nat → Prop} {M : mp_M} {rl ed b : Nat} {mc : Int32} {as : List Nat} {vs : List Value} (h : cw_lr g F M rl mc ed as) (hb : M b = some (.inr (ci_T, vs))) (hel : ∀ y, y ∈ as → ∃ fs, M y = some (.inr (ci_T, fs))) (hF : ∀ q, F q → M q ≠ none) (hlen : as.length ≤ 600) : Ct g yXA_addp cXA_addp 4 none 5 [.ref rl, .ref b, .ref ed, .int (nI as.length)] M (pv (fun M' => mp_k (lq g F M rl) M M' ∧ cw_l g F M' rl (as ++ [b]))) 1 1000 := by
  refine ct_intro (L0 := [some (.ref rl), some (.ref b), some (.ref ed), some (.int (nI as.length))]) (by decide) (Nat.le_of_ble_eq_true rfl) rfl rfl (fun x C Rx I => ?_)
  obtain ⟨h1, h2, h3⟩ := id h
  have fin : ∀ (M2 : mp_M) (e2 cap k n : Nat) (f : Nat → Option Nat), k ≤ 1 → n ≤ 1000 → ¬ F e2 → M2 rl = some (.inr (ci_A, [.int mc, .ref e2, .int (nI as.length)])) → M2 e2 = some (ar_q (gx_O g) cap f) → (M e2 = none ∨ ∃ (c : Nat) (f : Nat → Option Nat), M e2 = some (ar_q (gx_O g) c f)) → mp_k (fun q => q = rl) M M2 → as.length < cap → 10 ≤ cap → cap ≤ 1000 → (∀ i, i < as.length → f i = as[i]?) → VV g x M2 k n 11 [some (.ref rl), some (.ref b), some (.ref e2), some (.int (nI as.length))] [] := by
    intro M2 e2 cap k n f hk hn g1 g2 g3 g4 g5 g6 g7 g8 g9
    have hbr : b ≠ rl := ne_o hb h2 (by decide)
    have hb2 := g5 _ _ hbr hb
    first | refine v_aload_n C 12 dXA_addp_11 rfl rfl ?_ | refine v_aload_nN C 12 dXA_addp_11 rfl rfl ?_ | refine v_aload_nQ C 12 dXA_addp_11 rfl rfl ?_
    refine v_iload_n C 13 dXA_addp_12 rfl rfl ?_
    first | refine v_aload_n C 14 dXA_addp_13 rfl rfl ?_ | refine v_aload_nN C 14 dXA_addp_13 rfl rfl ?_ | refine v_aload_nQ C 14 dXA_addp_13 rfl rfl ?_
    refine v_aastO C 15 dXA_addp_14 rfl g3 hb2 as.length rfl g6 (by omega) ?_
    first | refine v_aload_n C 16 dXA_addp_15 rfl rfl ?_ | refine v_aload_nN C 16 dXA_addp_15 rfl rfl ?_ | refine v_aload_nQ C 16 dXA_addp_15 rfl rfl ?_
    refine v_iload_n C 17 dXA_addp_16 rfl rfl ?_
    refine v_iconst C 18 dXA_addp_17 rfl (nI 1) (by decide) ?_
    refine v_iadd C 19 dXA_addp_18 rfl ?_
    refine v_top _ (.int (nI (as.length + 1))) (congrArg Value.int (nI_add _ _)) ?_
    have hne : rl ≠ e2 := ne_a g2 g3
    refine pt_XA_48 C 22 dXA_addp_19 rfl rfl rfl ((mp_un hne).trans g2) (Nat.lt_of_lt_of_le (Nat.lt_succ_self _) (Nat.le_of_ble_eq_true rfl)) _ rfl ?_
    refine v_vret C Rx dXA_addp_22 (by omega) (by omega) ⟨rfl, ?_, cw_l_fin h1 g1 g2 g3 g6 g7 g8 g9⟩
    intro q e hq hm
    have n1 : q ≠ rl := fun z => hq (Or.inl z)
    have n2 : q ≠ e2 := by
      intro z
      rcases g4 with g4 | g4
      · rw [z, g4] at hm
        cases hm
      · rw [z] at hq
        exact hq (Or.inr ⟨g1, g4⟩)
    rw [mp_un n1, mp_un n2]
    exact g5 q e n1 hm
  have nF : ∀ a, M a = none → ¬ F a := fun a ha z => hF a z ha
  rcases h3 with ⟨rfl, rfl⟩ | ⟨cap, f, b1, b2, b3, b4, b5, b6⟩
  · refine v_iload_n C 1 dXA_addp_0 rfl rfl ?_
    first | refine v_aload_n C 2 dXA_addp_1 rfl rfl ?_ | refine v_aload_nN C 2 dXA_addp_1 rfl rfl ?_ | refine v_aload_nQ C 2 dXA_addp_1 rfl rfl ?_
    refine v_alenE C 3 dXA_addp_2 rfl ?_
    refine v_icmp_ne C 6 11 dXA_addp_3 rfl rfl (fun h9 => False.elim (by first | exact h9 ((fun z => z rfl)) | exact absurd h9 ((fun z => z rfl)))) (fun h9 => ?_)
    first | refine v_aload_n C 7 dXA_addp_6 rfl rfl ?_ | refine v_aload_nN C 7 dXA_addp_6 rfl rfl ?_ | refine v_aload_nQ C 7 dXA_addp_6 rfl rfl ?_
    refine v_rq 10 (cl_XA_129 C ((c_A_grow0 g h2)) h2 dXA_addp_7 rfl rfl (Nat.le_of_ble_eq_true rfl) (Nat.le_of_ble_eq_true rfl) (Nat.le_of_ble_eq_true rfl) (by omega) (by omega)) rfl (fun r M2 hr => ?_)
    obtain ⟨a, rfl, ha, rfl⟩ := hr
    first | refine v_astore_n C 11 _ dXA_addp_10 rfl (Nat.lt_of_lt_of_le (Nat.lt_succ_self _) (Nat.le_of_ble_eq_true rfl)) rfl ?_ | refine v_astore_nN C 11 _ dXA_addp_10 rfl (Nat.lt_of_lt_of_le (Nat.lt_succ_self _) (Nat.le_of_ble_eq_true rfl)) rfl ?_ | refine v_astore_nQ C 11 _ dXA_addp_10 rfl (Nat.lt_of_lt_of_le (Nat.lt_succ_self _) (Nat.le_of_ble_eq_true rfl)) rfl ?_
    have hne : a ≠ rl := fun z => ne_n h2 ha z.symm
    refine fin _ a 10 _ _ (fun _ => none) (by omega) (by omega) (nF a ha) mp_us (by rw [mp_un hne]; exact mp_us) (Or.inl ha) (mp_k.tr (mp_k.new ha) (mp_k.up rfl)) (by decide) (by decide) (by decide) (fun i hi => absurd hi (Nat.not_lt_zero i))
  · refine v_iload_n C 1 dXA_addp_0 rfl rfl ?_
    first | refine v_aload_n C 2 dXA_addp_1 rfl rfl ?_ | refine v_aload_nN C 2 dXA_addp_1 rfl rfl ?_ | refine v_aload_nQ C 2 dXA_addp_1 rfl rfl ?_
    refine v_alen C 3 1 rfl dXA_addp_2 rfl b2 ?_
    refine v_icmp_ne C 6 11 dXA_addp_3 rfl rfl (fun h4 => ?_) (fun h4 => ?_)
    · refine fin M ed cap _ _ f (by omega) (by omega) b1 h2 b2 (Or.inr ⟨cap, f, b2⟩) mp_k.rf ?_ b4 b5 b6
      have : as.length ≠ cap := fun z => h4 (by rw [z])
      omega
    · have hc : as.length = cap := (nI_eq (by omega) (by omega)).mp (by first | exact h4 | exact Classical.not_not.mp h4)
      subst hc
      first | refine v_aload_n C 7 dXA_addp_6 rfl rfl ?_ | refine v_aload_nN C 7 dXA_addp_6 rfl rfl ?_ | refine v_aload_nQ C 7 dXA_addp_6 rfl rfl ?_
      refine v_rq 10 (cl_XA_129 C ((c_A_grow0b g h2 b2 b4 hlen (fun i hi y hy => hel y (by rw [b6 i hi] at hy; exact List.mem_of_getElem? hy)))) h2 dXA_addp_7 rfl rfl (Nat.le_of_ble_eq_true rfl) (Nat.le_of_ble_eq_true rfl) (Nat.le_of_ble_eq_true rfl) (by omega) (by omega)) rfl (fun r M2 hr => ?_)
      obtain ⟨a, rfl, ha, rfl⟩ := hr
      first | refine v_astore_n C 11 _ dXA_addp_10 rfl (Nat.lt_of_lt_of_le (Nat.lt_succ_self _) (Nat.le_of_ble_eq_true rfl)) rfl ?_ | refine v_astore_nN C 11 _ dXA_addp_10 rfl (Nat.lt_of_lt_of_le (Nat.lt_succ_self _) (Nat.le_of_ble_eq_true rfl)) rfl ?_ | refine v_astore_nQ C 11 _ dXA_addp_10 rfl (Nat.lt_of_lt_of_le (Nat.lt_succ_self _) (Nat.le_of_ble_eq_true rfl)) rfl ?_
      have hne : a ≠ rl := fun z => ne_n h2 ha z.symm
      refine fin _ a (as.length + as.length / 2) _ _ (va_cpy f (fun _ => none) 0 0 as.length) (by omega) (by omega) (nF a ha) mp_us (by rw [mp_un hne]; exact mp_us) (Or.inl ha) (mp_k.tr (mp_k.new ha) (mp_k.up rfl)) (by omega) (by omega) (by omega) (fun i hi => ?_)
      rw [pk_cpy_in (Nat.zero_le _) (by omega), Nat.sub_zero, Nat.zero_add]
      exact b6 i hi
set_option maxHeartbeats 4000000 in
set_option maxRecDepth 100000 in
theorem c_A_add (g : gx_T) {F : Nat → Prop} {M : mp_M} {rl b : Nat} {as : List Nat} {vs : List Value} (h : cw_l g F M rl as) (hb : M b = some (.inr (ci_T, vs))) (hel : ∀ y, y ∈ as → ∃ fs, M y = some (.inr (ci_T, fs))) (hF : ∀ q, F q → M q ≠ none) (hlen : as.length ≤ 600) : Ct g yXA_add cXA_add 2 (some .boolean) 6 [.ref rl, .ref b] M (pi_ (fun v M' => mp_k (lq g F M rl) M M' ∧ cw_l g F M' rl (as ++ [b]))) 1 1000 := by
  refine ct_intro (L0 := [some (.ref rl), some (.ref b)]) (by decide) (Nat.le_of_ble_eq_true rfl) rfl rfl (fun x C Rx I => ?_)
  obtain ⟨mc, ed, h1, h2, h3⟩ := h
  first | refine v_aload_n C 1 dXA_add_0 rfl rfl ?_ | refine v_aload_nN C 1 dXA_add_0 rfl rfl ?_ | refine v_aload_nQ C 1 dXA_add_0 rfl rfl ?_
  refine v_dup C 2 dXA_add_1 rfl rfl ?_
  refine gt_XA_63 C 5 dXA_add_2 rfl h2 rfl ?_
  refine v_iconst C 6 dXA_add_5 rfl (nI 1) (by decide) ?_
  refine v_iadd C 7 dXA_add_6 rfl ?_
  refine pt_XA_63 C 10 dXA_add_7 rfl rfl rfl h2 (Nat.lt_of_lt_of_le (Nat.lt_succ_self _) (Nat.le_of_ble_eq_true rfl)) _ rfl ?_
  have n1 : ∀ {q : Nat} {e : va_E}, q ≠ rl → M q = some e → mp_u M rl (.inr (ci_A, [.int (mc + nI 1), .ref ed, .int (nI as.length)])) q = some e := fun hq hm => (mp_un hq).trans hm
  first | refine v_aload_n C 11 dXA_add_10 rfl rfl ?_ | refine v_aload_nN C 11 dXA_add_10 rfl rfl ?_ | refine v_aload_nQ C 11 dXA_add_10 rfl rfl ?_
  first | refine v_aload_n C 12 dXA_add_11 rfl rfl ?_ | refine v_aload_nN C 12 dXA_add_11 rfl rfl ?_ | refine v_aload_nQ C 12 dXA_add_11 rfl rfl ?_
  first | refine v_aload_n C 13 dXA_add_12 rfl rfl ?_ | refine v_aload_nN C 13 dXA_add_12 rfl rfl ?_ | refine v_aload_nQ C 13 dXA_add_12 rfl rfl ?_
  refine gt_XA_9 C 16 dXA_add_13 rfl mp_us rfl ?_
  first | refine v_aload_n C 17 dXA_add_16 rfl rfl ?_ | refine v_aload_nN C 17 dXA_add_16 rfl rfl ?_ | refine v_aload_nQ C 17 dXA_add_16 rfl rfl ?_
  refine gt_XA_48 C 20 dXA_add_17 rfl mp_us rfl ?_
  have h' : cw_lr g F (mp_u M rl (.inr (ci_A, [.int (mc + nI 1), .ref ed, .int (nI as.length)]))) rl (mc + nI 1) ed as := by
    refine ⟨h1, mp_us, ?_⟩
    rcases h3 with h3 | ⟨cap, f, b1, b2, b3⟩
    · exact Or.inl h3
    · exact Or.inr ⟨cap, f, b1, n1 (fun z => ne_a h2 b2 z.symm) b2, b3⟩
  refine v_rv 23 (cl_XA_131 C ((c_A_addp g h' (n1 (ne_o hb h2 (by decide)) hb) (fun y hy => (hel y hy).imp (fun fs hfs => n1 (ne_o hfs h2 (by decide)) hfs)) (fun q hq hm => hF q hq (by rw [← hm, mp_un (fun z => h1 (by rw [← z]; exact hq))])) hlen)) mp_us dXA_add_20 rfl rfl (Nat.le_of_ble_eq_true rfl) (Nat.le_of_ble_eq_true rfl) (Nat.le_of_ble_eq_true rfl) (by omega) (by omega)) rfl (fun M2 hr => ?_)
  obtain ⟨k1, k2⟩ := hr
  refine v_iconst C 24 dXA_add_23 rfl (nI 1) (by decide) ?_
  refine v_zret C Rx dXA_add_24 (by omega) (by omega) (Or.inr rfl) ⟨_, rfl, ?_, k2⟩
  intro q e hq hm
  have n2 : q ≠ rl := fun z => hq (Or.inl z)
  refine k1 q e (fun z => hq ?_) (n1 n2 hm)
  rcases z with z | ⟨z, c, f, y⟩
  · exact Or.inl z
  · rw [mp_un n2] at y
    exact Or.inr ⟨z, c, f, y⟩
set_option maxHeartbeats 4000000 in
set_option maxRecDepth 100000 in
theorem c_A_fastRemove (g : gx_T) {M : mp_M} {rl ed n cap : Nat} {mc : Int32} {f : Nat → Option Nat} (hM : M rl = some (.inr (ci_A, [.int mc, .ref ed, .int (nI (n + 1))]))) (hE : M ed = some (ar_q (gx_O g) cap f)) (hn : n < cap) (hc : cap ≤ 1000) : Ct g yXA_fastRemove cXA_fastRemove 4 none 1 [.ref rl, .ref ed, .int (nI n)] M (pv (fun M' => M' = mp_u (mp_u M rl (.inr (ci_A, [.int (mc + nI 1), .ref ed, .int (nI n)]))) ed (ar_q (gx_O g) cap (va_up f n none)))) 0 0 := by
  refine ct_intro (L0 := [some (.ref rl), some (.ref ed), some (.int (nI n)), none]) (by decide) (Nat.le_of_ble_eq_true rfl) rfl rfl (fun x C Rx I => ?_)
  first | refine v_aload_n C 1 dXA_fastRemove_0 rfl rfl ?_ | refine v_aload_nN C 1 dXA_fastRemove_0 rfl rfl ?_ | refine v_aload_nQ C 1 dXA_fastRemove_0 rfl rfl ?_
  refine v_dup C 2 dXA_fastRemove_1 rfl rfl ?_
  refine gt_XA_63 C 5 dXA_fastRemove_2 rfl hM rfl ?_
  refine v_iconst C 6 dXA_fastRemove_5 rfl (nI 1) (by decide) ?_
  refine v_iadd C 7 dXA_fastRemove_6 rfl ?_
  refine pt_XA_63 C 10 dXA_fastRemove_7 rfl rfl rfl hM (Nat.lt_of_lt_of_le (Nat.lt_succ_self _) (Nat.le_of_ble_eq_true rfl)) _ rfl ?_
  first | refine v_aload_n C 11 dXA_fastRemove_10 rfl rfl ?_ | refine v_aload_nN C 11 dXA_fastRemove_10 rfl rfl ?_ | refine v_aload_nQ C 11 dXA_fastRemove_10 rfl rfl ?_
  refine gt_XA_48 C 14 dXA_fastRemove_11 rfl mp_us rfl ?_
  refine v_iconst C 15 dXA_fastRemove_14 rfl (nI 1) (by decide) ?_
  refine v_isub C 16 dXA_fastRemove_15 rfl ?_
  refine v_top _ (.int (nI n)) (congrArg Value.int ((nI_sb (by omega)).trans (by rw [Nat.add_sub_cancel]))) ?_
  refine v_dup C 17 dXA_fastRemove_16 rfl rfl ?_
  refine v_istore_n C 18 _ dXA_fastRemove_17 rfl (Nat.lt_of_lt_of_le (Nat.lt_succ_self _) (Nat.le_of_ble_eq_true rfl)) rfl ?_
  refine v_iload_n C 19 dXA_fastRemove_18 rfl rfl ?_
  refine v_icmp_le C 22 34 dXA_fastRemove_19 rfl rfl (fun h9 => ?_) (fun h9 => False.elim (by first | exact h9 ((nI_le (Nat.le_refl _) (by omega))) | exact absurd h9 ((nI_le (Nat.le_refl _) (by omega)))))
  first | refine v_aload_n C 35 dXA_fastRemove_34 rfl rfl ?_ | refine v_aload_nN C 35 dXA_fastRemove_34 rfl rfl ?_ | refine v_aload_nQ C 35 dXA_fastRemove_34 rfl rfl ?_
  first | refine v_aload_n C 36 dXA_fastRemove_35 rfl rfl ?_ | refine v_aload_nN C 36 dXA_fastRemove_35 rfl rfl ?_ | refine v_aload_nQ C 36 dXA_fastRemove_35 rfl rfl ?_
  refine v_iload_n C 37 dXA_fastRemove_36 rfl rfl ?_
  refine v_dup_x1 C 38 dXA_fastRemove_37 rfl rfl rfl ?_
  refine pt_XA_48 C 41 dXA_fastRemove_38 rfl rfl rfl mp_us (Nat.lt_of_lt_of_le (Nat.lt_succ_self _) (Nat.le_of_ble_eq_true rfl)) _ rfl ?_
  rw [mp_uu]
  refine v_null C 42 dXA_fastRemove_41 rfl ?_
  refine v_aastN C 43 1 rfl dXA_fastRemove_42 rfl ((mp_un (fun z => ne_a hM hE z.symm)).trans hE) n rfl hn (by omega) ?_
  refine v_vret C Rx dXA_fastRemove_43 (by omega) (by omega) ⟨rfl, rfl⟩
set_option maxHeartbeats 4000000 in
set_option maxRecDepth 100000 in
theorem c_A_remove (g : gx_T) {F : Nat → Prop} {M : mp_M} {rl b : Nat} {as : List Nat} (h : cw_l g F M rl (as ++ [b])) (hlen : as.length ≤ 600) : Ct g yXA_remove cXA_remove 4 (some (.object "java/lang/Object")) 3 [.ref rl, .int (nI as.length)] M (pq (fun o M' => mp_k (lq g F M rl) M M' ∧ cw_l g F M' rl as)) 0 0 := by
  refine ct_intro (L0 := [some (.ref rl), some (.int (nI as.length)), none, none]) (by decide) (Nat.le_of_ble_eq_true rfl) rfl rfl (fun x C Rx I => ?_)
  obtain ⟨mc, ed, h1, h2, h3⟩ := h
  have hl : (as ++ [b]).length = as.length + 1 := by rw [List.length_append]; rfl
  rw [hl] at h2
  rcases h3 with ⟨h3, -⟩ | ⟨cap, f, b1, b2, b3, b4, b5, b6⟩
  · rw [h3] at hl
    cases hl
  rw [hl] at b3 b6
  refine v_iload_n C 1 dXA_remove_0 rfl rfl ?_
  first | refine v_aload_n C 2 dXA_remove_1 rfl rfl ?_ | refine v_aload_nN C 2 dXA_remove_1 rfl rfl ?_ | refine v_aload_nQ C 2 dXA_remove_1 rfl rfl ?_
  refine gt_XA_48 C 5 dXA_remove_2 rfl h2 rfl ?_
  refine v_ri 8 (cl_XA_118 C ((c_O_checkIndex g as.length (as.length + 1) (by omega) (by omega))) dXA_remove_5 rfl rfl (Nat.le_of_ble_eq_true rfl) (Nat.le_of_ble_eq_true rfl) (Nat.le_of_ble_eq_true rfl) (by omega) (by omega)) rfl (fun r M2 hr => ?_)
  obtain ⟨rfl, rfl⟩ := hr
  refine v_pop C 9 dXA_remove_8 rfl rfl ?_
  first | refine v_aload_n C 10 dXA_remove_9 rfl rfl ?_ | refine v_aload_nN C 10 dXA_remove_9 rfl rfl ?_ | refine v_aload_nQ C 10 dXA_remove_9 rfl rfl ?_
  refine gt_XA_9 C 13 dXA_remove_10 rfl h2 rfl ?_
  first | refine v_astore_n C 14 _ dXA_remove_13 rfl (Nat.lt_of_lt_of_le (Nat.lt_succ_self _) (Nat.le_of_ble_eq_true rfl)) rfl ?_ | refine v_astore_nN C 14 _ dXA_remove_13 rfl (Nat.lt_of_lt_of_le (Nat.lt_succ_self _) (Nat.le_of_ble_eq_true rfl)) rfl ?_ | refine v_astore_nQ C 14 _ dXA_remove_13 rfl (Nat.lt_of_lt_of_le (Nat.lt_succ_self _) (Nat.le_of_ble_eq_true rfl)) rfl ?_
  first | refine v_aload_n C 15 dXA_remove_14 rfl rfl ?_ | refine v_aload_nN C 15 dXA_remove_14 rfl rfl ?_ | refine v_aload_nQ C 15 dXA_remove_14 rfl rfl ?_
  refine v_iload_n C 16 dXA_remove_15 rfl rfl ?_
  refine v_aald C 17 1 rfl dXA_remove_16 rfl b2 as.length rfl (by omega) (by omega) ?_
  first | refine v_astore_n C 18 _ dXA_remove_17 rfl (Nat.lt_of_lt_of_le (Nat.lt_succ_self _) (Nat.le_of_ble_eq_true rfl)) rfl ?_ | refine v_astore_nN C 18 _ dXA_remove_17 rfl (Nat.lt_of_lt_of_le (Nat.lt_succ_self _) (Nat.le_of_ble_eq_true rfl)) rfl ?_ | refine v_astore_nQ C 18 _ dXA_remove_17 rfl (Nat.lt_of_lt_of_le (Nat.lt_succ_self _) (Nat.le_of_ble_eq_true rfl)) rfl ?_
  first | refine v_aload_n C 19 dXA_remove_18 rfl rfl ?_ | refine v_aload_nN C 19 dXA_remove_18 rfl rfl ?_ | refine v_aload_nQ C 19 dXA_remove_18 rfl rfl ?_
  first | refine v_aload_n C 20 dXA_remove_19 rfl rfl ?_ | refine v_aload_nN C 20 dXA_remove_19 rfl rfl ?_ | refine v_aload_nQ C 20 dXA_remove_19 rfl rfl ?_
  refine v_iload_n C 21 dXA_remove_20 rfl rfl ?_
  refine v_rv 24 (cl_XA_144 C ((c_A_fastRemove g h2 b2 (by omega) b5)) h2 dXA_remove_21 rfl rfl (Nat.le_of_ble_eq_true rfl) (Nat.le_of_ble_eq_true rfl) (Nat.le_of_ble_eq_true rfl) (by omega) (by omega)) rfl (fun M2 hr => ?_)
  obtain rfl := hr
  first | refine v_aload_n C 25 dXA_remove_24 rfl rfl ?_ | refine v_aload_nN C 25 dXA_remove_24 rfl rfl ?_ | refine v_aload_nQ C 25 dXA_remove_24 rfl rfl ?_
  have hne : rl ≠ ed := ne_a h2 b2
  refine v_aret C Rx (Or.inl ⟨_, rfl⟩) dXA_remove_25 (by omega) (by omega) ⟨_, rfl, ?_, mc + nI 1, ed, h1, (mp_un hne).trans mp_us, Or.inr ⟨cap, _, b1, mp_us, by omega, b4, b5, fun i hi => ?_⟩⟩
  · exact mp_k.tr (P := lq g F M rl) (mp_k.up (Or.inl rfl)) (mp_k.up (Or.inr ⟨b1, cap, f, b2⟩))
  · rw [va_up_ne _ _ (by omega), b6 i (by omega), List.getElem?_append_left hi]

