def tw (t : Nat) : Int32 := if t = 2147483647 then -1 else nI t
def rw_e (f : Nat → Int32) (p : Nat) (e : en_E) : Prop := f p = nI (en_k e) ∧ f (p + 1) = nI (en_r e) ∧ f (p + 2) = nI (en_c e) ∧ f (p + 3) = nI (en_l e) ∧ f (p + 4) = nI (en_p e) ∧ f (p + 5) = en_v e ∧ f (p + 6) = tw (en_t e)
theorem tw_n {e : en_E} (h : en_ok e) : (tw (en_t e) < 0 ↔ en_t e = 2147483647) := by
  unfold tw
  have := h.2.2.2.2.2.2.2
  by_cases ht : en_t e = 2147483647
  · rw [if_pos ht]
    exact ⟨fun _ => ht, fun _ => by decide⟩
  · rw [if_neg ht]
    exact ⟨fun z => absurd z (nI_pos (by omega)), fun z => absurd z ht⟩
theorem tw_lt {e f : en_E} (h : en_ok e) (h2 : en_ok f) (he : en_t e ≠ 2147483647) (hf : en_t f ≠ 2147483647) : (tw (en_t f) < tw (en_t e) ↔ en_t f < en_t e) := by
  have a1 := h.2.2.2.2.2.2.2
  have a2 := h2.2.2.2.2.2.2.2
  unfold tw
  rw [if_neg he, if_neg hf]
  exact nI_ltI (by omega) (by omega)
set_option maxHeartbeats 4000000 in
set_option maxRecDepth 100000 in
theorem c_M_point (g : gx_T) {M : mp_M} {a n p : Nat} {f : Nat → Int32} {e : en_E} (hM : M a = some (ar_i (gx_I g) n f)) (hn : n < 2 ^ 31) (hp : p < n) (he : rw_e f p e) (ok : en_ok e) : Ct g yXM_point cXM_point 2 (some .boolean) 1 [.ref a, .int (nI p)] M (pi_ (fun v M' => M = M' ∧ v = bI (decide (en_k e ≠ 2)))) 0 0 := by
  refine ct_intro (L0 := [some (.ref a), some (.int (nI p))]) (by decide) (Nat.le_of_ble_eq_true rfl) rfl rfl (fun x C E I => ?_)
  have hk2 := ok.1
  first | refine v_aload_n C 1 dXM_point_0 rfl rfl ?_ | refine v_aload_nN C 1 dXM_point_0 rfl rfl ?_ | refine v_aload_nQ C 1 dXM_point_0 rfl rfl ?_
  refine v_iload_n C 2 dXM_point_1 rfl rfl ?_
  refine v_iald C 3 dXM_point_2 rfl hM p rfl hp hn ?_
  rw [he.1]
  refine v_iconst C 4 dXM_point_3 rfl (nI 2) (by decide) ?_
  refine v_icmp_eq C 7 11 dXM_point_4 rfl rfl (fun h => ?_) (fun h => ?_)
  · refine v_iconst C 12 dXM_point_11 rfl (nI 0) (by decide) ?_
    refine v_zret C E dXM_point_12 (by omega) (by omega) (Or.inl rfl) ⟨_, rfl, rfl, (bI_f (decide_eq_false (fun z => z ((nI_eq (by omega) (by decide)).mp h)))).symm⟩
  · refine v_iconst C 8 dXM_point_7 rfl (nI 1) (by decide) ?_
    refine v_goto C 12 dXM_point_8 rfl ?_
    refine v_zret C E dXM_point_12 (by omega) (by omega) (Or.inr rfl) ⟨_, rfl, rfl, (bI_t (decide_eq_true (show en_k e ≠ 2 from fun z => h (by rw [z])))).symm⟩
set_option maxHeartbeats 4000000 in
set_option maxRecDepth 100000 in
theorem c_M_alike (g : gx_T) {M : mp_M} {a n p b n2 q : Nat} {f f2 : Nat → Int32} {e e2 : en_E} (hM : M a = some (ar_i (gx_I g) n f)) (hM2 : M b = some (ar_i (gx_I g) n2 f2)) (hn : n < 2 ^ 31) (hn2 : n2 < 2 ^ 31) (hp : p + 6 < n) (hq : q + 6 < n2) (he : rw_e f p e) (he2 : rw_e f2 q e2) (ok : en_ok e) (ok2 : en_ok e2) : Ct g yXM_alike cXM_alike 5 (some .boolean) 2 [.ref a, .int (nI p), .ref b, .int (nI q)] M (pi_ (fun v M' => M = M' ∧ v = bI (decide (en_s e = en_s e2)))) 0 0 := by
  refine ct_intro (L0 := [some (.ref a), some (.int (nI p)), some (.ref b), some (.int (nI q)), none]) (by decide) (Nat.le_of_ble_eq_true rfl) rfl rfl (fun x C E I => ?_)
  have inj := fun z => en_s_inj ok ok2 z
  have o1 := ok.2.1
  have o2 := ok2.2.1
  have o3 := ok.2.2.1
  have o4 := ok2.2.2.1
  have o5 := ok.2.2.2.1
  have o6 := ok2.2.2.2.1
  have fin0 : en_s e ≠ en_s e2 → ∀ L4, VV g x M 0 0 76 [some (.ref a), some (.int (nI p)), some (.ref b), some (.int (nI q)), L4] [] := by
    intro hne L4
    refine v_iconst C 77 dXM_alike_76 rfl (nI 0) (by decide) ?_
    refine v_zret C E dXM_alike_77 (by omega) (by omega) (Or.inl rfl) ⟨_, rfl, rfl, (bI_f (decide_eq_false hne)).symm⟩
  have fin1 : en_s e = en_s e2 → ∀ L4, VV g x M 0 0 72 [some (.ref a), some (.int (nI p)), some (.ref b), some (.int (nI q)), L4] [] := by
    intro hne L4
    refine v_iconst C 73 dXM_alike_72 rfl (nI 1) (by decide) ?_
    refine v_goto C 77 dXM_alike_73 rfl ?_
    refine v_zret C E dXM_alike_77 (by omega) (by omega) (Or.inr rfl) ⟨_, rfl, rfl, (bI_t (decide_eq_true hne)).symm⟩
  have no : en_s e ≠ en_s e2 → VV g x M 0 0 30 [some (.ref a), some (.int (nI p)), some (.ref b), some (.int (nI q)), none] [] := by
    intro hne
    refine v_iconst C 31 dXM_alike_30 rfl (nI 0) (by decide) ?_
    refine v_istore C 33 _ dXM_alike_31 rfl (Nat.lt_of_lt_of_le (Nat.lt_succ_self _) (Nat.le_of_ble_eq_true rfl)) rfl ?_
    refine v_iload C 35 dXM_alike_33 rfl rfl ?_
    refine v_if_eq C 38 76 dXM_alike_35 rfl rfl (fun h9 => ?_) (fun h9 => False.elim (by first | exact h9 (rfl) | exact absurd h9 (rfl)))
    exact fin0 hne _
  first | refine v_aload_n C 1 dXM_alike_0 rfl rfl ?_ | refine v_aload_nN C 1 dXM_alike_0 rfl rfl ?_ | refine v_aload_nQ C 1 dXM_alike_0 rfl rfl ?_
  refine v_iload_n C 2 dXM_alike_1 rfl rfl ?_
  refine v_iconst C 3 dXM_alike_2 rfl (nI 1) (by decide) ?_
  refine v_iadd C 4 dXM_alike_3 rfl ?_
  refine v_iald C 5 dXM_alike_4 rfl hM (p + 1) (nI_add p 1) (by omega) hn ?_
  first | refine v_aload_n C 6 dXM_alike_5 rfl rfl ?_ | refine v_aload_nN C 6 dXM_alike_5 rfl rfl ?_ | refine v_aload_nQ C 6 dXM_alike_5 rfl rfl ?_
  refine v_iload_n C 7 dXM_alike_6 rfl rfl ?_
  refine v_iconst C 8 dXM_alike_7 rfl (nI 1) (by decide) ?_
  refine v_iadd C 9 dXM_alike_8 rfl ?_
  refine v_iald C 10 dXM_alike_9 rfl hM2 (q + 1) (nI_add q 1) (by omega) hn2 ?_
  rw [he.2.1, he2.2.1]
  refine v_icmp_ne C 13 30 dXM_alike_10 rfl rfl (fun h1 => ?_) (fun h1 => ?_)
  · exact no (fun z => h1 (by rw [(inj z).2.1]))
  · first | refine v_aload_n C 14 dXM_alike_13 rfl rfl ?_ | refine v_aload_nN C 14 dXM_alike_13 rfl rfl ?_ | refine v_aload_nQ C 14 dXM_alike_13 rfl rfl ?_
    refine v_iload_n C 15 dXM_alike_14 rfl rfl ?_
    refine v_iconst C 16 dXM_alike_15 rfl (nI 2) (by decide) ?_
    refine v_iadd C 17 dXM_alike_16 rfl ?_
    refine v_iald C 18 dXM_alike_17 rfl hM (p + 2) (nI_add p 2) (by omega) hn ?_
    first | refine v_aload_n C 19 dXM_alike_18 rfl rfl ?_ | refine v_aload_nN C 19 dXM_alike_18 rfl rfl ?_ | refine v_aload_nQ C 19 dXM_alike_18 rfl rfl ?_
    refine v_iload_n C 20 dXM_alike_19 rfl rfl ?_
    refine v_iconst C 21 dXM_alike_20 rfl (nI 2) (by decide) ?_
    refine v_iadd C 22 dXM_alike_21 rfl ?_
    refine v_iald C 23 dXM_alike_22 rfl hM2 (q + 2) (nI_add q 2) (by omega) hn2 ?_
    rw [he.2.2.1, he2.2.2.1]
    refine v_icmp_ne C 26 30 dXM_alike_23 rfl rfl (fun h2 => ?_) (fun h2 => ?_)
    · exact no (fun z => h2 (by rw [(inj z).2.2.1]))
    · rw [nI_eq (by omega) (by omega)] at h1 h2
      refine v_iconst C 27 dXM_alike_26 rfl (nI 1) (by decide) ?_
      refine v_goto C 31 dXM_alike_27 rfl ?_
      refine v_istore C 33 _ dXM_alike_31 rfl (Nat.lt_of_lt_of_le (Nat.lt_succ_self _) (Nat.le_of_ble_eq_true rfl)) rfl ?_
      refine v_iload C 35 dXM_alike_33 rfl rfl ?_
      refine v_if_eq C 38 76 dXM_alike_35 rfl rfl (fun h9 => False.elim (by first | exact h9 ((by decide)) | exact absurd h9 ((by decide)))) (fun h9 => ?_)
      first | refine v_aload_n C 39 dXM_alike_38 rfl rfl ?_ | refine v_aload_nN C 39 dXM_alike_38 rfl rfl ?_ | refine v_aload_nQ C 39 dXM_alike_38 rfl rfl ?_
      refine v_iload_n C 40 dXM_alike_39 rfl rfl ?_
      refine v_ri 43 (cl_XM_38 C ((c_M_point g hM hn (by omega) he ok)) dXM_alike_40 rfl rfl (Nat.le_of_ble_eq_true rfl) (Nat.le_of_ble_eq_true rfl) (Nat.le_of_ble_eq_true rfl) (by omega) (by omega)) rfl (fun v M1 hv => ?_)
      obtain ⟨rfl, rfl⟩ := hv
      first | refine v_aload_n C 44 dXM_alike_43 rfl rfl ?_ | refine v_aload_nN C 44 dXM_alike_43 rfl rfl ?_ | refine v_aload_nQ C 44 dXM_alike_43 rfl rfl ?_
      refine v_iload_n C 45 dXM_alike_44 rfl rfl ?_
      refine v_ri 48 (cl_XM_38 C ((c_M_point g hM2 hn2 (by omega) he2 ok2)) dXM_alike_45 rfl rfl (Nat.le_of_ble_eq_true rfl) (Nat.le_of_ble_eq_true rfl) (Nat.le_of_ble_eq_true rfl) (by omega) (by omega)) rfl (fun v M1 hv => ?_)
      obtain ⟨rfl, rfl⟩ := hv
      refine v_icmp_ne C 51 76 dXM_alike_48 rfl rfl (fun h3 => ?_) (fun h3 => ?_)
      · refine fin0 (fun z => h3 ?_) _
        have := (inj z).1
        rw [show decide (en_k e ≠ 2) = decide (en_k e2 ≠ 2) from decide_eq_decide.mpr (not_congr this)]
      · first | refine v_aload_n C 52 dXM_alike_51 rfl rfl ?_ | refine v_aload_nN C 52 dXM_alike_51 rfl rfl ?_ | refine v_aload_nQ C 52 dXM_alike_51 rfl rfl ?_
        refine v_iload_n C 53 dXM_alike_52 rfl rfl ?_
        refine v_ri 56 (cl_XM_38 C ((c_M_point g hM hn (by omega) he ok)) dXM_alike_53 rfl rfl (Nat.le_of_ble_eq_true rfl) (Nat.le_of_ble_eq_true rfl) (Nat.le_of_ble_eq_true rfl) (by omega) (by omega)) rfl (fun v M1 hv => ?_)
        obtain ⟨rfl, rfl⟩ := hv
        have hkk : en_k e = 2 ↔ en_k e2 = 2 := by
          have h4 : decide (en_k e ≠ 2) = decide (en_k e2 ≠ 2) := by
            cases z1 : decide (en_k e ≠ 2) <;> cases z2 : decide (en_k e2 ≠ 2) <;> rw [z1, z2] at h3 <;> first | rfl | exact absurd h3 (by decide)
          have h5 := decide_eq_decide.mp h4
          constructor
          · intro z
            exact Classical.byContradiction fun y => (h5.mpr y) z
          · intro z
            exact Classical.byContradiction fun y => (h5.mp y) z
        refine v_if_ne C 59 72 dXM_alike_56 rfl rfl (fun h4 => ?_) (fun h4 => ?_)
        · have hk : en_k e ≠ 2 := by
            intro z
            exact h4 (bI_f (decide_eq_false (fun y => y z)))
          refine fin1 ?_ _
          rw [en_s_p hk, en_s_p (fun z => hk (hkk.mpr z)), h1, h2]
        · have hk : en_k e = 2 := by
            rw [bI_0] at h4
            exact Classical.byContradiction (of_decide_eq_false h4)
          first | refine v_aload_n C 60 dXM_alike_59 rfl rfl ?_ | refine v_aload_nN C 60 dXM_alike_59 rfl rfl ?_ | refine v_aload_nQ C 60 dXM_alike_59 rfl rfl ?_
          refine v_iload_n C 61 dXM_alike_60 rfl rfl ?_
          refine v_iconst C 62 dXM_alike_61 rfl (nI 3) (by decide) ?_
          refine v_iadd C 63 dXM_alike_62 rfl ?_
          refine v_iald C 64 dXM_alike_63 rfl hM (p + 3) (nI_add p 3) (by omega) hn ?_
          first | refine v_aload_n C 65 dXM_alike_64 rfl rfl ?_ | refine v_aload_nN C 65 dXM_alike_64 rfl rfl ?_ | refine v_aload_nQ C 65 dXM_alike_64 rfl rfl ?_
          refine v_iload_n C 66 dXM_alike_65 rfl rfl ?_
          refine v_iconst C 67 dXM_alike_66 rfl (nI 3) (by decide) ?_
          refine v_iadd C 68 dXM_alike_67 rfl ?_
          refine v_iald C 69 dXM_alike_68 rfl hM2 (q + 3) (nI_add q 3) (by omega) hn2 ?_
          rw [he.2.2.2.1, he2.2.2.2.1]
          refine v_icmp_ne C 72 76 dXM_alike_69 rfl rfl (fun h5 => ?_) (fun h5 => ?_)
          · exact fin0 (fun z => h5 (by rw [(inj z).2.2.2])) _
          · refine fin1 ?_ _
            rw [nI_eq (by omega) (by omega)] at h5
            rw [en_s_w hk, en_s_w (hkk.mp hk), h1, h2, h5]
set_option maxHeartbeats 4000000 in
set_option maxRecDepth 100000 in
theorem c_M_wins (g : gx_T) {M : mp_M} {a n p b n2 q : Nat} {f f2 : Nat → Int32} {e e2 : en_E} (hM : M a = some (ar_i (gx_I g) n f)) (hM2 : M b = some (ar_i (gx_I g) n2 f2)) (hn : n < 2 ^ 31) (hn2 : n2 < 2 ^ 31) (hp : p + 6 < n) (hq : q + 6 < n2) (he : rw_e f p e) (he2 : rw_e f2 q e2) (ok : en_ok e) (ok2 : en_ok e2) (hs : en_s e = en_s e2) : Ct g yXM_wins cXM_wins 4 (some .boolean) 1 [.ref a, .int (nI p), .ref b, .int (nI q)] M (pi_ (fun v M' => M = M' ∧ v = bI (en_w e e2))) 0 0 := by
  refine ct_intro (L0 := [some (.ref a), some (.int (nI p)), some (.ref b), some (.int (nI q))]) (by decide) (Nat.le_of_ble_eq_true rfl) rfl rfl (fun x C E I => ?_)
  obtain ⟨inj, -, -, -⟩ := en_s_inj ok ok2 hs
  have o1 := ok.1
  have o2 := ok2.1
  have o3 := ok.2.2.2.2.2.1
  have o4 := ok2.2.2.2.2.2.1
  have o5 := ok.2.2.2.2.2.2.1
  have o6 := ok2.2.2.2.2.2.2.1
  have o7 := ok.2.2.2.2.2.2.2
  have o8 := ok2.2.2.2.2.2.2.2
  have t1 := tw_n ok
  have t2 := tw_n ok2
  have one : en_w e e2 = true → (1 : Int32) = bI (en_w e e2) := fun h => (bI_t h).symm
  have nul : en_w e e2 = false → (0 : Int32) = bI (en_w e e2) := fun h => (bI_f h).symm
  first | refine v_aload_n C 1 dXM_wins_0 rfl rfl ?_ | refine v_aload_nN C 1 dXM_wins_0 rfl rfl ?_ | refine v_aload_nQ C 1 dXM_wins_0 rfl rfl ?_
  refine v_iload_n C 2 dXM_wins_1 rfl rfl ?_
  refine v_iconst C 3 dXM_wins_2 rfl (nI 4) (by decide) ?_
  refine v_iadd C 4 dXM_wins_3 rfl ?_
  refine v_iald C 5 dXM_wins_4 rfl hM (p + 4) (nI_add p 4) (by omega) hn ?_
  first | refine v_aload_n C 6 dXM_wins_5 rfl rfl ?_ | refine v_aload_nN C 6 dXM_wins_5 rfl rfl ?_ | refine v_aload_nQ C 6 dXM_wins_5 rfl rfl ?_
  refine v_iload_n C 7 dXM_wins_6 rfl rfl ?_
  refine v_iconst C 8 dXM_wins_7 rfl (nI 4) (by decide) ?_
  refine v_iadd C 9 dXM_wins_8 rfl ?_
  refine v_iald C 10 dXM_wins_9 rfl hM2 (q + 4) (nI_add q 4) (by omega) hn2 ?_
  rw [he.2.2.2.2.1, he2.2.2.2.2.1]
  refine v_icmp_eq C 13 32 dXM_wins_10 rfl rfl (fun h1 => ?_) (fun h1 => ?_)
  · rw [nI_eq (by omega) (by omega)] at h1
    first | refine v_aload_n C 33 dXM_wins_32 rfl rfl ?_ | refine v_aload_nN C 33 dXM_wins_32 rfl rfl ?_ | refine v_aload_nQ C 33 dXM_wins_32 rfl rfl ?_
    refine v_iload_n C 34 dXM_wins_33 rfl rfl ?_
    refine v_iald C 35 dXM_wins_34 rfl hM p rfl (by omega) hn ?_
    first | refine v_aload_n C 36 dXM_wins_35 rfl rfl ?_ | refine v_aload_nN C 36 dXM_wins_35 rfl rfl ?_ | refine v_aload_nQ C 36 dXM_wins_35 rfl rfl ?_
    refine v_iload_n C 37 dXM_wins_36 rfl rfl ?_
    refine v_iald C 38 dXM_wins_37 rfl hM2 q rfl (by omega) hn2 ?_
    rw [he.1, he2.1]
    refine v_icmp_eq C 41 54 dXM_wins_38 rfl rfl (fun h2 => ?_) (fun h2 => ?_)
    · rw [nI_eq (by omega) (by omega)] at h2
      first | refine v_aload_n C 55 dXM_wins_54 rfl rfl ?_ | refine v_aload_nN C 55 dXM_wins_54 rfl rfl ?_ | refine v_aload_nQ C 55 dXM_wins_54 rfl rfl ?_
      refine v_iload_n C 56 dXM_wins_55 rfl rfl ?_
      refine v_iald C 57 dXM_wins_56 rfl hM p rfl (by omega) hn ?_
      rw [he.1]
      have rest : (en_k e = 0 → en_v e = en_v e2) → VV g x M 0 0 92 [some (.ref a), some (.int (nI p)), some (.ref b), some (.int (nI q))] [] := by
        intro hv
        have hvv : (en_v e).toInt = (en_v e2).toInt := by
          by_cases z : en_k e = 0
          · rw [hv z]
          · rw [o5 z, o6 (by omega)]
        have wt : en_w e e2 = true ↔ en_t e2 < en_t e := by
          rw [en_w_t]
          omega
        have wf : en_w e e2 = false ↔ ¬ en_t e2 < en_t e := by
          rw [en_w_f]
          omega
        have last : en_t e ≠ 2147483647 → en_t e2 ≠ 2147483647 → VV g x M 0 0 140 [some (.ref a), some (.int (nI p)), some (.ref b), some (.int (nI q))] [] := by
          intro n1 n2
          have hlt := tw_lt ok ok2 n1 n2
          first | refine v_aload_n C 141 dXM_wins_140 rfl rfl ?_ | refine v_aload_nN C 141 dXM_wins_140 rfl rfl ?_ | refine v_aload_nQ C 141 dXM_wins_140 rfl rfl ?_
          refine v_iload_n C 142 dXM_wins_141 rfl rfl ?_
          refine v_bipush C 144 dXM_wins_142 rfl (nI 6) (by decide) ?_
          refine v_iadd C 145 dXM_wins_144 rfl ?_
          refine v_iald C 146 dXM_wins_145 rfl hM (p + 6) (nI_add p 6) (by omega) hn ?_
          first | refine v_aload_n C 147 dXM_wins_146 rfl rfl ?_ | refine v_aload_nN C 147 dXM_wins_146 rfl rfl ?_ | refine v_aload_nQ C 147 dXM_wins_146 rfl rfl ?_
          refine v_iload_n C 148 dXM_wins_147 rfl rfl ?_
          refine v_bipush C 150 dXM_wins_148 rfl (nI 6) (by decide) ?_
          refine v_iadd C 151 dXM_wins_150 rfl ?_
          refine v_iald C 152 dXM_wins_151 rfl hM2 (q + 6) (nI_add q 6) (by omega) hn2 ?_
          rw [he.2.2.2.2.2.2, he2.2.2.2.2.2.2]
          refine v_icmp_le C 155 159 dXM_wins_152 rfl rfl (fun h3 => ?_) (fun h3 => ?_)
          · refine v_iconst C 160 dXM_wins_159 rfl (nI 0) (by decide) ?_
            refine v_zret C E dXM_wins_160 (by omega) (by omega) (Or.inl rfl) ⟨_, rfl, rfl, nul (wf.mpr (fun z => absurd (hlt.mpr z) (Int32.not_lt.mpr h3)))⟩
          · refine v_iconst C 156 dXM_wins_155 rfl (nI 1) (by decide) ?_
            refine v_goto C 160 dXM_wins_156 rfl ?_
            refine v_zret C E dXM_wins_160 (by omega) (by omega) (Or.inr rfl) ⟨_, rfl, rfl, one (wt.mpr (hlt.mp (Int32.not_le.mp h3)))⟩
        first | refine v_aload_n C 93 dXM_wins_92 rfl rfl ?_ | refine v_aload_nN C 93 dXM_wins_92 rfl rfl ?_ | refine v_aload_nQ C 93 dXM_wins_92 rfl rfl ?_
        refine v_iload_n C 94 dXM_wins_93 rfl rfl ?_
        refine v_iald C 95 dXM_wins_94 rfl hM p rfl (by omega) hn ?_
        rw [he.1]
        refine v_if_ne C 98 140 dXM_wins_95 rfl rfl (fun h3 => ?_) (fun h3 => ?_)
        · have hk0 : en_k e ≠ 0 := fun z => h3 (by rw [z]; rfl)
          exact last (by omega) (by omega)
        · first | refine v_aload_n C 99 dXM_wins_98 rfl rfl ?_ | refine v_aload_nN C 99 dXM_wins_98 rfl rfl ?_ | refine v_aload_nQ C 99 dXM_wins_98 rfl rfl ?_
          refine v_iload_n C 100 dXM_wins_99 rfl rfl ?_
          refine v_bipush C 102 dXM_wins_100 rfl (nI 6) (by decide) ?_
          refine v_iadd C 103 dXM_wins_102 rfl ?_
          refine v_iald C 104 dXM_wins_103 rfl hM (p + 6) (nI_add p 6) (by omega) hn ?_
          rw [he.2.2.2.2.2.2]
          have both : (en_t e = 2147483647 ∨ en_t e2 = 2147483647) → VV g x M 0 0 116 [some (.ref a), some (.int (nI p)), some (.ref b), some (.int (nI q))] [] := by
            intro hor
            first | refine v_aload_n C 117 dXM_wins_116 rfl rfl ?_ | refine v_aload_nN C 117 dXM_wins_116 rfl rfl ?_ | refine v_aload_nQ C 117 dXM_wins_116 rfl rfl ?_
            refine v_iload_n C 118 dXM_wins_117 rfl rfl ?_
            refine v_bipush C 120 dXM_wins_118 rfl (nI 6) (by decide) ?_
            refine v_iadd C 121 dXM_wins_120 rfl ?_
            refine v_iald C 122 dXM_wins_121 rfl hM (p + 6) (nI_add p 6) (by omega) hn ?_
            rw [he.2.2.2.2.2.2]
            refine v_if_ge C 125 138 dXM_wins_122 rfl rfl (fun h5 => ?_) (fun h5 => ?_)
            · refine v_iconst C 139 dXM_wins_138 rfl (nI 0) (by decide) ?_
              have : ¬ en_t e = 2147483647 := fun z => absurd (t1.mpr z) (Int32.not_lt.mpr h5)
              refine v_zret C E dXM_wins_139 (by omega) (by omega) (Or.inl rfl) ⟨_, rfl, rfl, nul (wf.mpr (by omega))⟩
            · first | refine v_aload_n C 126 dXM_wins_125 rfl rfl ?_ | refine v_aload_nN C 126 dXM_wins_125 rfl rfl ?_ | refine v_aload_nQ C 126 dXM_wins_125 rfl rfl ?_
              refine v_iload_n C 127 dXM_wins_126 rfl rfl ?_
              refine v_bipush C 129 dXM_wins_127 rfl (nI 6) (by decide) ?_
              refine v_iadd C 130 dXM_wins_129 rfl ?_
              refine v_iald C 131 dXM_wins_130 rfl hM2 (q + 6) (nI_add q 6) (by omega) hn2 ?_
              rw [he2.2.2.2.2.2.2]
              have h5' := t1.mp (Int32.not_le.mp h5)
              refine v_if_lt C 134 138 dXM_wins_131 rfl rfl (fun h6 => ?_) (fun h6 => ?_)
              · refine v_iconst C 139 dXM_wins_138 rfl (nI 0) (by decide) ?_
                have := t2.mp h6
                refine v_zret C E dXM_wins_139 (by omega) (by omega) (Or.inl rfl) ⟨_, rfl, rfl, nul (wf.mpr (by omega))⟩
              · refine v_iconst C 135 dXM_wins_134 rfl (nI 1) (by decide) ?_
                refine v_goto C 139 dXM_wins_135 rfl ?_
                have : ¬ en_t e2 = 2147483647 := fun z => h6 (t2.mpr z)
                refine v_zret C E dXM_wins_139 (by omega) (by omega) (Or.inr rfl) ⟨_, rfl, rfl, one (wt.mpr (by omega))⟩
          refine v_if_lt C 107 116 dXM_wins_104 rfl rfl (fun h4 => ?_) (fun h4 => ?_)
          · exact both (Or.inl (t1.mp h4))
          · first | refine v_aload_n C 108 dXM_wins_107 rfl rfl ?_ | refine v_aload_nN C 108 dXM_wins_107 rfl rfl ?_ | refine v_aload_nQ C 108 dXM_wins_107 rfl rfl ?_
            refine v_iload_n C 109 dXM_wins_108 rfl rfl ?_
            refine v_bipush C 111 dXM_wins_109 rfl (nI 6) (by decide) ?_
            refine v_iadd C 112 dXM_wins_111 rfl ?_
            refine v_iald C 113 dXM_wins_112 rfl hM2 (q + 6) (nI_add q 6) (by omega) hn2 ?_
            rw [he2.2.2.2.2.2.2]
            refine v_if_ge C 116 140 dXM_wins_113 rfl rfl (fun h5 => ?_) (fun h5 => ?_)
            · exact last (fun z => h4 (t1.mpr z)) (fun z => absurd (t2.mpr z) (Int32.not_lt.mpr h5))
            · exact both (Or.inr (t2.mp (Int32.not_le.mp h5)))
      refine v_if_ne C 60 92 dXM_wins_57 rfl rfl (fun h3 => ?_) (fun h3 => ?_)
      · exact rest (fun z => absurd (by rw [z]; rfl) h3)
      · have hk0 : en_k e = 0 := (nI_eq (a := en_k e) (b := 0) (by omega) (by decide)).mp h3
        first | refine v_aload_n C 61 dXM_wins_60 rfl rfl ?_ | refine v_aload_nN C 61 dXM_wins_60 rfl rfl ?_ | refine v_aload_nQ C 61 dXM_wins_60 rfl rfl ?_
        refine v_iload_n C 62 dXM_wins_61 rfl rfl ?_
        refine v_iconst C 63 dXM_wins_62 rfl (nI 5) (by decide) ?_
        refine v_iadd C 64 dXM_wins_63 rfl ?_
        refine v_iald C 65 dXM_wins_64 rfl hM (p + 5) (nI_add p 5) (by omega) hn ?_
        first | refine v_aload_n C 66 dXM_wins_65 rfl rfl ?_ | refine v_aload_nN C 66 dXM_wins_65 rfl rfl ?_ | refine v_aload_nQ C 66 dXM_wins_65 rfl rfl ?_
        refine v_iload_n C 67 dXM_wins_66 rfl rfl ?_
        refine v_iconst C 68 dXM_wins_67 rfl (nI 5) (by decide) ?_
        refine v_iadd C 69 dXM_wins_68 rfl ?_
        refine v_iald C 70 dXM_wins_69 rfl hM2 (q + 5) (nI_add q 5) (by omega) hn2 ?_
        rw [he.2.2.2.2.2.1, he2.2.2.2.2.2.1]
        refine v_icmp_eq C 73 92 dXM_wins_70 rfl rfl (fun h4 => ?_) (fun h4 => ?_)
        · exact rest (fun _ => h4)
        · have hvn : (en_v e).toInt ≠ (en_v e2).toInt := fun z => h4 (Int32.toInt_inj.mp z)
          first | refine v_aload_n C 74 dXM_wins_73 rfl rfl ?_ | refine v_aload_nN C 74 dXM_wins_73 rfl rfl ?_ | refine v_aload_nQ C 74 dXM_wins_73 rfl rfl ?_
          refine v_iload_n C 75 dXM_wins_74 rfl rfl ?_
          refine v_iconst C 76 dXM_wins_75 rfl (nI 5) (by decide) ?_
          refine v_iadd C 77 dXM_wins_76 rfl ?_
          refine v_iald C 78 dXM_wins_77 rfl hM (p + 5) (nI_add p 5) (by omega) hn ?_
          first | refine v_aload_n C 79 dXM_wins_78 rfl rfl ?_ | refine v_aload_nN C 79 dXM_wins_78 rfl rfl ?_ | refine v_aload_nQ C 79 dXM_wins_78 rfl rfl ?_
          refine v_iload_n C 80 dXM_wins_79 rfl rfl ?_
          refine v_iconst C 81 dXM_wins_80 rfl (nI 5) (by decide) ?_
          refine v_iadd C 82 dXM_wins_81 rfl ?_
          refine v_iald C 83 dXM_wins_82 rfl hM2 (q + 5) (nI_add q 5) (by omega) hn2 ?_
          rw [he.2.2.2.2.2.1, he2.2.2.2.2.2.1]
          refine v_icmp_le C 86 90 dXM_wins_83 rfl rfl (fun h5 => ?_) (fun h5 => ?_)
          · refine v_iconst C 91 dXM_wins_90 rfl (nI 0) (by decide) ?_
            rw [Int32.le_iff_toInt_le] at h5
            refine v_zret C E dXM_wins_91 (by omega) (by omega) (Or.inl rfl) ⟨_, rfl, rfl, nul (en_w_f.mpr (by omega))⟩
          · refine v_iconst C 87 dXM_wins_86 rfl (nI 1) (by decide) ?_
            refine v_goto C 91 dXM_wins_87 rfl ?_
            rw [Int32.le_iff_toInt_le] at h5
            refine v_zret C E dXM_wins_91 (by omega) (by omega) (Or.inr rfl) ⟨_, rfl, rfl, one (en_w_t.mpr (by omega))⟩
    · rw [nI_eq (by omega) (by omega)] at h2
      first | refine v_aload_n C 42 dXM_wins_41 rfl rfl ?_ | refine v_aload_nN C 42 dXM_wins_41 rfl rfl ?_ | refine v_aload_nQ C 42 dXM_wins_41 rfl rfl ?_
      refine v_iload_n C 43 dXM_wins_42 rfl rfl ?_
      refine v_iald C 44 dXM_wins_43 rfl hM p rfl (by omega) hn ?_
      rw [he.1]
      refine v_iconst C 45 dXM_wins_44 rfl (nI 1) (by decide) ?_
      refine v_icmp_ne C 48 52 dXM_wins_45 rfl rfl (fun h3 => ?_) (fun h3 => ?_)
      · refine v_iconst C 53 dXM_wins_52 rfl (nI 0) (by decide) ?_
        have hk1 : en_k e ≠ 1 := fun z => h3 (by rw [z])
        refine v_zret C E dXM_wins_53 (by omega) (by omega) (Or.inl rfl) ⟨_, rfl, rfl, nul (en_w_f.mpr (by omega))⟩
      · refine v_iconst C 49 dXM_wins_48 rfl (nI 1) (by decide) ?_
        refine v_goto C 53 dXM_wins_49 rfl ?_
        rw [nI_eq (by omega) (by omega)] at h3
        refine v_zret C E dXM_wins_53 (by omega) (by omega) (Or.inr rfl) ⟨_, rfl, rfl, one (en_w_t.mpr (by omega))⟩
  · rw [nI_eq (by omega) (by omega)] at h1
    first | refine v_aload_n C 14 dXM_wins_13 rfl rfl ?_ | refine v_aload_nN C 14 dXM_wins_13 rfl rfl ?_ | refine v_aload_nQ C 14 dXM_wins_13 rfl rfl ?_
    refine v_iload_n C 15 dXM_wins_14 rfl rfl ?_
    refine v_iconst C 16 dXM_wins_15 rfl (nI 4) (by decide) ?_
    refine v_iadd C 17 dXM_wins_16 rfl ?_
    refine v_iald C 18 dXM_wins_17 rfl hM (p + 4) (nI_add p 4) (by omega) hn ?_
    first | refine v_aload_n C 19 dXM_wins_18 rfl rfl ?_ | refine v_aload_nN C 19 dXM_wins_18 rfl rfl ?_ | refine v_aload_nQ C 19 dXM_wins_18 rfl rfl ?_
    refine v_iload_n C 20 dXM_wins_19 rfl rfl ?_
    refine v_iconst C 21 dXM_wins_20 rfl (nI 4) (by decide) ?_
    refine v_iadd C 22 dXM_wins_21 rfl ?_
    refine v_iald C 23 dXM_wins_22 rfl hM2 (q + 4) (nI_add q 4) (by omega) hn2 ?_
    rw [he.2.2.2.2.1, he2.2.2.2.2.1]
    refine v_icmp_le C 26 30 dXM_wins_23 rfl rfl (fun h2 => ?_) (fun h2 => ?_)
    · refine v_iconst C 31 dXM_wins_30 rfl (nI 0) (by decide) ?_
      rw [nI_leI (by omega) (by omega)] at h2
      refine v_zret C E dXM_wins_31 (by omega) (by omega) (Or.inl rfl) ⟨_, rfl, rfl, nul (en_w_f.mpr (by omega))⟩
    · refine v_iconst C 27 dXM_wins_26 rfl (nI 1) (by decide) ?_
      refine v_goto C 31 dXM_wins_27 rfl ?_
      rw [nI_leI (by omega) (by omega)] at h2
      refine v_zret C E dXM_wins_31 (by omega) (by omega) (Or.inr rfl) ⟨_, rfl, rfl, one (en_w_t.mpr (by omega))⟩
def en_cv (e : en_E) (r c p : Nat) : Prop := en_k e = 2 ∧ en_r e = r ∧ en_c e ≤ c ∧ c ≤ en_l e ∧ p ≤ en_p e
set_option maxHeartbeats 4000000 in
set_option maxRecDepth 100000 in
theorem c_M_covers (g : gx_T) {M : mp_M} {a n p : Nat} {f : Nat → Int32} {e : en_E} (hM : M a = some (ar_i (gx_I g) n f)) (hn : n < 2 ^ 31) (hp : p + 6 < n) (he : rw_e f p e) (ok : en_ok e) (r c st : Nat) (hr : r < 16) (hc : c < 8) (hst : st ≤ 9999) : Ct g yXM_covers cXM_covers 5 (some .boolean) 1 [.ref a, .int (nI p), .int (nI r), .int (nI c), .int (nI st)] M (pi_ (fun v M' => M = M' ∧ v = bI (bo (en_cv e r c st)))) 0 0 := by
  refine ct_intro (L0 := [some (.ref a), some (.int (nI p)), some (.int (nI r)), some (.int (nI c)), some (.int (nI st))]) (by decide) (Nat.le_of_ble_eq_true rfl) rfl rfl (fun x C E I => ?_)
  have o1 := ok.1
  have o2 := ok.2.1
  have o3 := ok.2.2.1
  have o4 := ok.2.2.2.1
  have o5 := ok.2.2.2.2.2.1
  have z0 : ¬ en_cv e r c st → VV g x M 0 0 48 [some (.ref a), some (.int (nI p)), some (.int (nI r)), some (.int (nI c)), some (.int (nI st))] [] := by
    intro hno
    refine v_iconst C 49 dXM_covers_48 rfl (nI 0) (by decide) ?_
    refine v_zret C E dXM_covers_49 (by omega) (by omega) (Or.inl rfl) ⟨_, rfl, rfl, (bI_f (bo_f.mpr hno)).symm⟩
  first | refine v_aload_n C 1 dXM_covers_0 rfl rfl ?_ | refine v_aload_nN C 1 dXM_covers_0 rfl rfl ?_ | refine v_aload_nQ C 1 dXM_covers_0 rfl rfl ?_
  refine v_iload_n C 2 dXM_covers_1 rfl rfl ?_
  refine v_iald C 3 dXM_covers_2 rfl hM p rfl (by omega) hn ?_
  rw [he.1]
  refine v_iconst C 4 dXM_covers_3 rfl (nI 2) (by decide) ?_
  refine v_icmp_ne C 7 48 dXM_covers_4 rfl rfl (fun h1 => ?_) (fun h1 => ?_)
  · exact z0 (fun z => h1 (by rw [z.1]))
  · rw [nI_eq (by omega) (by omega)] at h1
    first | refine v_aload_n C 8 dXM_covers_7 rfl rfl ?_ | refine v_aload_nN C 8 dXM_covers_7 rfl rfl ?_ | refine v_aload_nQ C 8 dXM_covers_7 rfl rfl ?_
    refine v_iload_n C 9 dXM_covers_8 rfl rfl ?_
    refine v_iconst C 10 dXM_covers_9 rfl (nI 1) (by decide) ?_
    refine v_iadd C 11 dXM_covers_10 rfl ?_
    refine v_iald C 12 dXM_covers_11 rfl hM (p + 1) (nI_add p 1) (by omega) hn ?_
    rw [he.2.1]
    refine v_iload_n C 13 dXM_covers_12 rfl rfl ?_
    refine v_icmp_ne C 16 48 dXM_covers_13 rfl rfl (fun h2 => ?_) (fun h2 => ?_)
    · exact z0 (fun z => h2 (by rw [z.2.1]))
    · rw [nI_eq (by omega) (by omega)] at h2
      first | refine v_aload_n C 17 dXM_covers_16 rfl rfl ?_ | refine v_aload_nN C 17 dXM_covers_16 rfl rfl ?_ | refine v_aload_nQ C 17 dXM_covers_16 rfl rfl ?_
      refine v_iload_n C 18 dXM_covers_17 rfl rfl ?_
      refine v_iconst C 19 dXM_covers_18 rfl (nI 2) (by decide) ?_
      refine v_iadd C 20 dXM_covers_19 rfl ?_
      refine v_iald C 21 dXM_covers_20 rfl hM (p + 2) (nI_add p 2) (by omega) hn ?_
      rw [he.2.2.1]
      refine v_iload_n C 22 dXM_covers_21 rfl rfl ?_
      refine v_icmp_gt C 25 48 dXM_covers_22 rfl rfl (fun h3 => ?_) (fun h3 => ?_)
      · rw [nI_ltI (by omega) (by omega)] at h3
        exact z0 (fun z => by have := z.2.2.1; omega)
      · rw [nI_ltI (by omega) (by omega)] at h3
        refine v_iload_n C 26 dXM_covers_25 rfl rfl ?_
        first | refine v_aload_n C 27 dXM_covers_26 rfl rfl ?_ | refine v_aload_nN C 27 dXM_covers_26 rfl rfl ?_ | refine v_aload_nQ C 27 dXM_covers_26 rfl rfl ?_
        refine v_iload_n C 28 dXM_covers_27 rfl rfl ?_
        refine v_iconst C 29 dXM_covers_28 rfl (nI 3) (by decide) ?_
        refine v_iadd C 30 dXM_covers_29 rfl ?_
        refine v_iald C 31 dXM_covers_30 rfl hM (p + 3) (nI_add p 3) (by omega) hn ?_
        rw [he.2.2.2.1]
        refine v_icmp_gt C 34 48 dXM_covers_31 rfl rfl (fun h4 => ?_) (fun h4 => ?_)
        · rw [nI_ltI (by omega) (by omega)] at h4
          exact z0 (fun z => by have := z.2.2.2.1; omega)
        · rw [nI_ltI (by omega) (by omega)] at h4
          refine v_iload C 36 dXM_covers_34 rfl rfl ?_
          first | refine v_aload_n C 37 dXM_covers_36 rfl rfl ?_ | refine v_aload_nN C 37 dXM_covers_36 rfl rfl ?_ | refine v_aload_nQ C 37 dXM_covers_36 rfl rfl ?_
          refine v_iload_n C 38 dXM_covers_37 rfl rfl ?_
          refine v_iconst C 39 dXM_covers_38 rfl (nI 4) (by decide) ?_
          refine v_iadd C 40 dXM_covers_39 rfl ?_
          refine v_iald C 41 dXM_covers_40 rfl hM (p + 4) (nI_add p 4) (by omega) hn ?_
          rw [he.2.2.2.2.1]
          refine v_icmp_gt C 44 48 dXM_covers_41 rfl rfl (fun h5 => ?_) (fun h5 => ?_)
          · rw [nI_ltI (by omega) (by omega)] at h5
            exact z0 (fun z => by have := z.2.2.2.2; omega)
          · rw [nI_ltI (by omega) (by omega)] at h5
            refine v_iconst C 45 dXM_covers_44 rfl (nI 1) (by decide) ?_
            refine v_goto C 49 dXM_covers_45 rfl ?_
            refine v_zret C E dXM_covers_49 (by omega) (by omega) (Or.inr rfl) ⟨_, rfl, rfl, (bI_t (bo_t.mpr ⟨h1, h2, by omega, by omega, by omega⟩)).symm⟩
def cp7 (f f2 : Nat → Int32) (p q n : Nat) : Nat → Int32 := fun j => if q ≤ j ∧ j < q + n then f (p + (j - q)) else f2 j
theorem cp7_0 {f f2 : Nat → Int32} {p q : Nat} : cp7 f f2 p q 0 = f2 := by
  funext j
  exact if_neg (by omega)
theorem cp7_s {f f2 : Nat → Int32} {p q n : Nat} : upd (cp7 f f2 p q n) (q + n) (f (p + n)) = cp7 f f2 p q (n + 1) := by
  funext j
  unfold upd cp7
  by_cases h : j = q + n
  · subst h
    rw [if_pos rfl, if_pos (by omega), Nat.add_sub_cancel_left]
  · rw [if_neg h]
    by_cases h2 : q ≤ j ∧ j < q + n
    · rw [if_pos h2, if_pos (by omega)]
    · rw [if_neg h2, if_neg (by omega)]
theorem cp7_e {f f2 : Nat → Int32} {p q : Nat} {e : en_E} (h : rw_e f p e) : rw_e (cp7 f f2 p q 7) q e := by
  have k : ∀ i, i < 7 → cp7 f f2 p q 7 (q + i) = f (p + i) := fun i hi => by
    unfold cp7
    rw [if_pos (by omega), Nat.add_sub_cancel_left]
  obtain ⟨h0, h1, h2, h3, h4, h5, h6⟩ := h
  exact ⟨(k 0 (by omega)).trans h0, (k 1 (by omega)).trans h1, (k 2 (by omega)).trans h2, (k 3 (by omega)).trans h3, (k 4 (by omega)).trans h4, (k 5 (by omega)).trans h5, (k 6 (by omega)).trans h6⟩
theorem cp7_o {f f2 : Nat → Int32} {p q r : Nat} {e : en_E} (h : rw_e f2 r e) (ho : r + 6 < q ∨ q + 7 ≤ r) : rw_e (cp7 f f2 p q 7) r e := by
  have k : ∀ i, i < 7 → cp7 f f2 p q 7 (r + i) = f2 (r + i) := fun i hi => if_neg (by omega)
  obtain ⟨h0, h1, h2, h3, h4, h5, h6⟩ := h
  exact ⟨(k 0 (by omega)).trans h0, (k 1 (by omega)).trans h1, (k 2 (by omega)).trans h2, (k 3 (by omega)).trans h3, (k 4 (by omega)).trans h4, (k 5 (by omega)).trans h5, (k 6 (by omega)).trans h6⟩
set_option maxHeartbeats 4000000 in
set_option maxRecDepth 100000 in
theorem c_M_copy (g : gx_T) {M : mp_M} {a n p b n2 q : Nat} {f f2 : Nat → Int32} (hM : M a = some (ar_i (gx_I g) n f)) (hM2 : M b = some (ar_i (gx_I g) n2 f2)) (hab : a ≠ b) (hn : n < 2 ^ 31) (hn2 : n2 < 2 ^ 31) (hp : p + 6 < n) (hq : q + 6 < n2) : Ct g yXM_copy cXM_copy 5 none 1 [.ref a, .int (nI p), .ref b, .int (nI q)] M (pv (fun M' => M' = mp_u M b (ar_i (gx_I g) n2 (cp7 f f2 p q 7)))) 0 0 := by
  refine ct_intro (L0 := [some (.ref a), some (.int (nI p)), some (.ref b), some (.int (nI q)), none]) (by decide) (Nat.le_of_ble_eq_true rfl) rfl rfl (fun x C E I => ?_)
  have loop : ∀ (n9 i : Nat), i + n9 = 7 → VV g x (mp_u M b (ar_i (gx_I g) n2 (cp7 f f2 p q i))) 0 0 3 [some (.ref a), some (.int (nI p)), some (.ref b), some (.int (nI q)), some (.int (nI i))] [] := by
    intro n9
    induction n9 with
    | zero =>
      intro i hi
      have hi7 : i = 7 := by omega
      subst hi7
      refine v_iload C 5 dXM_copy_3 rfl rfl ?_
      refine v_bipush C 7 dXM_copy_5 rfl (nI 7) (by decide) ?_
      refine v_icmp_ge C 10 28 dXM_copy_7 rfl rfl (fun h9 => ?_) (fun h9 => False.elim (by first | exact h9 (nI_le (Nat.le_refl 7) (by decide)) | exact absurd h9 (nI_le (Nat.le_refl 7) (by decide))))
      refine v_vret C E dXM_copy_28 (by omega) (by omega) ⟨rfl, rfl⟩
    | succ n9 ih =>
      intro i hi
      refine v_iload C 5 dXM_copy_3 rfl rfl ?_
      refine v_bipush C 7 dXM_copy_5 rfl (nI 7) (by decide) ?_
      refine v_icmp_ge C 10 28 dXM_copy_7 rfl rfl (fun h9 => False.elim (by first | exact h9 (nI_ge (show i < 7 by omega) (by decide)) | exact absurd h9 (nI_ge (show i < 7 by omega) (by decide)))) (fun h9 => ?_)
      first | refine v_aload_n C 11 dXM_copy_10 rfl rfl ?_ | refine v_aload_nN C 11 dXM_copy_10 rfl rfl ?_ | refine v_aload_nQ C 11 dXM_copy_10 rfl rfl ?_
      refine v_iload_n C 12 dXM_copy_11 rfl rfl ?_
      refine v_iload C 14 dXM_copy_12 rfl rfl ?_
      refine v_iadd C 15 dXM_copy_14 rfl ?_
      first | refine v_aload_n C 16 dXM_copy_15 rfl rfl ?_ | refine v_aload_nN C 16 dXM_copy_15 rfl rfl ?_ | refine v_aload_nQ C 16 dXM_copy_15 rfl rfl ?_
      refine v_iload_n C 17 dXM_copy_16 rfl rfl ?_
      refine v_iload C 19 dXM_copy_17 rfl rfl ?_
      refine v_iadd C 20 dXM_copy_19 rfl ?_
      refine v_iald C 21 dXM_copy_20 rfl ((mp_un hab).trans hM) (p + i) (nI_add p i) (by omega) hn ?_
      refine v_iast C 22 dXM_copy_21 rfl mp_us (q + i) (nI_add q i) (by omega) hn2 ?_
      refine v_iinc C 25 _ (nI (i + 1)) dXM_copy_22 rfl rfl (nI_1 i) rfl ?_
      refine v_goto C 3 dXM_copy_25 rfl ?_
      rw [mp_uu, cp7_s]
      exact ih (i + 1) (by omega)
  refine v_iconst C 1 dXM_copy_0 rfl (nI 0) (by decide) ?_
  refine v_istore C 3 _ dXM_copy_1 rfl (Nat.lt_of_lt_of_le (Nat.lt_succ_self _) (Nat.le_of_ble_eq_true rfl)) rfl ?_
  have hM0 : mp_u M b (ar_i (gx_I g) n2 (cp7 f f2 p q 0)) = M := by
    rw [cp7_0]
    exact mp_same hM2
  rw [← hM0]
  exact loop 7 0 (by omega)

