set_option maxHeartbeats 4000000 in
set_option maxRecDepth 100000 in
theorem c_E_init (g : gx_T) {M : mp_M} {a : Nat} {fs : List Value} (k s p v t : Int32) (hM : M a = some (.inr (ci_E, fs))) (hl : fs.length = 5) : Ct g yXE_init cXE_init 6 none 1 [.ref a, .int k, .int s, .int p, .int v, .int t] M (pv (fun M' => M' = mp_u M a (.inr (ci_E, [.int k, .int s, .int p, .int v, .int t])))) 0 0 := by
  refine ct_intro (L0 := [some (.ref a), some (.int k), some (.int s), some (.int p), some (.int v), some (.int t)]) (by decide) (Nat.le_of_ble_eq_true rfl) rfl rfl (fun x C E I => ?_)
  obtain ⟨f0, f1, f2, f3, f4, rfl⟩ : ∃ f0 f1 f2 f3 f4 : Value, fs = [f0, f1, f2, f3, f4] := by
    match fs, hl with
    | [f0, f1, f2, f3, f4], _ => exact ⟨f0, f1, f2, f3, f4, rfl⟩
  first | refine v_aload_n C 1 dXE_init_0 rfl rfl ?_ | refine v_aload_nN C 1 dXE_init_0 rfl rfl ?_ | refine v_aload_nQ C 1 dXE_init_0 rfl rfl ?_
  refine oi_XE_1 C 4 dXE_init_1 rfl (Nat.le_of_ble_eq_true rfl) (Nat.le_of_ble_eq_true rfl) ?_
  first | refine v_aload_n C 5 dXE_init_4 rfl rfl ?_ | refine v_aload_nN C 5 dXE_init_4 rfl rfl ?_ | refine v_aload_nQ C 5 dXE_init_4 rfl rfl ?_
  refine v_iload_n C 6 dXE_init_5 rfl rfl ?_
  refine pt_XE_7 C (I rfl) 9 dXE_init_6 rfl rfl rfl hM (Nat.lt_of_lt_of_le (Nat.lt_succ_self _) (Nat.le_of_ble_eq_true rfl)) [.int k, f1, f2, f3, f4] rfl ?_
  first | refine v_aload_n C 10 dXE_init_9 rfl rfl ?_ | refine v_aload_nN C 10 dXE_init_9 rfl rfl ?_ | refine v_aload_nQ C 10 dXE_init_9 rfl rfl ?_
  refine v_iload_n C 11 dXE_init_10 rfl rfl ?_
  refine pt_XE_13 C (I rfl) 14 dXE_init_11 rfl rfl rfl mp_us (Nat.lt_of_lt_of_le (Nat.lt_succ_self _) (Nat.le_of_ble_eq_true rfl)) [.int k, .int s, f2, f3, f4] rfl ?_
  first | refine v_aload_n C 15 dXE_init_14 rfl rfl ?_ | refine v_aload_nN C 15 dXE_init_14 rfl rfl ?_ | refine v_aload_nQ C 15 dXE_init_14 rfl rfl ?_
  refine v_iload_n C 16 dXE_init_15 rfl rfl ?_
  refine pt_XE_16 C (I rfl) 19 dXE_init_16 rfl rfl rfl mp_us (Nat.lt_of_lt_of_le (Nat.lt_succ_self _) (Nat.le_of_ble_eq_true rfl)) [.int k, .int s, .int p, f3, f4] rfl ?_
  first | refine v_aload_n C 20 dXE_init_19 rfl rfl ?_ | refine v_aload_nN C 20 dXE_init_19 rfl rfl ?_ | refine v_aload_nQ C 20 dXE_init_19 rfl rfl ?_
  refine v_iload C 22 dXE_init_20 rfl rfl ?_
  refine pt_XE_19 C (I rfl) 25 dXE_init_22 rfl rfl rfl mp_us (Nat.lt_of_lt_of_le (Nat.lt_succ_self _) (Nat.le_of_ble_eq_true rfl)) [.int k, .int s, .int p, .int v, f4] rfl ?_
  first | refine v_aload_n C 26 dXE_init_25 rfl rfl ?_ | refine v_aload_nN C 26 dXE_init_25 rfl rfl ?_ | refine v_aload_nQ C 26 dXE_init_25 rfl rfl ?_
  refine v_iload C 28 dXE_init_26 rfl rfl ?_
  refine pt_XE_22 C (I rfl) 31 dXE_init_28 rfl rfl rfl mp_us (Nat.lt_of_lt_of_le (Nat.lt_succ_self _) (Nat.le_of_ble_eq_true rfl)) [.int k, .int s, .int p, .int v, .int t] rfl ?_
  refine v_vret C E dXE_init_31 (by omega) (by omega) ⟨rfl, by simp only [mp_uu]⟩
set_option maxHeartbeats 4000000 in
set_option maxRecDepth 100000 in
theorem c_E_winsOver (g : gx_T) {F : Nat → Prop} {M : mp_M} {a b : Nat} {e f : en_E} (ha : cw_e F M a e) (hb : cw_e F M b f) (he : en_ok e) (hf : en_ok f) : Ct g yXE_winsOver cXE_winsOver 2 (some .boolean) 1 [.ref a, .ref b] M (pi_ (fun r M' => M = M' ∧ r = bI (en_w e f))) 0 0 := by
  refine ct_intro (L0 := [some (.ref a), some (.ref b)]) (by decide) (Nat.le_of_ble_eq_true rfl) rfl rfl (fun x C E I => ?_)
  have key := en_w_I he hf
  have one : en_w e f = true → (1 : Int32) = bI (en_w e f) := fun h => (bI_t h).symm
  have nul : ¬ en_w e f = true → (0 : Int32) = bI (en_w e f) := fun h => (bI_f (Bool.eq_false_iff.mpr h)).symm
  first | refine v_aload_n C 1 dXE_winsOver_0 rfl rfl ?_ | refine v_aload_nN C 1 dXE_winsOver_0 rfl rfl ?_ | refine v_aload_nQ C 1 dXE_winsOver_0 rfl rfl ?_
  refine gt_XE_16 C 4 dXE_winsOver_1 rfl ha.2 rfl ?_
  first | refine v_aload_n C 5 dXE_winsOver_4 rfl rfl ?_ | refine v_aload_nN C 5 dXE_winsOver_4 rfl rfl ?_ | refine v_aload_nQ C 5 dXE_winsOver_4 rfl rfl ?_
  refine gt_XE_16 C 8 dXE_winsOver_5 rfl hb.2 rfl ?_
  refine v_icmp_eq C 11 28 dXE_winsOver_8 rfl rfl (fun h1 => ?_) (fun h1 => ?_)
  · first | refine v_aload_n C 29 dXE_winsOver_28 rfl rfl ?_ | refine v_aload_nN C 29 dXE_winsOver_28 rfl rfl ?_ | refine v_aload_nQ C 29 dXE_winsOver_28 rfl rfl ?_
    refine gt_XE_7 C 32 dXE_winsOver_29 rfl ha.2 rfl ?_
    first | refine v_aload_n C 33 dXE_winsOver_32 rfl rfl ?_ | refine v_aload_nN C 33 dXE_winsOver_32 rfl rfl ?_ | refine v_aload_nQ C 33 dXE_winsOver_32 rfl rfl ?_
    refine gt_XE_7 C 36 dXE_winsOver_33 rfl hb.2 rfl ?_
    refine v_icmp_eq C 39 56 dXE_winsOver_36 rfl rfl (fun h2 => ?_) (fun h2 => ?_)
    · first | refine v_aload_n C 57 dXE_winsOver_56 rfl rfl ?_ | refine v_aload_nN C 57 dXE_winsOver_56 rfl rfl ?_ | refine v_aload_nQ C 57 dXE_winsOver_56 rfl rfl ?_
      refine gt_XE_19 C 60 dXE_winsOver_57 rfl ha.2 rfl ?_
      first | refine v_aload_n C 61 dXE_winsOver_60 rfl rfl ?_ | refine v_aload_nN C 61 dXE_winsOver_60 rfl rfl ?_ | refine v_aload_nQ C 61 dXE_winsOver_60 rfl rfl ?_
      refine gt_XE_19 C 64 dXE_winsOver_61 rfl hb.2 rfl ?_
      refine v_icmp_eq C 67 84 dXE_winsOver_64 rfl rfl (fun h3 => ?_) (fun h3 => ?_)
      · first | refine v_aload_n C 85 dXE_winsOver_84 rfl rfl ?_ | refine v_aload_nN C 85 dXE_winsOver_84 rfl rfl ?_ | refine v_aload_nQ C 85 dXE_winsOver_84 rfl rfl ?_
        refine gt_XE_22 C 88 dXE_winsOver_85 rfl ha.2 rfl ?_
        first | refine v_aload_n C 89 dXE_winsOver_88 rfl rfl ?_ | refine v_aload_nN C 89 dXE_winsOver_88 rfl rfl ?_ | refine v_aload_nQ C 89 dXE_winsOver_88 rfl rfl ?_
        refine gt_XE_22 C 92 dXE_winsOver_89 rfl hb.2 rfl ?_
        refine v_icmp_le C 95 99 dXE_winsOver_92 rfl rfl (fun h4 => ?_) (fun h4 => ?_)
        · refine v_iconst C 100 dXE_winsOver_99 rfl (nI 0) (by decide) ?_
          refine v_zret C E dXE_winsOver_100 (by omega) (by omega) (Or.inl rfl) ⟨_, rfl, rfl, nul (fun z => by
            rcases key.mp z with z | ⟨_, z | ⟨_, z | ⟨_, z⟩⟩⟩
            · exact absurd z (by rw [h1]; exact Int32.lt_irrefl)
            · exact absurd z (by rw [h2]; exact Int32.lt_irrefl)
            · exact absurd z (by rw [h3]; exact Int32.lt_irrefl)
            · exact absurd z (Int32.not_lt.mpr h4))⟩
        · refine v_iconst C 96 dXE_winsOver_95 rfl (nI 1) (by decide) ?_
          refine v_goto C 100 dXE_winsOver_96 rfl ?_
          refine v_zret C E dXE_winsOver_100 (by omega) (by omega) (Or.inr rfl) ⟨_, rfl, rfl, one (key.mpr (Or.inr ⟨h1, Or.inr ⟨h2, Or.inr ⟨h3, Int32.not_le.mp h4⟩⟩⟩))⟩
      · first | refine v_aload_n C 68 dXE_winsOver_67 rfl rfl ?_ | refine v_aload_nN C 68 dXE_winsOver_67 rfl rfl ?_ | refine v_aload_nQ C 68 dXE_winsOver_67 rfl rfl ?_
        refine gt_XE_19 C 71 dXE_winsOver_68 rfl ha.2 rfl ?_
        first | refine v_aload_n C 72 dXE_winsOver_71 rfl rfl ?_ | refine v_aload_nN C 72 dXE_winsOver_71 rfl rfl ?_ | refine v_aload_nQ C 72 dXE_winsOver_71 rfl rfl ?_
        refine gt_XE_19 C 75 dXE_winsOver_72 rfl hb.2 rfl ?_
        refine v_icmp_le C 78 82 dXE_winsOver_75 rfl rfl (fun h4 => ?_) (fun h4 => ?_)
        · refine v_iconst C 83 dXE_winsOver_82 rfl (nI 0) (by decide) ?_
          refine v_zret C E dXE_winsOver_83 (by omega) (by omega) (Or.inl rfl) ⟨_, rfl, rfl, nul (fun z => by
            rcases key.mp z with z | ⟨_, z | ⟨_, z | ⟨z, _⟩⟩⟩
            · exact absurd z (by rw [h1]; exact Int32.lt_irrefl)
            · exact absurd z (by rw [h2]; exact Int32.lt_irrefl)
            · exact absurd z (Int32.not_lt.mpr h4)
            · exact h3 z)⟩
        · refine v_iconst C 79 dXE_winsOver_78 rfl (nI 1) (by decide) ?_
          refine v_goto C 83 dXE_winsOver_79 rfl ?_
          refine v_zret C E dXE_winsOver_83 (by omega) (by omega) (Or.inr rfl) ⟨_, rfl, rfl, one (key.mpr (Or.inr ⟨h1, Or.inr ⟨h2, Or.inl (Int32.not_le.mp h4)⟩⟩))⟩
    · first | refine v_aload_n C 40 dXE_winsOver_39 rfl rfl ?_ | refine v_aload_nN C 40 dXE_winsOver_39 rfl rfl ?_ | refine v_aload_nQ C 40 dXE_winsOver_39 rfl rfl ?_
      refine gt_XE_7 C 43 dXE_winsOver_40 rfl ha.2 rfl ?_
      first | refine v_aload_n C 44 dXE_winsOver_43 rfl rfl ?_ | refine v_aload_nN C 44 dXE_winsOver_43 rfl rfl ?_ | refine v_aload_nQ C 44 dXE_winsOver_43 rfl rfl ?_
      refine gt_XE_7 C 47 dXE_winsOver_44 rfl hb.2 rfl ?_
      refine v_icmp_le C 50 54 dXE_winsOver_47 rfl rfl (fun h4 => ?_) (fun h4 => ?_)
      · refine v_iconst C 55 dXE_winsOver_54 rfl (nI 0) (by decide) ?_
        refine v_zret C E dXE_winsOver_55 (by omega) (by omega) (Or.inl rfl) ⟨_, rfl, rfl, nul (fun z => by
          rcases key.mp z with z | ⟨_, z | ⟨z, _⟩⟩
          · exact absurd z (by rw [h1]; exact Int32.lt_irrefl)
          · exact absurd z (Int32.not_lt.mpr h4)
          · exact h2 z)⟩
      · refine v_iconst C 51 dXE_winsOver_50 rfl (nI 1) (by decide) ?_
        refine v_goto C 55 dXE_winsOver_51 rfl ?_
        refine v_zret C E dXE_winsOver_55 (by omega) (by omega) (Or.inr rfl) ⟨_, rfl, rfl, one (key.mpr (Or.inr ⟨h1, Or.inl (Int32.not_le.mp h4)⟩))⟩
  · first | refine v_aload_n C 12 dXE_winsOver_11 rfl rfl ?_ | refine v_aload_nN C 12 dXE_winsOver_11 rfl rfl ?_ | refine v_aload_nQ C 12 dXE_winsOver_11 rfl rfl ?_
    refine gt_XE_16 C 15 dXE_winsOver_12 rfl ha.2 rfl ?_
    first | refine v_aload_n C 16 dXE_winsOver_15 rfl rfl ?_ | refine v_aload_nN C 16 dXE_winsOver_15 rfl rfl ?_ | refine v_aload_nQ C 16 dXE_winsOver_15 rfl rfl ?_
    refine gt_XE_16 C 19 dXE_winsOver_16 rfl hb.2 rfl ?_
    refine v_icmp_le C 22 26 dXE_winsOver_19 rfl rfl (fun h4 => ?_) (fun h4 => ?_)
    · refine v_iconst C 27 dXE_winsOver_26 rfl (nI 0) (by decide) ?_
      refine v_zret C E dXE_winsOver_27 (by omega) (by omega) (Or.inl rfl) ⟨_, rfl, rfl, nul (fun z => by
        rcases key.mp z with z | ⟨z, _⟩
        · exact absurd z (Int32.not_lt.mpr h4)
        · exact h1 z)⟩
    · refine v_iconst C 23 dXE_winsOver_22 rfl (nI 1) (by decide) ?_
      refine v_goto C 27 dXE_winsOver_23 rfl ?_
      refine v_zret C E dXE_winsOver_27 (by omega) (by omega) (Or.inr rfl) ⟨_, rfl, rfl, one (key.mpr (Or.inl (Int32.not_le.mp h4)))⟩
set_option maxHeartbeats 4000000 in
set_option maxRecDepth 100000 in
theorem c_S_isPlace (g : gx_T) {M : mp_M} (r c : Int32) : Ct g yXS_isPlace cXS_isPlace 2 (some .boolean) 1 [.int r, .int c] M (pi_ (fun v M' => M = M' ∧ v = bI (pl r c))) 0 0 := by
  refine ct_intro (L0 := [some (.int r), some (.int c)]) (by decide) (Nat.le_of_ble_eq_true rfl) rfl rfl (fun x C E I => ?_)
  have k16 : (nI 16).toInt = 16 := by decide
  have k8 : (nI 8).toInt = 8 := by decide
  have z : pl r c = false → VV g x M 0 0 24 [some (.int r), some (.int c)] [] := fun h => by
    refine v_iconst C 25 dXS_isPlace_24 rfl (nI 0) (by decide) ?_
    refine v_zret C E dXS_isPlace_25 (by omega) (by omega) (Or.inl rfl) ⟨_, rfl, rfl, (bI_f h).symm⟩
  refine v_iload_n C 1 dXS_isPlace_0 rfl rfl ?_
  refine v_if_lt C 4 24 dXS_isPlace_1 rfl rfl (fun h1 => ?_) (fun h1 => ?_)
  · exact z (decide_eq_false (fun q => by rw [Int32.lt_iff_toInt_lt, i0] at h1; omega))
  · refine v_iload_n C 5 dXS_isPlace_4 rfl rfl ?_
    refine v_bipush C 7 dXS_isPlace_5 rfl (nI 16) (by decide) ?_
    refine v_icmp_ge C 10 24 dXS_isPlace_7 rfl rfl (fun h2 => ?_) (fun h2 => ?_)
    · exact z (decide_eq_false (fun q => by rw [Int32.le_iff_toInt_le, k16] at h2; omega))
    · refine v_iload_n C 11 dXS_isPlace_10 rfl rfl ?_
      refine v_if_lt C 14 24 dXS_isPlace_11 rfl rfl (fun h3 => ?_) (fun h3 => ?_)
      · exact z (decide_eq_false (fun q => by rw [Int32.lt_iff_toInt_lt, i0] at h3; omega))
      · refine v_iload_n C 15 dXS_isPlace_14 rfl rfl ?_
        refine v_bipush C 17 dXS_isPlace_15 rfl (nI 8) (by decide) ?_
        refine v_icmp_ge C 20 24 dXS_isPlace_17 rfl rfl (fun h4 => ?_) (fun h4 => ?_)
        · exact z (decide_eq_false (fun q => by rw [Int32.le_iff_toInt_le, k8] at h4; omega))
        · refine v_iconst C 21 dXS_isPlace_20 rfl (nI 1) (by decide) ?_
          refine v_goto C 25 dXS_isPlace_21 rfl ?_
          rw [Int32.lt_iff_toInt_lt, i0] at h1 h3
          rw [Int32.le_iff_toInt_le, k16] at h2
          rw [Int32.le_iff_toInt_le, k8] at h4
          refine v_zret C E dXS_isPlace_25 (by omega) (by omega) (Or.inr rfl) ⟨_, rfl, rfl, (bI_t (decide_eq_true ⟨by omega, by omega, by omega, by omega⟩)).symm⟩
set_option maxHeartbeats 4000000 in
set_option maxRecDepth 100000 in
theorem c_S_isStamp (g : gx_T) {M : mp_M} (p : Int32) : Ct g yXS_isStamp cXS_isStamp 1 (some .boolean) 1 [.int p] M (pi_ (fun v M' => M = M' ∧ v = bI (sp_ok p))) 0 0 := by
  refine ct_intro (L0 := [some (.int p)]) (by decide) (Nat.le_of_ble_eq_true rfl) rfl rfl (fun x C E I => ?_)
  have k9 : (nI 9999).toInt = 9999 := by decide
  have z : sp_ok p = false → VV g x M 0 0 15 [some (.int p)] [] := fun h => by
    refine v_iconst C 16 dXS_isStamp_15 rfl (nI 0) (by decide) ?_
    refine v_zret C E dXS_isStamp_16 (by omega) (by omega) (Or.inl rfl) ⟨_, rfl, rfl, (bI_f h).symm⟩
  refine v_iload_n C 1 dXS_isStamp_0 rfl rfl ?_
  refine v_if_lt C 4 15 dXS_isStamp_1 rfl rfl (fun h1 => ?_) (fun h1 => ?_)
  · exact z (decide_eq_false (fun q => by rw [Int32.lt_iff_toInt_lt, i0] at h1; omega))
  · refine v_iload_n C 5 dXS_isStamp_4 rfl rfl ?_
    refine v_sipush C 8 dXS_isStamp_5 rfl (nI 9999) (by decide) ?_
    refine v_icmp_gt C 11 15 dXS_isStamp_8 rfl rfl (fun h2 => ?_) (fun h2 => ?_)
    · exact z (decide_eq_false (fun q => by rw [Int32.lt_iff_toInt_lt, k9] at h2; omega))
    · refine v_iconst C 12 dXS_isStamp_11 rfl (nI 1) (by decide) ?_
      refine v_goto C 16 dXS_isStamp_12 rfl ?_
      rw [Int32.lt_iff_toInt_lt, i0] at h1
      rw [Int32.lt_iff_toInt_lt, k9] at h2
      refine v_zret C E dXS_isStamp_16 (by omega) (by omega) (Or.inr rfl) ⟨_, rfl, rfl, (bI_t (decide_eq_true ⟨by omega, by omega⟩)).symm⟩
set_option maxHeartbeats 4000000 in
set_option maxRecDepth 100000 in
theorem c_S_pointSlot (g : gx_T) {M : mp_M} (r c : Nat) : Ct g yXS_pointSlot cXS_pointSlot 2 (some .int) 1 [.int (nI r), .int (nI c)] M (pi_ (fun v M' => M = M' ∧ v = nI (r * 8 + c))) 0 0 := by
  refine ct_intro (L0 := [some (.int (nI r)), some (.int (nI c))]) (by decide) (Nat.le_of_ble_eq_true rfl) rfl rfl (fun x C E I => ?_)
  refine v_iload_n C 1 dXS_pointSlot_0 rfl rfl ?_
  refine v_bipush C 3 dXS_pointSlot_1 rfl (nI 8) (by decide) ?_
  refine v_imul C 4 dXS_pointSlot_3 rfl ?_
  refine v_iload_n C 5 dXS_pointSlot_4 rfl rfl ?_
  refine v_iadd C 6 dXS_pointSlot_5 rfl ?_
  refine v_iret C E dXS_pointSlot_6 (by omega) (by omega) ⟨_, rfl, rfl, by rw [pk_mul, nI_add]⟩
set_option maxHeartbeats 4000000 in
set_option maxRecDepth 100000 in
theorem c_S_wipeSlot (g : gx_T) {M : mp_M} (r f l : Nat) (hl : l < 8) : Ct g yXS_wipeSlot cXS_wipeSlot 3 (some .int) 1 [.int (nI r), .int (nI f), .int (nI l)] M (pi_ (fun v M' => M = M' ∧ v = nI (en_ws r f l))) 0 0 := by
  refine ct_intro (L0 := [some (.int (nI r)), some (.int (nI f)), some (.int (nI l))]) (by decide) (Nat.le_of_ble_eq_true rfl) rfl rfl (fun x C E I => ?_)
  refine v_sipush C 3 dXS_wipeSlot_0 rfl (nI 128) (by decide) ?_
  refine v_iload_n C 4 dXS_wipeSlot_3 rfl rfl ?_
  refine v_bipush C 6 dXS_wipeSlot_4 rfl (nI 36) (by decide) ?_
  refine v_imul C 7 dXS_wipeSlot_6 rfl ?_
  refine v_iadd C 8 dXS_wipeSlot_7 rfl ?_
  refine v_iload_n C 9 dXS_wipeSlot_8 rfl rfl ?_
  refine v_iload_n C 10 dXS_wipeSlot_9 rfl rfl ?_
  refine v_iconst C 11 dXS_wipeSlot_10 rfl (nI 1) (by decide) ?_
  refine v_iadd C 12 dXS_wipeSlot_11 rfl ?_
  refine v_imul C 13 dXS_wipeSlot_12 rfl ?_
  refine v_iconst C 14 dXS_wipeSlot_13 rfl (nI 2) (by decide) ?_
  refine v_idiv C 15 dXS_wipeSlot_14 rfl (by decide) ?_
  refine v_iadd C 16 dXS_wipeSlot_15 rfl ?_
  refine v_iload_n C 17 dXS_wipeSlot_16 rfl rfl ?_
  refine v_iadd C 18 dXS_wipeSlot_17 rfl ?_
  have hb : l * (l + 1) < 2 ^ 31 := Nat.lt_of_le_of_lt (Nat.mul_le_mul (show l ≤ 8 by omega) (show l + 1 ≤ 9 by omega)) (by decide)
  refine v_iret C E dXS_wipeSlot_18 (by omega) (by omega) ⟨_, rfl, rfl, by simp only [pk_mul, nI_add]; rw [pk_div hb (by decide) (by decide)]; simp only [nI_add]; rfl⟩
set_option maxHeartbeats 4000000 in
set_option maxRecDepth 100000 in
theorem c_T_init (g : gx_T) {F : Nat → Prop} {M : mp_M} {a : Nat} {fs : List Value} (tier : Nat) (hM : M a = some (.inr (ci_T, fs))) (hl : fs.length = 4) (hF : ∀ q, F q → M q ≠ none) (ha : ¬ F a) : Ct g yXT_init cXT_init 2 none 1 [.ref a, .int (nI tier)] M (pv (fun M' => ∃ sl : Nat, M sl = none ∧ mp_k (fun q => q = a) M M' ∧ cw_t g F M' a sl tier tb_0)) 1 704 := by
  refine ct_intro (L0 := [some (.ref a), some (.int (nI tier))]) (by decide) (Nat.le_of_ble_eq_true rfl) rfl rfl (fun x C E I => ?_)
  obtain ⟨f0, f1, f2, f3, rfl⟩ : ∃ f0 f1 f2 f3 : Value, fs = [f0, f1, f2, f3] := by
    match fs, hl with
    | [f0, f1, f2, f3], _ => exact ⟨f0, f1, f2, f3, rfl⟩
  first | refine v_aload_n C 1 dXT_init_0 rfl rfl ?_ | refine v_aload_nN C 1 dXT_init_0 rfl rfl ?_ | refine v_aload_nQ C 1 dXT_init_0 rfl rfl ?_
  refine oi_XT_3 C 4 dXT_init_1 rfl (Nat.le_of_ble_eq_true rfl) (Nat.le_of_ble_eq_true rfl) ?_
  first | refine v_aload_n C 5 dXT_init_4 rfl rfl ?_ | refine v_aload_nN C 5 dXT_init_4 rfl rfl ?_ | refine v_aload_nQ C 5 dXT_init_4 rfl rfl ?_
  refine v_iload_n C 6 dXT_init_5 rfl rfl ?_
  refine pt_XT_9 C (I rfl) 9 dXT_init_6 rfl rfl rfl hM (Nat.lt_of_lt_of_le (Nat.lt_succ_self _) (Nat.le_of_ble_eq_true rfl)) [.int (nI tier), f1, f2, f3] rfl ?_
  first | refine v_aload_n C 10 dXT_init_9 rfl rfl ?_ | refine v_aload_nN C 10 dXT_init_9 rfl rfl ?_ | refine v_aload_nQ C 10 dXT_init_9 rfl rfl ?_
  refine v_sipush C 13 dXT_init_10 rfl (nI 704) (by decide) ?_
  refine na_XT_15 C 16 dXT_init_13 rfl 704 rfl (by decide) (by decide) (by decide) (fun sl hsl => ?_)
  have hsa : a ≠ sl := fun z => by rw [← z, mp_us] at hsl; cases hsl
  have hsl0 : M sl = none := by rw [mp_un (Ne.symm hsa)] at hsl; exact hsl
  refine pt_XT_17 C (I rfl) 19 dXT_init_16 rfl rfl rfl ((mp_un hsa).trans mp_us) (Nat.lt_of_lt_of_le (Nat.lt_succ_self _) (Nat.le_of_ble_eq_true rfl)) [.int (nI tier), .ref sl, f2, f3] rfl ?_
  first | refine v_aload_n C 20 dXT_init_19 rfl rfl ?_ | refine v_aload_nN C 20 dXT_init_19 rfl rfl ?_ | refine v_aload_nQ C 20 dXT_init_19 rfl rfl ?_
  refine v_iconst C 21 dXT_init_20 rfl (nI 0) (by decide) ?_
  refine pt_XT_21 C 24 dXT_init_21 rfl rfl rfl mp_us (Nat.lt_of_lt_of_le (Nat.lt_succ_self _) (Nat.le_of_ble_eq_true rfl)) [.int (nI tier), .ref sl, .int (nI 0), f3] rfl ?_
  first | refine v_aload_n C 25 dXT_init_24 rfl rfl ?_ | refine v_aload_nN C 25 dXT_init_24 rfl rfl ?_ | refine v_aload_nQ C 25 dXT_init_24 rfl rfl ?_
  refine v_iconst C 26 dXT_init_25 rfl (nI 0) (by decide) ?_
  refine pt_XT_24 C 29 dXT_init_26 rfl rfl rfl mp_us (Nat.lt_of_lt_of_le (Nat.lt_succ_self _) (Nat.le_of_ble_eq_true rfl)) [.int (nI tier), .ref sl, .int (nI 0), .int (nI 0)] rfl ?_
  refine v_vret C E dXT_init_29 (by omega) (by omega) ⟨rfl, sl, hsl0, ?_, ?_⟩
  · exact mp_k.tr (mp_k.up rfl) (mp_k.tr (mp_k.new hsl) (mp_k.tr (mp_k.up rfl) (mp_k.tr (mp_k.up rfl) (mp_k.up rfl))))
  · refine ⟨ha, fun z => hF sl z hsl0, tb_ok_0, ?_, (fun _ => none), ?_, fun s _ => Or.inl ⟨rfl, rfl⟩⟩
    · rw [ob_T0]
      exact mp_us
    · rw [mp_un (Ne.symm hsa), mp_un (Ne.symm hsa), mp_un (Ne.symm hsa)]
      exact mp_us

