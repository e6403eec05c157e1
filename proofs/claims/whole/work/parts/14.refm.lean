theorem va_up_id {α : Type} (f : Nat → α) (i : Nat) : va_up f i (f i) = f := by
  funext j
  by_cases h : j = i
  · subst h
    rw [va_up_self]
  · rw [va_up_ne _ _ h]
theorem tr_set {ml : List en_E} {T : tb_T} {m : Nat} {em e : en_E} (h : tr ml (fun _ => True) T) (hT : tb_ok T) (hm : ml[m]? = some em) (hs : en_s em = en_s e) : tr (ml.set m e) (fun _ => True) (va_up T (en_s e) (some e)) := by
  have hlt := (List.getElem?_eq_some_iff.mp hm).1
  have other : ∀ (i : Nat) (e' : en_E), i ≠ m → ml[i]? = some e' → en_s e' ≠ en_s e := fun i e' hne h1 z => hne (h.2.2 i m e' em h1 hm trivial trivial (z.trans hs.symm))
  refine ⟨fun i e' h1 _ => ?_, fun s e' h1 => ?_, fun i j e1 e2 h1 h2 _ _ h3 => ?_⟩
  · by_cases him : i = m
    · subst him
      rw [List.getElem?_set_self hlt] at h1
      cases h1
      rw [va_up_self]
    · rw [List.getElem?_set_ne (Ne.symm him)] at h1
      rw [va_up_ne _ _ (other i e' him h1)]
      exact h.1 i e' h1 trivial
  · by_cases hse : s = en_s e
    · subst hse
      rw [va_up_self] at h1
      cases h1
      exact ⟨m, List.getElem?_set_self hlt, trivial⟩
    · rw [va_up_ne _ _ hse] at h1
      obtain ⟨i, g1, -⟩ := h.2.1 s e' h1
      have him : m ≠ i := by
        intro z
        subst z
        have he := Option.some.inj (hm.symm.trans g1)
        rw [← he] at h1
        exact hse ((hT s em h1).2.symm.trans hs)
      exact ⟨i, by rw [List.getElem?_set_ne him]; exact g1, trivial⟩
  · have back : ∀ (i : Nat) (e' : en_E), (ml.set m e)[i]? = some e' → ∃ e0, ml[i]? = some e0 ∧ en_s e0 = en_s e' := by
      intro i e' h1
      by_cases him : i = m
      · subst him
        rw [List.getElem?_set_self hlt] at h1
        cases h1
        exact ⟨em, hm, hs⟩
      · rw [List.getElem?_set_ne (Ne.symm him)] at h1
        exact ⟨e', h1, rfl⟩
    obtain ⟨a1, b1, c1⟩ := back i e1 h1
    obtain ⟨a2, b2, c2⟩ := back j e2 h2
    exact h.2.2 i j a1 a2 b1 b2 trivial trivial (c1.trans (h3.trans c2.symm))
theorem tr_app {ml : List en_E} {T : tb_T} {e : en_E} (h : tr ml (fun _ => True) T) (hT : tb_ok T) (hN : T (en_s e) = none) : tr (ml ++ [e]) (fun _ => True) (va_up T (en_s e) (some e)) := by
  have other : ∀ (i : Nat) (e' : en_E), ml[i]? = some e' → en_s e' ≠ en_s e := fun i e' h1 z => by
    have := h.1 i e' h1 trivial
    rw [z, hN] at this
    cases this
  have cas : ∀ (i : Nat) (e' : en_E), (ml ++ [e])[i]? = some e' → ml[i]? = some e' ∨ (i = ml.length ∧ e' = e) := by
    intro i e' h1
    by_cases hi : i < ml.length
    · rw [List.getElem?_append_left hi] at h1
      exact Or.inl h1
    · rw [List.getElem?_append_right (by omega)] at h1
      have hz : i - ml.length < 1 := (List.getElem?_eq_some_iff.mp h1).1
      rw [show i - ml.length = 0 by omega] at h1
      cases h1
      exact Or.inr ⟨by omega, rfl⟩
  refine ⟨fun i e' h1 _ => ?_, fun s e' h1 => ?_, fun i j e1 e2 h1 h2 _ _ h3 => ?_⟩
  · rcases cas i e' h1 with h2 | ⟨-, rfl⟩
    · rw [va_up_ne _ _ (other i e' h2)]
      exact h.1 i e' h2 trivial
    · rw [va_up_self]
  · by_cases hse : s = en_s e
    · subst hse
      rw [va_up_self] at h1
      cases h1
      exact ⟨ml.length, by rw [List.getElem?_append_right (Nat.le_refl _), Nat.sub_self]; rfl, trivial⟩
    · rw [va_up_ne _ _ hse] at h1
      obtain ⟨i, g1, -⟩ := h.2.1 s e' h1
      exact ⟨i, by rw [List.getElem?_append_left (List.getElem?_eq_some_iff.mp g1).1]; exact g1, trivial⟩
  · rcases cas i e1 h1 with a1 | ⟨a1, rfl⟩ <;> rcases cas j e2 h2 with a2 | ⟨a2, rfl⟩
    · exact h.2.2 i j e1 e2 a1 a2 trivial trivial h3
    · exact absurd h3 (other i e1 a1)
    · exact absurd h3.symm (other j e2 a2)
    · omega
theorem lw_set {f f2 : Nat → Int32} {ml : List en_E} {e : en_E} {p m : Nat} (h : lw f2 ml) (he : rw_e f p e) (ok : en_ok e) : lw (cp7 f f2 p (7 * m) 7) (ml.set m e) := by
  intro i e' h1
  by_cases him : i = m
  · subst him
    have hlt : i < ml.length := by
      have := (List.getElem?_eq_some_iff.mp h1).1
      rw [List.length_set] at this
      exact this
    rw [List.getElem?_set_self hlt] at h1
    cases h1
    exact ⟨cp7_e he, ok⟩
  · rw [List.getElem?_set_ne (Ne.symm him)] at h1
    exact ⟨cp7_o (h i e' h1).1 (by omega), (h i e' h1).2⟩
theorem lw_app {f f2 : Nat → Int32} {ml : List en_E} {e : en_E} {p : Nat} (h : lw f2 ml) (he : rw_e f p e) (ok : en_ok e) : lw (cp7 f f2 p (7 * ml.length) 7) (ml ++ [e]) := by
  intro i e' h1
  by_cases hi : i < ml.length
  · rw [List.getElem?_append_left hi] at h1
    exact ⟨cp7_o (h i e' h1).1 (by omega), (h i e' h1).2⟩
  · rw [List.getElem?_append_right (by omega)] at h1
    have hz : i - ml.length < 1 := (List.getElem?_eq_some_iff.mp h1).1
    rw [show i - ml.length = 0 by omega] at h1
    cases h1
    rw [show i = ml.length by omega]
    exact ⟨cp7_e he, ok⟩
set_option maxHeartbeats 4000000 in
set_option maxRecDepth 100000 in
theorem c_M_remember (g : gx_T) {M : mp_M} {b : Nat} {A : Nat → Nat} {cap gr now logs safe fl runs marks : Nat} {f : Nat → Nat → Int32} {ml : List en_E} {T : tb_T} (h : ra_M g M b A cap gr now ml.length logs safe fl runs marks f) (hl : lw (f 0) ml) (ht : tr ml (fun _ => True) T) (hT : tb_ok T) (hn : ml.length = tb_n T) (k : Nat) {e : en_E} (hk : k < 520) (he : rw_e (f 1) (7 * k) e) (ok : en_ok e) (hroom : ml.length < 24) : Ct g yXM_remember cXM_remember 3 none 3 [.ref b, .int (nI (7 * k))] M (pv (fun M' => ∃ (ml' : List en_E) (f0 : Nat → Int32), mp_k (ra_P b A) M M' ∧ ra_M g M' b A cap gr now ml'.length logs safe fl runs marks (va_up f 0 f0) ∧ lw f0 ml' ∧ tr ml' (fun _ => True) (tb_a T e) ∧ ml'.length = tb_n (tb_a T e))) 0 0 := by
  refine ct_intro (L0 := [some (.ref b), some (.int (nI (7 * k))), none]) (by decide) (Nat.le_of_ble_eq_true rfl) rfl rfl (fun x C E I => ?_)
  have hA0 := h.2.1 0 (by decide)
  have hA1 := h.2.1 1 (by decide)
  have hne : A 1 ≠ A 0 := fun z => by have := h.2.2 1 0 (by decide) (by decide) z; omega
  have loop : ∀ (n m : Nat), m + n = ml.length → (∀ (i : Nat) (e' : en_E), i < m → ml[i]? = some e' → en_s e' ≠ en_s e) → VV g x M 0 0 2 [some (.ref b), some (.int (nI (7 * k))), some (.int (nI m))] [] := by
    intro n
    induction n with
    | zero =>
      intro m hm hno
      have hN : T (en_s e) = none := by
        cases hz : T (en_s e) with
        | none => rfl
        | some e' =>
          obtain ⟨i, g1, -⟩ := ht.2.1 _ _ hz
          exact absurd (hT _ _ hz).2 (hno i e' (by have := (List.getElem?_eq_some_iff.mp g1).1; omega) g1)
      refine v_iload_n C 3 dXM_remember_2 rfl rfl ?_
      first | refine v_aload_n C 4 dXM_remember_3 rfl rfl ?_ | refine v_aload_nN C 4 dXM_remember_3 rfl rfl ?_ | refine v_aload_nQ C 4 dXM_remember_3 rfl rfl ?_
      refine gt_XM_42 C 7 dXM_remember_4 rfl h.1 rfl ?_
      refine v_icmp_ge C 10 71 dXM_remember_7 rfl rfl (fun h9 => ?_) (fun h9 => False.elim (by first | exact h9 (nI_le (show ml.length ≤ m by omega) (by omega)) | exact absurd h9 (nI_le (show ml.length ≤ m by omega) (by omega))))
      first | refine v_aload_n C 72 dXM_remember_71 rfl rfl ?_ | refine v_aload_nN C 72 dXM_remember_71 rfl rfl ?_ | refine v_aload_nQ C 72 dXM_remember_71 rfl rfl ?_
      refine gt_XM_13 C 75 dXM_remember_72 rfl h.1 rfl ?_
      refine v_iload_n C 76 dXM_remember_75 rfl rfl ?_
      first | refine v_aload_n C 77 dXM_remember_76 rfl rfl ?_ | refine v_aload_nN C 77 dXM_remember_76 rfl rfl ?_ | refine v_aload_nQ C 77 dXM_remember_76 rfl rfl ?_
      refine gt_XM_7 C 80 dXM_remember_77 rfl h.1 rfl ?_
      refine v_bipush C 82 dXM_remember_80 rfl (nI 7) (by decide) ?_
      first | refine v_aload_n C 83 dXM_remember_82 rfl rfl ?_ | refine v_aload_nN C 83 dXM_remember_82 rfl rfl ?_ | refine v_aload_nQ C 83 dXM_remember_82 rfl rfl ?_
      refine gt_XM_42 C 86 dXM_remember_83 rfl h.1 rfl ?_
      refine v_imul C 87 dXM_remember_86 rfl ?_
      refine v_top _ (.int (nI (7 * ml.length))) (congrArg Value.int (pk_mul 7 ml.length)) ?_
      refine v_rv 90 (cl_XM_52 C ((c_M_copy g hA1 hA0 hne (ra_sz_lt 1) (ra_sz_lt 0) (show 7 * k + 6 < 3640 by omega) (show 7 * ml.length + 6 < 168 by omega))) dXM_remember_87 rfl rfl (Nat.le_of_ble_eq_true rfl) (Nat.le_of_ble_eq_true rfl) (Nat.le_of_ble_eq_true rfl) (by omega) (by omega)) rfl (fun M1 hM1 => ?_)
      subst hM1
      have h' := ra_up h 0 (by decide) (cp7 (f 1) (f 0) (7 * k) (7 * ml.length) 7)
      first | refine v_aload_n C 91 dXM_remember_90 rfl rfl ?_ | refine v_aload_nN C 91 dXM_remember_90 rfl rfl ?_ | refine v_aload_nQ C 91 dXM_remember_90 rfl rfl ?_
      refine v_dup C 92 dXM_remember_91 rfl rfl ?_
      refine gt_XM_42 C 95 dXM_remember_92 rfl h'.1 rfl ?_
      refine v_iconst C 96 dXM_remember_95 rfl (nI 1) (by decide) ?_
      refine v_iadd C 97 dXM_remember_96 rfl ?_
      refine v_top _ (.int (nI (ml.length + 1))) (congrArg Value.int (nI_add ml.length 1)) ?_
      refine pt_XM_42 C 100 dXM_remember_97 rfl rfl rfl h'.1 (Nat.lt_of_lt_of_le (Nat.lt_succ_self _) (Nat.le_of_ble_eq_true rfl)) (ob_M A cap gr now (ml.length + 1) logs safe fl runs marks) rfl ?_
      refine v_vret C E dXM_remember_100 (by omega) (by omega) ⟨rfl, ml ++ [e], _, (ra_ku (by decide)).tr ra_kb, ?_, lw_app hl he ok, ?_, ?_⟩
      · rw [List.length_append]
        exact ra_put h'
      · rw [tb_a_n hN]
        exact tr_app ht hT hN
      · rw [tb_a_n hN, tb_n_new (en_s_lt ok) hN, List.length_append, hn]
        rfl
    | succ n ih =>
      intro m hm hno
      obtain ⟨em, hem⟩ : ∃ em, ml[m]? = some em := ⟨_, List.getElem?_eq_getElem (show m < ml.length by omega)⟩
      obtain ⟨hwe, oke⟩ := hl m em hem
      refine v_iload_n C 3 dXM_remember_2 rfl rfl ?_
      first | refine v_aload_n C 4 dXM_remember_3 rfl rfl ?_ | refine v_aload_nN C 4 dXM_remember_3 rfl rfl ?_ | refine v_aload_nQ C 4 dXM_remember_3 rfl rfl ?_
      refine gt_XM_42 C 7 dXM_remember_4 rfl h.1 rfl ?_
      refine v_icmp_ge C 10 71 dXM_remember_7 rfl rfl (fun h9 => False.elim (by first | exact h9 (nI_ge (show m < ml.length by omega) (by omega)) | exact absurd h9 (nI_ge (show m < ml.length by omega) (by omega)))) (fun h9 => ?_)
      first | refine v_aload_n C 11 dXM_remember_10 rfl rfl ?_ | refine v_aload_nN C 11 dXM_remember_10 rfl rfl ?_ | refine v_aload_nQ C 11 dXM_remember_10 rfl rfl ?_
      refine gt_XM_7 C 14 dXM_remember_11 rfl h.1 rfl ?_
      refine v_bipush C 16 dXM_remember_14 rfl (nI 7) (by decide) ?_
      refine v_iload_n C 17 dXM_remember_16 rfl rfl ?_
      refine v_imul C 18 dXM_remember_17 rfl ?_
      refine v_top _ (.int (nI (7 * m))) (congrArg Value.int (pk_mul 7 m)) ?_
      first | refine v_aload_n C 19 dXM_remember_18 rfl rfl ?_ | refine v_aload_nN C 19 dXM_remember_18 rfl rfl ?_ | refine v_aload_nQ C 19 dXM_remember_18 rfl rfl ?_
      refine gt_XM_13 C 22 dXM_remember_19 rfl h.1 rfl ?_
      refine v_iload_n C 23 dXM_remember_22 rfl rfl ?_
      refine v_ri 26 (cl_XM_45 C ((c_M_alike g hA0 hA1 (ra_sz_lt 0) (ra_sz_lt 1) (show 7 * m + 6 < 168 by omega) (show 7 * k + 6 < 3640 by omega) hwe he oke ok)) dXM_remember_23 rfl rfl (Nat.le_of_ble_eq_true rfl) (Nat.le_of_ble_eq_true rfl) (Nat.le_of_ble_eq_true rfl) (by omega) (by omega)) rfl (fun v M1 hv => ?_)
      obtain ⟨rfl, rfl⟩ := hv
      refine v_if_eq C 29 65 dXM_remember_26 rfl rfl (fun h1 => ?_) (fun h1 => ?_)
      · rw [bI_0] at h1
        have h2 := of_decide_eq_false h1
        refine v_iinc C 68 _ (nI (m + 1)) dXM_remember_65 rfl rfl (nI_1 m) rfl ?_
        refine v_goto C 2 dXM_remember_68 rfl ?_
        refine ih (m + 1) (by omega) (fun i e' hi hie => ?_)
        by_cases him : i = m
        · subst him
          cases hem.symm.trans hie
          exact h2
        · exact hno i e' (by omega) hie
      · have h2 : en_s em = en_s e := by
          apply Classical.byContradiction
          intro z
          exact h1 (bI_0.mpr (decide_eq_false z))
        have hTs : T (en_s e) = some em := by
          rw [← h2]
          exact ht.1 m em hem trivial
        first | refine v_aload_n C 30 dXM_remember_29 rfl rfl ?_ | refine v_aload_nN C 30 dXM_remember_29 rfl rfl ?_ | refine v_aload_nQ C 30 dXM_remember_29 rfl rfl ?_
        refine gt_XM_13 C 33 dXM_remember_30 rfl h.1 rfl ?_
        refine v_iload_n C 34 dXM_remember_33 rfl rfl ?_
        first | refine v_aload_n C 35 dXM_remember_34 rfl rfl ?_ | refine v_aload_nN C 35 dXM_remember_34 rfl rfl ?_ | refine v_aload_nQ C 35 dXM_remember_34 rfl rfl ?_
        refine gt_XM_7 C 38 dXM_remember_35 rfl h.1 rfl ?_
        refine v_bipush C 40 dXM_remember_38 rfl (nI 7) (by decide) ?_
        refine v_iload_n C 41 dXM_remember_40 rfl rfl ?_
        refine v_imul C 42 dXM_remember_41 rfl ?_
        refine v_top _ (.int (nI (7 * m))) (congrArg Value.int (pk_mul 7 m)) ?_
        refine v_ri 45 (cl_XM_49 C ((c_M_wins g hA1 hA0 (ra_sz_lt 1) (ra_sz_lt 0) (show 7 * k + 6 < 3640 by omega) (show 7 * m + 6 < 168 by omega) he hwe ok oke h2.symm)) dXM_remember_42 rfl rfl (Nat.le_of_ble_eq_true rfl) (Nat.le_of_ble_eq_true rfl) (Nat.le_of_ble_eq_true rfl) (by omega) (by omega)) rfl (fun v M1 hv => ?_)
        obtain ⟨rfl, rfl⟩ := hv
        refine v_if_eq C 48 64 dXM_remember_45 rfl rfl (fun h3 => ?_) (fun h3 => ?_)
        · rw [bI_0] at h3
          refine v_vret C E dXM_remember_64 (by omega) (by omega) ⟨rfl, ml, f 0, mp_k.rf, by rw [va_up_id]; exact h, hl, by rw [tb_a_l hTs h3]; exact ht, by rw [tb_a_l hTs h3]; exact hn⟩
        · have h4 : en_w e em = true := by
            cases hz : en_w e em with
            | true => rfl
            | false => exact absurd (bI_0.mpr hz) h3
          first | refine v_aload_n C 49 dXM_remember_48 rfl rfl ?_ | refine v_aload_nN C 49 dXM_remember_48 rfl rfl ?_ | refine v_aload_nQ C 49 dXM_remember_48 rfl rfl ?_
          refine gt_XM_13 C 52 dXM_remember_49 rfl h.1 rfl ?_
          refine v_iload_n C 53 dXM_remember_52 rfl rfl ?_
          first | refine v_aload_n C 54 dXM_remember_53 rfl rfl ?_ | refine v_aload_nN C 54 dXM_remember_53 rfl rfl ?_ | refine v_aload_nQ C 54 dXM_remember_53 rfl rfl ?_
          refine gt_XM_7 C 57 dXM_remember_54 rfl h.1 rfl ?_
          refine v_bipush C 59 dXM_remember_57 rfl (nI 7) (by decide) ?_
          refine v_iload_n C 60 dXM_remember_59 rfl rfl ?_
          refine v_imul C 61 dXM_remember_60 rfl ?_
          refine v_top _ (.int (nI (7 * m))) (congrArg Value.int (pk_mul 7 m)) ?_
          refine v_rv 64 (cl_XM_52 C ((c_M_copy g hA1 hA0 hne (ra_sz_lt 1) (ra_sz_lt 0) (show 7 * k + 6 < 3640 by omega) (show 7 * m + 6 < 168 by omega))) dXM_remember_61 rfl rfl (Nat.le_of_ble_eq_true rfl) (Nat.le_of_ble_eq_true rfl) (Nat.le_of_ble_eq_true rfl) (by omega) (by omega)) rfl (fun M1 hM1 => ?_)
          subst hM1
          refine v_vret C E dXM_remember_64 (by omega) (by omega) ⟨rfl, ml.set m e, _, ra_ku (by decide), ?_, lw_set hl he ok, ?_, ?_⟩
          · rw [List.length_set]
            exact ra_up h 0 (by decide) _
          · rw [tb_a_w hTs h4]
            exact tr_set ht hT hem h2
          · rw [tb_a_w hTs h4, tb_n_old hTs, List.length_set]
            exact hn
  refine v_iconst C 1 dXM_remember_0 rfl (nI 0) (by decide) ?_
  refine v_istore_n C 2 _ dXM_remember_1 rfl (Nat.lt_of_lt_of_le (Nat.lt_succ_self _) (Nat.le_of_ble_eq_true rfl)) rfl ?_
  exact loop ml.length 0 (by omega) (fun i e' hi => absurd hi (Nat.not_lt_zero i))

