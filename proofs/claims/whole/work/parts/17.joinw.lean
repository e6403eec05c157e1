set_option maxHeartbeats 4000000 in
set_option maxRecDepth 100000 in
theorem c_M_join (g : gx_T) {M : mp_M} {b : Nat} {A : Nat → Nat} {cap gr now mem logs safe marks : Nat} {f : Nat → Nat → Int32} {el : List en_E} {ow mk : Nat → Nat} {rs : st_R} (h : ra_M g M b A cap gr now mem logs safe el.length rs.length marks f) (R : rl_r (f 2) (f 3) (f 4) (f 5) el ow mk marks rs) (i0 many tier : Nat) (hm : i0 + many = rs.length) (hm0 : 0 < many) (hel : el.length ≤ 520) (hrs : rs.length ≤ 520) (hmk : marks < 1000000) (hnow : now ≤ 100000) (hgr : gr ≤ 100) : Ct g yXM_join cXM_join 8 none 4 [.ref b, .int (nI many), .int (nI tier)] M (pv (fun M' => ∃ f3 f4 f5 : Nat → Int32, mp_k (ra_P b A) M M' ∧ ra_M g M' b A cap gr now mem logs safe el.length (i0 + 1) (marks + 1) (va_up (va_up (va_up f 4 f4) 5 f5) 3 f3) ∧ f4 = upd (f 4) i0 (nI (marks + 1)) ∧ f5 = upd (f 5) i0 (nI tier) ∧ ao f3 el.length (jall el now gr (decide (i0 = 0)) ow mk i0 rs.length (marks + 1)))) 0 0 := by
  refine ct_intro (L0 := [some (.ref b), some (.int (nI many)), some (.int (nI tier)), none, none, none, none, none]) (by decide) (Nat.le_of_ble_eq_true rfl) rfl rfl (fun x C Rx I => ?_)
  obtain ⟨R1, R2, R3, R4, R5, R6⟩ := R
  have hmx0 : marks + 1 ≠ 0 := by omega
  have okE : ∀ (i : Nat) (e : en_E), el[i]? = some e → en_ok e := fun i e he => (R1 i e he).2
  have hget : ∀ i, i < el.length → ∃ e, el[i]? = some e := fun i hi => ⟨_, List.getElem?_eq_getElem hi⟩
  have le1 : ∀ K i, i < el.length → j1 ow mk i0 K (marks + 1) i ≤ marks + 1 := by
    intro K i hi
    have := (R2 i hi).2
    unfold j1
    split <;> omega

  have ph4 : ∀ (o3 : Nat → Nat), (∀ i, i < el.length → o3 i ≤ marks + 1) → ∀ (n E : Nat) (M' : mp_M) (f3 f4 f5 : Nat → Int32), E + n = el.length → f4 = upd (f 4) i0 (nI (marks + 1)) → f5 = upd (f 5) i0 (nI tier) → mp_k (ra_P b A) M M' → ra_M g M' b A cap gr now mem logs safe el.length (i0 + 1) (marks + 1) (va_up (va_up (va_up f 4 f4) 5 f5) 3 f3) → ao f3 el.length (mixo o3 (j4 el now gr o3 (marks + 1)) E) → (∀ f3', ao f3' el.length (if decide (i0 = 0) = true then j4 el now gr o3 (marks + 1) else o3) → ao f3' el.length (jall el now gr (decide (i0 = 0)) ow mk i0 rs.length (marks + 1))) → ((¬ i0 = 0) → E = 0) → ∀ L5 L6 L7, VV g x M' 0 0 489 [some (.ref b), some (.int (nI many)), some (.int (nI tier)), some (.int (bI (decide (i0 = 0)))), some (.int (nI E)), L5, L6, L7] [] := by
    intro o3 ho3 n
    induction n with
    | zero =>
      intro E M' f3 f4 f5 hE e4 e5 hk h' ha fin hz L5 L6 L7
      have hEl : E = el.length := by omega
      refine v_iload C 491 dXM_join_489 rfl rfl ?_
      first | refine v_aload_n C 492 dXM_join_491 rfl rfl ?_ | refine v_aload_nN C 492 dXM_join_491 rfl rfl ?_ | refine v_aload_nQ C 492 dXM_join_491 rfl rfl ?_
      refine gt_XM_85 C 495 dXM_join_492 rfl h'.1 rfl ?_
      refine v_icmp_ge C 498 586 dXM_join_495 rfl rfl (fun h9 => ?_) (fun h9 => False.elim (by first | exact h9 (nI_le (show el.length ≤ E by omega) (by omega)) | exact absurd h9 (nI_le (show el.length ≤ E by omega) (by omega))))
      refine v_vret C Rx dXM_join_586 (by omega) (by omega) ⟨rfl, f3, f4, f5, hk, h', e4, e5, fin f3 (fun i hi => ?_)⟩
      rw [ha i hi]
      unfold mixo
      rw [if_pos (by omega)]
      by_cases hi0 : i0 = 0
      · rw [if_pos (decide_eq_true hi0)]
      · have := hz hi0
        omega
    | succ n ih =>
      intro E M' f3 f4 f5 hE e4 e5 hk h' ha fin hz L5 L6 L7
      have hA2 := h'.2.1 2 (by decide)
      have hA3 := h'.2.1 3 (by decide)
      rw [va_up_self] at hA3
      rw [va_up_ne _ _ (by decide), va_up_ne _ _ (by decide), va_up_ne _ _ (by decide)] at hA2
      obtain ⟨e, he⟩ := hget E (by omega)
      obtain ⟨hwe, ok⟩ := R1 E e he
      have o8 := ok.2.2.2.2.2.2.2
      have hoE := ho3 E (by omega)
      have hfE : f3 E = nI (o3 E) := by rw [ha E (by omega), mixo_E]
      refine v_iload C 491 dXM_join_489 rfl rfl ?_
      first | refine v_aload_n C 492 dXM_join_491 rfl rfl ?_ | refine v_aload_nN C 492 dXM_join_491 rfl rfl ?_ | refine v_aload_nQ C 492 dXM_join_491 rfl rfl ?_
      refine gt_XM_85 C 495 dXM_join_492 rfl h'.1 rfl ?_
      refine v_icmp_ge C 498 586 dXM_join_495 rfl rfl (fun h9 => False.elim (by first | exact h9 (nI_ge (show E < el.length by omega) (by omega)) | exact absurd h9 (nI_ge (show E < el.length by omega) (by omega)))) (fun h9 => ?_)
      refine v_iload_n C 499 dXM_join_498 rfl rfl ?_
      by_cases hi0 : i0 = 0
      · rw [bI_t (decide_eq_true hi0)]
        refine v_if_eq C 502 586 dXM_join_499 rfl rfl (fun h9 => False.elim (by first | exact h9 ((by decide)) | exact absurd h9 ((by decide)))) (fun h9 => ?_)
        first | refine v_aload_n C 503 dXM_join_502 rfl rfl ?_ | refine v_aload_nN C 503 dXM_join_502 rfl rfl ?_ | refine v_aload_nQ C 503 dXM_join_502 rfl rfl ?_
        refine gt_XM_16 C 506 dXM_join_503 rfl h'.1 rfl ?_
        refine v_bipush C 508 dXM_join_506 rfl (nI 7) (by decide) ?_
        refine v_iload C 510 dXM_join_508 rfl rfl ?_
        refine v_imul C 511 dXM_join_510 rfl ?_
        refine v_top _ (.int (nI (7 * E))) (congrArg Value.int (pk_mul 7 E)) ?_
        refine v_bipush C 513 dXM_join_511 rfl (nI 6) (by decide) ?_
        refine v_iadd C 514 dXM_join_513 rfl ?_
        refine v_iald C 515 dXM_join_514 rfl hA2 (7 * E + 6) (nI_add (7 * E) 6) (show 7 * E + 6 < 3640 by omega) (ra_sz_lt 2) ?_
        rw [hwe.2.2.2.2.2.2]
        refine v_istore C 517 _ dXM_join_515 rfl (Nat.lt_of_lt_of_le (Nat.lt_succ_self _) (Nat.le_of_ble_eq_true rfl)) rfl ?_
        refine v_iload C 519 dXM_join_517 rfl rfl ?_
        have tail : ∀ bl : Bool, (bl = true ↔ en_t e + gr ≤ now) → ∀ L5 L6 L7, VV g x M' 0 0 541 [some (.ref b), some (.int (nI many)), some (.int (nI tier)), some (.int 1), some (.int (nI E)), L5, L6, L7] [.int (bI bl)] := by
          intro bl hbl L5 L6 L7
          have wr : ∀ v : Nat, v = j4 el now gr o3 (marks + 1) E → ∀ L5 L6 L7, VV g x M' 0 0 579 [some (.ref b), some (.int (nI many)), some (.int (nI tier)), some (.int 1), some (.int (nI E)), L5, L6, L7] [.int (nI v), .int (nI E), .ref (A 3)] := by
            intro v hv L5 L6 L7
            refine v_iast C 580 dXM_join_579 rfl hA3 E rfl (show E < 520 by omega) (ra_sz_lt 3) ?_
            have h2 := ra_up h' 3 (by decide) (upd f3 E (nI v))
            rw [bx_uu] at h2
            refine v_iinc C 583 _ (nI (E + 1)) dXM_join_580 rfl rfl (nI_1 E) rfl ?_
            refine v_goto C 489 dXM_join_583 rfl ?_
            have := ih (E + 1) _ (upd f3 E (nI v)) f4 f5 (by omega) e4 e5 (hk.tr (ra_ku (by decide))) h2 (ao_up ha (by rw [mixo_s, hv]) (fun i hi hne => mixo_n hne)) fin (fun z => absurd hi0 z) L5 L6 L7
            rw [bI_t (decide_eq_true hi0)] at this
            exact this
          have keep : ¬ (o3 E = marks + 1 ∧ bl = true) → ∀ L5 L6 L7, VV g x M' 0 0 572 [some (.ref b), some (.int (nI many)), some (.int (nI tier)), some (.int 1), some (.int (nI E)), L5, L6, L7] [.int (nI E), .ref (A 3)] := by
            intro hno L5 L6 L7
            first | refine v_aload_n C 573 dXM_join_572 rfl rfl ?_ | refine v_aload_nN C 573 dXM_join_572 rfl rfl ?_ | refine v_aload_nQ C 573 dXM_join_572 rfl rfl ?_
            refine gt_XM_19 C 576 dXM_join_573 rfl h'.1 rfl ?_
            refine v_iload C 578 dXM_join_576 rfl rfl ?_
            refine v_iald C 579 dXM_join_578 rfl hA3 E rfl (show E < 520 by omega) (ra_sz_lt 3) ?_
            rw [hfE]
            refine wr _ ?_ _ _ _
            symm
            refine if_neg ?_
            rw [bo_t]
            rintro ⟨z1, e', z2, z3⟩
            cases he.symm.trans z2
            exact hno ⟨z1, hbl.mpr z3⟩
          refine v_istore C 543 _ dXM_join_541 rfl (Nat.lt_of_lt_of_le (Nat.lt_succ_self _) (Nat.le_of_ble_eq_true rfl)) rfl ?_
          first | refine v_aload_n C 544 dXM_join_543 rfl rfl ?_ | refine v_aload_nN C 544 dXM_join_543 rfl rfl ?_ | refine v_aload_nQ C 544 dXM_join_543 rfl rfl ?_
          refine gt_XM_19 C 547 dXM_join_544 rfl h'.1 rfl ?_
          refine v_iload C 549 dXM_join_547 rfl rfl ?_
          first | refine v_aload_n C 550 dXM_join_549 rfl rfl ?_ | refine v_aload_nN C 550 dXM_join_549 rfl rfl ?_ | refine v_aload_nQ C 550 dXM_join_549 rfl rfl ?_
          refine gt_XM_19 C 553 dXM_join_550 rfl h'.1 rfl ?_
          refine v_iload C 555 dXM_join_553 rfl rfl ?_
          refine v_iald C 556 dXM_join_555 rfl hA3 E rfl (show E < 520 by omega) (ra_sz_lt 3) ?_
          rw [hfE]
          first | refine v_aload_n C 557 dXM_join_556 rfl rfl ?_ | refine v_aload_nN C 557 dXM_join_556 rfl rfl ?_ | refine v_aload_nQ C 557 dXM_join_556 rfl rfl ?_
          refine gt_XM_82 C 560 dXM_join_557 rfl h'.1 rfl ?_
          refine v_icmp_ne C 563 572 dXM_join_560 rfl rfl (fun hc => ?_) (fun hc => ?_)
          · exact keep (fun z => hc (by rw [z.1])) _ _ _
          · rw [nI_eq (by omega) (by omega)] at hc
            refine v_iload C 565 dXM_join_563 rfl rfl ?_
            refine v_if_eq C 568 572 dXM_join_565 rfl rfl (fun hb => ?_) (fun hb => ?_)
            · rw [bI_0] at hb
              exact keep (fun z => by rw [hb] at z; cases z.2) _ _ _
            · refine v_iconst C 569 dXM_join_568 rfl (nI 0) (by decide) ?_
              refine v_goto C 579 dXM_join_569 rfl ?_
              refine wr 0 ?_ _ _ _
              symm
              refine if_pos (bo_t.mpr ⟨hc, e, he, hbl.mp ?_⟩)
              cases hz2 : bl with
              | true => rfl
              | false => exact absurd (bI_0.mpr hz2) hb
        have no : ¬ en_t e + gr ≤ now → ∀ L5 L6 L7, VV g x M' 0 0 540 [some (.ref b), some (.int (nI many)), some (.int (nI tier)), some (.int 1), some (.int (nI E)), L5, L6, L7] [] := by
          intro hno L5 L6 L7
          refine v_iconst C 541 dXM_join_540 rfl (nI 0) (by decide) ?_
          exact tail false ⟨fun z => (by cases z), fun z => absurd z hno⟩ _ _ _
        refine v_if_lt C 522 540 dXM_join_519 rfl rfl (fun ht => ?_) (fun ht => ?_)
        · have := (tw_n ok).mp ht
          exact no (by omega) _ _ _
        · have htn : en_t e ≠ 2147483647 := fun z => ht ((tw_n ok).mpr z)
          have htw : tw (en_t e) = nI (en_t e) := if_neg htn
          rw [htw]
          refine v_iload C 524 dXM_join_522 rfl rfl ?_
          first | refine v_aload_n C 525 dXM_join_524 rfl rfl ?_ | refine v_aload_nN C 525 dXM_join_524 rfl rfl ?_ | refine v_aload_nQ C 525 dXM_join_524 rfl rfl ?_
          refine gt_XM_35 C 528 dXM_join_525 rfl h'.1 rfl ?_
          refine v_iadd C 529 dXM_join_528 rfl ?_
          refine v_top _ (.int (nI (en_t e + gr))) (congrArg Value.int (nI_add (en_t e) gr)) ?_
          first | refine v_aload_n C 530 dXM_join_529 rfl rfl ?_ | refine v_aload_nN C 530 dXM_join_529 rfl rfl ?_ | refine v_aload_nQ C 530 dXM_join_529 rfl rfl ?_
          refine gt_XM_75 C 533 dXM_join_530 rfl h'.1 rfl ?_
          refine v_icmp_gt C 536 540 dXM_join_533 rfl rfl (fun hle => ?_) (fun hle => ?_)
          · rw [nI_ltI (by omega) (by omega)] at hle
            exact no (by omega) _ _ _
          · rw [nI_ltI (by omega) (by omega)] at hle
            refine v_iconst C 537 dXM_join_536 rfl (nI 1) (by decide) ?_
            refine v_goto C 541 dXM_join_537 rfl ?_
            exact tail true ⟨fun _ => by omega, fun _ => rfl⟩ _ _ _
      · have hE0 := hz hi0
        subst hE0
        rw [bI_f (decide_eq_false hi0)]
        refine v_if_eq C 502 586 dXM_join_499 rfl rfl (fun h9 => ?_) (fun h9 => False.elim (by first | exact h9 (rfl) | exact absurd h9 (rfl)))
        refine v_vret C Rx dXM_join_586 (by omega) (by omega) ⟨rfl, f3, f4, f5, hk, h', e4, e5, fin f3 ?_⟩
        rw [mixo_0] at ha
        rw [if_neg (by rw [decide_eq_true_eq]; exact hi0)]
        exact ha
  have ph3 : ∀ (o2 : Nat → Nat), (∀ i, i < el.length → o2 i ≤ marks + 1) → (∀ f3', ao f3' el.length (if decide (i0 = 0) = true then j4 el now gr (j3 el o2 (marks + 1)) (marks + 1) else j3 el o2 (marks + 1)) → ao f3' el.length (jall el now gr (decide (i0 = 0)) ow mk i0 rs.length (marks + 1))) → ∀ (n E : Nat) (M' : mp_M) (f3 f4 f5 : Nat → Int32), E + n = el.length → f4 = upd (f 4) i0 (nI (marks + 1)) → f5 = upd (f 5) i0 (nI tier) → mp_k (ra_P b A) M M' → ra_M g M' b A cap gr now mem logs safe el.length (i0 + 1) (marks + 1) (va_up (va_up (va_up f 4 f4) 5 f5) 3 f3) → ao f3 el.length (mixo o2 (j3 el o2 (marks + 1)) E) → ∀ L5 L6 L7, VV g x M' 0 0 334 [some (.ref b), some (.int (nI many)), some (.int (nI tier)), some (.int (bI (decide (i0 = 0)))), some (.int (nI E)), L5, L6, L7] [] := by
    intro o2 ho2 fin n
    have ho3 : ∀ i, i < el.length → j3 el o2 (marks + 1) i ≤ marks + 1 := by
      intro i hi
      have := ho2 i hi
      rcases j3_or (el := el) (o := o2) (mx := marks + 1) (i := i) with z | z <;> rw [z] <;> omega
    induction n with
    | zero =>
      intro E M' f3 f4 f5 hE e4 e5 hk h' ha L5 L6 L7
      refine v_iload C 336 dXM_join_334 rfl rfl ?_
      first | refine v_aload_n C 337 dXM_join_336 rfl rfl ?_ | refine v_aload_nN C 337 dXM_join_336 rfl rfl ?_ | refine v_aload_nQ C 337 dXM_join_336 rfl rfl ?_
      refine gt_XM_85 C 340 dXM_join_337 rfl h'.1 rfl ?_
      refine v_icmp_ge C 343 486 dXM_join_340 rfl rfl (fun h9 => ?_) (fun h9 => False.elim (by first | exact h9 (nI_le (show el.length ≤ E by omega) (by omega)) | exact absurd h9 (nI_le (show el.length ≤ E by omega) (by omega))))
      refine v_iconst C 487 dXM_join_486 rfl (nI 0) (by decide) ?_
      refine v_istore C 489 _ dXM_join_487 rfl (Nat.lt_of_lt_of_le (Nat.lt_succ_self _) (Nat.le_of_ble_eq_true rfl)) rfl ?_
      refine ph4 (j3 el o2 (marks + 1)) ho3 el.length 0 M' f3 f4 f5 (by omega) e4 e5 hk h' ?_ fin (fun _ => rfl) _ _ _
      rw [mixo_0]
      intro i hi
      rw [ha i hi]
      unfold mixo
      rw [if_pos (by omega)]
    | succ n ih =>
      intro E M' f3 f4 f5 hE e4 e5 hk h' ha L5 L6 L7
      obtain ⟨e, he⟩ := hget E (by omega)
      obtain ⟨hwe, ok⟩ := R1 E e he
      have o1 := ok.2.1
      have o3 := ok.2.2.1
      have o4 := ok.2.2.2.1
      have o5 := ok.2.2.2.2.2.1
      have inner : ∀ (n' Fi : Nat) (M' : mp_M) (f3 : Nat → Int32) (cur : Nat), Fi + n' = el.length → mp_k (ra_P b A) M M' → ra_M g M' b A cap gr now mem logs safe el.length (i0 + 1) (marks + 1) (va_up (va_up (va_up f 4 f4) 5 f5) 3 f3) → ao f3 el.length (va_up (mixo o2 (j3 el o2 (marks + 1)) E) E cur) → ((cur = marks + 1 ∧ o2 E = marks + 1 ∧ ∀ (j : Nat) (e' : en_E), j < Fi → o2 j = marks + 1 → el[j]? = some e' → en_k e ≠ 2 → ¬ en_cv e' (en_r e) (en_c e) (en_p e)) ∨ (cur = j3 el o2 (marks + 1) E ∧ cur ≠ marks + 1)) → ∀ L6 L7, VV g x M' 0 0 346 [some (.ref b), some (.int (nI many)), some (.int (nI tier)), some (.int (bI (decide (i0 = 0)))), some (.int (nI E)), some (.int (nI Fi)), L6, L7] [] := by
        intro n'
        have out : ∀ (M' : mp_M) (f3 : Nat → Int32), mp_k (ra_P b A) M M' → ra_M g M' b A cap gr now mem logs safe el.length (i0 + 1) (marks + 1) (va_up (va_up (va_up f 4 f4) 5 f5) 3 f3) → ao f3 el.length (va_up (mixo o2 (j3 el o2 (marks + 1)) E) E (j3 el o2 (marks + 1) E)) → ∀ L5 L6 L7, VV g x M' 0 0 480 [some (.ref b), some (.int (nI many)), some (.int (nI tier)), some (.int (bI (decide (i0 = 0)))), some (.int (nI E)), L5, L6, L7] [] := by
          intro M' f3 hk h' ha L5 L6 L7
          refine v_iinc C 483 _ (nI (E + 1)) dXM_join_480 rfl rfl (nI_1 E) rfl ?_
          refine v_goto C 334 dXM_join_483 rfl ?_
          exact ih (E + 1) M' f3 f4 f5 (by omega) e4 e5 hk h' (by rw [← mixo_up]; exact ha) _ _ _
        induction n' with
        | zero =>
          intro Fi M' f3 cur hF hk h' ha hcur L6 L7
          refine v_iload C 348 dXM_join_346 rfl rfl ?_
          first | refine v_aload_n C 349 dXM_join_348 rfl rfl ?_ | refine v_aload_nN C 349 dXM_join_348 rfl rfl ?_ | refine v_aload_nQ C 349 dXM_join_348 rfl rfl ?_
          refine gt_XM_85 C 352 dXM_join_349 rfl h'.1 rfl ?_
          refine v_icmp_ge C 355 480 dXM_join_352 rfl rfl (fun h9 => ?_) (fun h9 => False.elim (by first | exact h9 (nI_le (show el.length ≤ Fi by omega) (by omega)) | exact absurd h9 (nI_le (show el.length ≤ Fi by omega) (by omega))))
          have hce : cur = j3 el o2 (marks + 1) E := by
            rcases hcur with ⟨c1, c2, c3⟩ | ⟨c1, -⟩
            · rw [c1]
              symm
              refine (j3_mx hmx0).mpr ⟨c2, fun e' a1 a2 j f' a3 a4 => ?_⟩
              cases he.symm.trans a1
              exact c3 j f' (by have := (List.getElem?_eq_some_iff.mp a4).1; omega) a3 a4 a2
            · exact c1
          exact out M' f3 hk h' (by rw [← hce]; exact ha) _ _ _
        | succ n' ih2 =>
          intro Fi M' f3 cur hF hk h' ha hcur L6 L7
          have hA2 := h'.2.1 2 (by decide)
          have hA3 := h'.2.1 3 (by decide)
          rw [va_up_self] at hA3
          rw [va_up_ne _ _ (by decide), va_up_ne _ _ (by decide), va_up_ne _ _ (by decide)] at hA2
          have hfE : f3 E = nI cur := by rw [ha E (by omega), va_up_self]
          have hcl : cur ≤ marks + 1 := by
            rcases hcur with ⟨c1, -, -⟩ | ⟨c1, -⟩
            · omega
            · rw [c1]
              exact ho3 E (by omega)
          refine v_iload C 348 dXM_join_346 rfl rfl ?_
          first | refine v_aload_n C 349 dXM_join_348 rfl rfl ?_ | refine v_aload_nN C 349 dXM_join_348 rfl rfl ?_ | refine v_aload_nQ C 349 dXM_join_348 rfl rfl ?_
          refine gt_XM_85 C 352 dXM_join_349 rfl h'.1 rfl ?_
          refine v_icmp_ge C 355 480 dXM_join_352 rfl rfl (fun h9 => False.elim (by first | exact h9 (nI_ge (show Fi < el.length by omega) (by omega)) | exact absurd h9 (nI_ge (show Fi < el.length by omega) (by omega)))) (fun h9 => ?_)
          first | refine v_aload_n C 356 dXM_join_355 rfl rfl ?_ | refine v_aload_nN C 356 dXM_join_355 rfl rfl ?_ | refine v_aload_nQ C 356 dXM_join_355 rfl rfl ?_
          refine gt_XM_19 C 359 dXM_join_356 rfl h'.1 rfl ?_
          refine v_iload C 361 dXM_join_359 rfl rfl ?_
          refine v_iald C 362 dXM_join_361 rfl hA3 E rfl (show E < 520 by omega) (ra_sz_lt 3) ?_
          rw [hfE]
          first | refine v_aload_n C 363 dXM_join_362 rfl rfl ?_ | refine v_aload_nN C 363 dXM_join_362 rfl rfl ?_ | refine v_aload_nQ C 363 dXM_join_362 rfl rfl ?_
          refine gt_XM_82 C 366 dXM_join_363 rfl h'.1 rfl ?_
          refine v_icmp_ne C 369 480 dXM_join_366 rfl rfl (fun hc => ?_) (fun hc => ?_)
          · have hce : cur = j3 el o2 (marks + 1) E := by
              rcases hcur with ⟨c1, -, -⟩ | ⟨c1, -⟩
              · exact absurd (by rw [c1]) hc
              · exact c1
            exact out M' f3 hk h' (by rw [← hce]; exact ha) _ _ _
          · rw [nI_eq (by omega) (by omega)] at hc
            obtain ⟨c2, c3⟩ : o2 E = marks + 1 ∧ ∀ (j : Nat) (e' : en_E), j < Fi → o2 j = marks + 1 → el[j]? = some e' → en_k e ≠ 2 → ¬ en_cv e' (en_r e) (en_c e) (en_p e) := by
              rcases hcur with ⟨-, c2, c3⟩ | ⟨-, c2⟩
              · exact ⟨c2, c3⟩
              · exact absurd hc c2
            first | refine v_aload_n C 370 dXM_join_369 rfl rfl ?_ | refine v_aload_nN C 370 dXM_join_369 rfl rfl ?_ | refine v_aload_nQ C 370 dXM_join_369 rfl rfl ?_
            refine gt_XM_16 C 373 dXM_join_370 rfl h'.1 rfl ?_
            refine v_bipush C 375 dXM_join_373 rfl (nI 7) (by decide) ?_
            refine v_iload C 377 dXM_join_375 rfl rfl ?_
            refine v_imul C 378 dXM_join_377 rfl ?_
            refine v_top _ (.int (nI (7 * E))) (congrArg Value.int (pk_mul 7 E)) ?_
            refine v_ri 381 (cl_XM_38 C ((c_M_point g hA2 (ra_sz_lt 2) (show 7 * E < 3640 by omega) hwe ok)) dXM_join_378 rfl rfl (Nat.le_of_ble_eq_true rfl) (Nat.le_of_ble_eq_true rfl) (Nat.le_of_ble_eq_true rfl) (by omega) (by omega)) rfl (fun v M1 hv => ?_)
            obtain ⟨rfl, rfl⟩ := hv
            refine v_if_eq C 384 480 dXM_join_381 rfl rfl (fun hp => ?_) (fun hp => ?_)
            · rw [bI_0] at hp
              have hk2 : en_k e = 2 := Classical.byContradiction (of_decide_eq_false hp)
              refine out M' f3 hk h' ?_ _ _ _
              have hj3 : j3 el o2 (marks + 1) E = cur := by rw [j3_w he hk2, c2, hc]
              rw [hj3]
              exact ha
            · have hk2 : en_k e ≠ 2 := fun z => hp (bI_0.mpr (decide_eq_false (fun y => y z)))
              obtain ⟨e', he'⟩ := hget Fi (by omega)
              obtain ⟨hwe', ok'⟩ := R1 Fi e' he'
              have wr : ∀ bl : Bool, (bl = true ↔ (o2 Fi = marks + 1 ∧ en_cv e' (en_r e) (en_c e) (en_p e))) → ∀ L6 L7, VV g x M' 0 0 452 [some (.ref b), some (.int (nI many)), some (.int (nI tier)), some (.int (bI (decide (i0 = 0)))), some (.int (nI E)), some (.int (nI Fi)), L6, L7] [.int (bI bl)] := by
                intro bl hbl L6 L7
                have st : ∀ v : Nat, (v = if bl = true then 0 else marks + 1) → ∀ L6 L7, VV g x M' 0 0 473 [some (.ref b), some (.int (nI many)), some (.int (nI tier)), some (.int (bI (decide (i0 = 0)))), some (.int (nI E)), some (.int (nI Fi)), L6, L7] [.int (nI v), .int (nI E), .ref (A 3)] := by
                  intro v hv L6 L7
                  refine v_iast C 474 dXM_join_473 rfl hA3 E rfl (show E < 520 by omega) (ra_sz_lt 3) ?_
                  have h2 := ra_up h' 3 (by decide) (upd f3 E (nI v))
                  rw [bx_uu] at h2
                  refine v_iinc C 477 _ (nI (Fi + 1)) dXM_join_474 rfl rfl (nI_1 Fi) rfl ?_
                  refine v_goto C 346 dXM_join_477 rfl ?_
                  refine ih2 (Fi + 1) _ (upd f3 E (nI v)) v (by omega) (hk.tr (ra_ku (by decide))) h2 (ao_up ha (by rw [va_up_self]) (fun i hi hne => by rw [va_up_ne _ _ hne, va_up_ne _ _ hne])) ?_ _ _
                  cases hz : bl with
                  | true =>
                    rw [hz, if_pos rfl] at hv
                    obtain ⟨d1, d2⟩ := hbl.mp hz
                    right
                    refine ⟨?_, by omega⟩
                    rw [hv]
                    symm
                    exact if_pos (bo_t.mpr ⟨c2, e, he, hk2, Fi, e', d1, he', d2⟩)
                  | false =>
                    rw [hz] at hv
                    have hv2 : v = marks + 1 := hv
                    refine Or.inl ⟨hv2, c2, fun j e2 hj a1 a2 a3 => ?_⟩
                    by_cases hjF : j = Fi
                    · subst hjF
                      cases he'.symm.trans a2
                      intro d2
                      have := hbl.mpr ⟨a1, d2⟩
                      rw [hz] at this
                      cases this
                    · exact c3 j e2 (by omega) a1 a2 a3
                refine v_istore C 454 _ dXM_join_452 rfl (Nat.lt_of_lt_of_le (Nat.lt_succ_self _) (Nat.le_of_ble_eq_true rfl)) rfl ?_
                first | refine v_aload_n C 455 dXM_join_454 rfl rfl ?_ | refine v_aload_nN C 455 dXM_join_454 rfl rfl ?_ | refine v_aload_nQ C 455 dXM_join_454 rfl rfl ?_
                refine gt_XM_19 C 458 dXM_join_455 rfl h'.1 rfl ?_
                refine v_iload C 460 dXM_join_458 rfl rfl ?_
                refine v_iload C 462 dXM_join_460 rfl rfl ?_
                refine v_if_eq C 465 469 dXM_join_462 rfl rfl (fun hb => ?_) (fun hb => ?_)
                · first | refine v_aload_n C 470 dXM_join_469 rfl rfl ?_ | refine v_aload_nN C 470 dXM_join_469 rfl rfl ?_ | refine v_aload_nQ C 470 dXM_join_469 rfl rfl ?_
                  refine gt_XM_82 C 473 dXM_join_470 rfl h'.1 rfl ?_
                  rw [bI_0] at hb
                  refine st (marks + 1) ?_ _ _
                  rw [hb]
                  rfl
                · refine v_iconst C 466 dXM_join_465 rfl (nI 0) (by decide) ?_
                  refine v_goto C 473 dXM_join_466 rfl ?_
                  refine st 0 ?_ _ _
                  cases hz : bl with
                  | true => rfl
                  | false => exact absurd (bI_0.mpr hz) hb
              have nob : ¬ (o2 Fi = marks + 1 ∧ en_cv e' (en_r e) (en_c e) (en_p e)) → ∀ L6 L7, VV g x M' 0 0 451 [some (.ref b), some (.int (nI many)), some (.int (nI tier)), some (.int (bI (decide (i0 = 0)))), some (.int (nI E)), some (.int (nI Fi)), L6, L7] [] := by
                intro hno L6 L7
                refine v_iconst C 452 dXM_join_451 rfl (nI 0) (by decide) ?_
                exact wr false ⟨fun z => (by cases z), fun z => absurd z hno⟩ _ _
              have oF : en_cv e' (en_r e) (en_c e) (en_p e) → va_up (mixo o2 (j3 el o2 (marks + 1)) E) E cur Fi = o2 Fi := by
                intro hcv
                have hne : Fi ≠ E := by
                  intro z
                  subst z
                  cases he.symm.trans he'
                  exact hk2 hcv.1
                rw [va_up_ne _ _ hne]
                rcases mixo_or (o := o2) (o' := j3 el o2 (marks + 1)) (E := E) (i := Fi) with z | z
                · rw [z, j3_w he' hcv.1]
                · exact z
              have hFl : va_up (mixo o2 (j3 el o2 (marks + 1)) E) E cur Fi ≤ marks + 1 := by
                by_cases hne : Fi = E
                · rw [hne, va_up_self]
                  exact hcl
                · rw [va_up_ne _ _ hne]
                  have a1 := ho2 Fi (by omega)
                  have a2 := ho3 Fi (by omega)
                  rcases mixo_or (o := o2) (o' := j3 el o2 (marks + 1)) (E := E) (i := Fi) with z | z <;> rw [z] <;> omega
              refine v_bipush C 386 dXM_join_384 rfl (nI 7) (by decide) ?_
              refine v_iload C 388 dXM_join_386 rfl rfl ?_
              refine v_imul C 389 dXM_join_388 rfl ?_
              refine v_top _ (.int (nI (7 * E))) (congrArg Value.int (pk_mul 7 E)) ?_
              refine v_istore C 391 _ dXM_join_389 rfl (Nat.lt_of_lt_of_le (Nat.lt_succ_self _) (Nat.le_of_ble_eq_true rfl)) rfl ?_
              first | refine v_aload_n C 392 dXM_join_391 rfl rfl ?_ | refine v_aload_nN C 392 dXM_join_391 rfl rfl ?_ | refine v_aload_nQ C 392 dXM_join_391 rfl rfl ?_
              refine gt_XM_19 C 395 dXM_join_392 rfl h'.1 rfl ?_
              refine v_iload C 397 dXM_join_395 rfl rfl ?_
              refine v_iald C 398 dXM_join_397 rfl hA3 Fi rfl (show Fi < 520 by omega) (ra_sz_lt 3) ?_
              rw [ha Fi (by omega)]
              first | refine v_aload_n C 399 dXM_join_398 rfl rfl ?_ | refine v_aload_nN C 399 dXM_join_398 rfl rfl ?_ | refine v_aload_nQ C 399 dXM_join_398 rfl rfl ?_
              refine gt_XM_82 C 402 dXM_join_399 rfl h'.1 rfl ?_
              refine v_icmp_ne C 405 451 dXM_join_402 rfl rfl (fun hq => ?_) (fun hq => ?_)
              · refine nob (fun z => hq ?_) _ _
                rw [oF z.2, z.1]
              · rw [nI_eq (by omega) (by omega)] at hq
                first | refine v_aload_n C 406 dXM_join_405 rfl rfl ?_ | refine v_aload_nN C 406 dXM_join_405 rfl rfl ?_ | refine v_aload_nQ C 406 dXM_join_405 rfl rfl ?_
                refine gt_XM_16 C 409 dXM_join_406 rfl h'.1 rfl ?_
                refine v_bipush C 411 dXM_join_409 rfl (nI 7) (by decide) ?_
                refine v_iload C 413 dXM_join_411 rfl rfl ?_
                refine v_imul C 414 dXM_join_413 rfl ?_
                refine v_top _ (.int (nI (7 * Fi))) (congrArg Value.int (pk_mul 7 Fi)) ?_
                first | refine v_aload_n C 415 dXM_join_414 rfl rfl ?_ | refine v_aload_nN C 415 dXM_join_414 rfl rfl ?_ | refine v_aload_nQ C 415 dXM_join_414 rfl rfl ?_
                refine gt_XM_16 C 418 dXM_join_415 rfl h'.1 rfl ?_
                refine v_iload C 420 dXM_join_418 rfl rfl ?_
                refine v_iconst C 421 dXM_join_420 rfl (nI 1) (by decide) ?_
                refine v_iadd C 422 dXM_join_421 rfl ?_
                refine v_iald C 423 dXM_join_422 rfl hA2 (7 * E + 1) (nI_add (7 * E) 1) (show 7 * E + 1 < 3640 by omega) (ra_sz_lt 2) ?_
                rw [hwe.2.1]
                first | refine v_aload_n C 424 dXM_join_423 rfl rfl ?_ | refine v_aload_nN C 424 dXM_join_423 rfl rfl ?_ | refine v_aload_nQ C 424 dXM_join_423 rfl rfl ?_
                refine gt_XM_16 C 427 dXM_join_424 rfl h'.1 rfl ?_
                refine v_iload C 429 dXM_join_427 rfl rfl ?_
                refine v_iconst C 430 dXM_join_429 rfl (nI 2) (by decide) ?_
                refine v_iadd C 431 dXM_join_430 rfl ?_
                refine v_iald C 432 dXM_join_431 rfl hA2 (7 * E + 2) (nI_add (7 * E) 2) (show 7 * E + 2 < 3640 by omega) (ra_sz_lt 2) ?_
                rw [hwe.2.2.1]
                first | refine v_aload_n C 433 dXM_join_432 rfl rfl ?_ | refine v_aload_nN C 433 dXM_join_432 rfl rfl ?_ | refine v_aload_nQ C 433 dXM_join_432 rfl rfl ?_
                refine gt_XM_16 C 436 dXM_join_433 rfl h'.1 rfl ?_
                refine v_iload C 438 dXM_join_436 rfl rfl ?_
                refine v_iconst C 439 dXM_join_438 rfl (nI 4) (by decide) ?_
                refine v_iadd C 440 dXM_join_439 rfl ?_
                refine v_iald C 441 dXM_join_440 rfl hA2 (7 * E + 4) (nI_add (7 * E) 4) (show 7 * E + 4 < 3640 by omega) (ra_sz_lt 2) ?_
                rw [hwe.2.2.2.2.1]
                refine v_ri 444 (cl_XM_98 C ((c_M_covers g hA2 (ra_sz_lt 2) (show 7 * Fi + 6 < 3640 by omega) hwe' ok' (en_r e) (en_c e) (en_p e) o1 (by omega) o5)) dXM_join_441 rfl rfl (Nat.le_of_ble_eq_true rfl) (Nat.le_of_ble_eq_true rfl) (Nat.le_of_ble_eq_true rfl) (by omega) (by omega)) rfl (fun v M1 hv => ?_)
                obtain ⟨rfl, rfl⟩ := hv
                refine v_if_eq C 447 451 dXM_join_444 rfl rfl (fun hcv => ?_) (fun hcv => ?_)
                · rw [bI_0, bo_f] at hcv
                  exact nob (fun z => hcv z.2) _ _
                · have hcv2 : en_cv e' (en_r e) (en_c e) (en_p e) := Classical.byContradiction fun z => hcv (bI_0.mpr (bo_f.mpr z))
                  refine v_iconst C 448 dXM_join_447 rfl (nI 1) (by decide) ?_
                  refine v_goto C 452 dXM_join_448 rfl ?_
                  exact wr true ⟨fun _ => ⟨by rw [← oF hcv2]; exact hq, hcv2⟩, fun _ => rfl⟩ _ _
      refine v_iload C 336 dXM_join_334 rfl rfl ?_
      first | refine v_aload_n C 337 dXM_join_336 rfl rfl ?_ | refine v_aload_nN C 337 dXM_join_336 rfl rfl ?_ | refine v_aload_nQ C 337 dXM_join_336 rfl rfl ?_
      refine gt_XM_85 C 340 dXM_join_337 rfl h'.1 rfl ?_
      refine v_icmp_ge C 343 486 dXM_join_340 rfl rfl (fun h9 => False.elim (by first | exact h9 (nI_ge (show E < el.length by omega) (by omega)) | exact absurd h9 (nI_ge (show E < el.length by omega) (by omega)))) (fun h9 => ?_)
      refine v_iconst C 344 dXM_join_343 rfl (nI 0) (by decide) ?_
      refine v_istore C 346 _ dXM_join_344 rfl (Nat.lt_of_lt_of_le (Nat.lt_succ_self _) (Nat.le_of_ble_eq_true rfl)) rfl ?_
      refine inner el.length 0 M' f3 (o2 E) (by omega) hk h' ?_ ?_ _ _
      · have : va_up (mixo o2 (j3 el o2 (marks + 1)) E) E (o2 E) = mixo o2 (j3 el o2 (marks + 1)) E := by
          have := va_up_id (mixo o2 (j3 el o2 (marks + 1)) E) E
          rw [mixo_E] at this
          exact this
        rw [this]
        exact ha
      · by_cases hoE : o2 E = marks + 1
        · exact Or.inl ⟨hoE, hoE, fun j e' hj => absurd hj (Nat.not_lt_zero j)⟩
        · exact Or.inr ⟨(j3_no hoE).symm, hoE⟩
  have ph2 : ∀ (o1 : Nat → Nat), (∀ i, i < el.length → o1 i ≤ marks + 1) → (∀ f3', ao f3' el.length (if decide (i0 = 0) = true then j4 el now gr (j3 el (j2 el o1 (marks + 1)) (marks + 1)) (marks + 1) else j3 el (j2 el o1 (marks + 1)) (marks + 1)) → ao f3' el.length (jall el now gr (decide (i0 = 0)) ow mk i0 rs.length (marks + 1))) → ∀ (n E : Nat) (M' : mp_M) (f3 f4 f5 : Nat → Int32), E + n = el.length → f4 = upd (f 4) i0 (nI (marks + 1)) → f5 = upd (f 5) i0 (nI tier) → mp_k (ra_P b A) M M' → ra_M g M' b A cap gr now mem logs safe el.length (i0 + 1) (marks + 1) (va_up (va_up (va_up f 4 f4) 5 f5) 3 f3) → ao f3 el.length (mixo o1 (j2 el o1 (marks + 1)) E) → ∀ L5 L6 L7, VV g x M' 0 0 145 [some (.ref b), some (.int (nI many)), some (.int (nI tier)), some (.int (bI (decide (i0 = 0)))), some (.int (nI E)), L5, L6, L7] [] := by
    intro o1 ho1 fin n
    have ho2 : ∀ i, i < el.length → j2 el o1 (marks + 1) i ≤ marks + 1 := by
      intro i hi
      have := ho1 i hi
      rcases j2_or (el := el) (o := o1) (mx := marks + 1) (i := i) with z | z <;> rw [z] <;> omega
    induction n with
    | zero =>
      intro E M' f3 f4 f5 hE e4 e5 hk h' ha L5 L6 L7
      refine v_iload C 147 dXM_join_145 rfl rfl ?_
      first | refine v_aload_n C 148 dXM_join_147 rfl rfl ?_ | refine v_aload_nN C 148 dXM_join_147 rfl rfl ?_ | refine v_aload_nQ C 148 dXM_join_147 rfl rfl ?_
      refine gt_XM_85 C 151 dXM_join_148 rfl h'.1 rfl ?_
      refine v_icmp_ge C 154 331 dXM_join_151 rfl rfl (fun h9 => ?_) (fun h9 => False.elim (by first | exact h9 (nI_le (show el.length ≤ E by omega) (by omega)) | exact absurd h9 (nI_le (show el.length ≤ E by omega) (by omega))))
      refine v_iconst C 332 dXM_join_331 rfl (nI 0) (by decide) ?_
      refine v_istore C 334 _ dXM_join_332 rfl (Nat.lt_of_lt_of_le (Nat.lt_succ_self _) (Nat.le_of_ble_eq_true rfl)) rfl ?_
      refine ph3 (j2 el o1 (marks + 1)) ho2 fin el.length 0 M' f3 f4 f5 (by omega) e4 e5 hk h' ?_ _ _ _
      rw [mixo_0]
      intro i hi
      rw [ha i hi]
      unfold mixo
      rw [if_pos (by omega)]
    | succ n ih =>
      intro E M' f3 f4 f5 hE e4 e5 hk h' ha L5 L6 L7
      obtain ⟨e, he⟩ := hget E (by omega)
      obtain ⟨hwe, ok⟩ := R1 E e he
      have out : ∀ (M' : mp_M) (f3 : Nat → Int32), mp_k (ra_P b A) M M' → ra_M g M' b A cap gr now mem logs safe el.length (i0 + 1) (marks + 1) (va_up (va_up (va_up f 4 f4) 5 f5) 3 f3) → ao f3 el.length (va_up (mixo o1 (j2 el o1 (marks + 1)) E) E (j2 el o1 (marks + 1) E)) → ∀ L5 L6 L7, VV g x M' 0 0 325 [some (.ref b), some (.int (nI many)), some (.int (nI tier)), some (.int (bI (decide (i0 = 0)))), some (.int (nI E)), L5, L6, L7] [] := by
        intro M' f3 hk h' ha L5 L6 L7
        refine v_iinc C 328 _ (nI (E + 1)) dXM_join_325 rfl rfl (nI_1 E) rfl ?_
        refine v_goto C 145 dXM_join_328 rfl ?_
        exact ih (E + 1) M' f3 f4 f5 (by omega) e4 e5 hk h' (by rw [← mixo_up]; exact ha) _ _ _
      have inner : ∀ (n' Fi : Nat) (M' : mp_M) (f3 : Nat → Int32) (cur : Nat), Fi + n' = el.length → mp_k (ra_P b A) M M' → ra_M g M' b A cap gr now mem logs safe el.length (i0 + 1) (marks + 1) (va_up (va_up (va_up f 4 f4) 5 f5) 3 f3) → ao f3 el.length (va_up (mixo o1 (j2 el o1 (marks + 1)) E) E cur) → ((cur = marks + 1 ∧ o1 E = marks + 1 ∧ ∀ j, j < Fi → j ≠ E → mixo o1 (j2 el o1 (marks + 1)) E j = marks + 1 → ¬ lo el E j) ∨ (cur = j2 el o1 (marks + 1) E ∧ cur ≠ marks + 1)) → ∀ L6 L7, VV g x M' 0 0 157 [some (.ref b), some (.int (nI many)), some (.int (nI tier)), some (.int (bI (decide (i0 = 0)))), some (.int (nI E)), some (.int (nI Fi)), L6, L7] [] := by
        intro n'
        induction n' with
        | zero =>
          intro Fi M' f3 cur hF hk h' ha hcur L6 L7
          refine v_iload C 159 dXM_join_157 rfl rfl ?_
          first | refine v_aload_n C 160 dXM_join_159 rfl rfl ?_ | refine v_aload_nN C 160 dXM_join_159 rfl rfl ?_ | refine v_aload_nQ C 160 dXM_join_159 rfl rfl ?_
          refine gt_XM_85 C 163 dXM_join_160 rfl h'.1 rfl ?_
          refine v_icmp_ge C 166 325 dXM_join_163 rfl rfl (fun h9 => ?_) (fun h9 => False.elim (by first | exact h9 (nI_le (show el.length ≤ Fi by omega) (by omega)) | exact absurd h9 (nI_le (show el.length ≤ Fi by omega) (by omega))))
          have hce : cur = j2 el o1 (marks + 1) E := by
            rcases hcur with ⟨c1, c2, c3⟩ | ⟨c1, -⟩
            · rw [c1]
              symm
              refine (j2_mx hmx0).mpr ⟨c2, fun j a1 a2 => ?_⟩
              obtain ⟨t, d1, d2, d3⟩ := lo_top2 c2 he ⟨j, a1, a2⟩
              obtain ⟨_, et, _, d4, _⟩ := id d2
              have htE : t ≠ E := fun z => by rw [z] at d2; exact lo_ii d2
              have hlt := (List.getElem?_eq_some_iff.mp d4).1
              refine c3 t (by omega) htE ?_ d2
              unfold mixo
              split
              · exact (j2_mx hmx0).mpr ⟨d1, d3⟩
              · exact d1
            · exact c1
          exact out M' f3 hk h' (by rw [← hce]; exact ha) _ _ _
        | succ n' ih2 =>
          intro Fi M' f3 cur hF hk h' ha hcur L6 L7
          have hA2 := h'.2.1 2 (by decide)
          have hA3 := h'.2.1 3 (by decide)
          rw [va_up_self] at hA3
          rw [va_up_ne _ _ (by decide), va_up_ne _ _ (by decide), va_up_ne _ _ (by decide)] at hA2
          have hfE : f3 E = nI cur := by rw [ha E (by omega), va_up_self]
          have hcl : cur ≤ marks + 1 := by
            rcases hcur with ⟨c1, -, -⟩ | ⟨c1, -⟩
            · omega
            · rw [c1]
              exact ho2 E (by omega)
          refine v_iload C 159 dXM_join_157 rfl rfl ?_
          first | refine v_aload_n C 160 dXM_join_159 rfl rfl ?_ | refine v_aload_nN C 160 dXM_join_159 rfl rfl ?_ | refine v_aload_nQ C 160 dXM_join_159 rfl rfl ?_
          refine gt_XM_85 C 163 dXM_join_160 rfl h'.1 rfl ?_
          refine v_icmp_ge C 166 325 dXM_join_163 rfl rfl (fun h9 => False.elim (by first | exact h9 (nI_ge (show Fi < el.length by omega) (by omega)) | exact absurd h9 (nI_ge (show Fi < el.length by omega) (by omega)))) (fun h9 => ?_)
          first | refine v_aload_n C 167 dXM_join_166 rfl rfl ?_ | refine v_aload_nN C 167 dXM_join_166 rfl rfl ?_ | refine v_aload_nQ C 167 dXM_join_166 rfl rfl ?_
          refine gt_XM_19 C 170 dXM_join_167 rfl h'.1 rfl ?_
          refine v_iload C 172 dXM_join_170 rfl rfl ?_
          refine v_iald C 173 dXM_join_172 rfl hA3 E rfl (show E < 520 by omega) (ra_sz_lt 3) ?_
          rw [hfE]
          first | refine v_aload_n C 174 dXM_join_173 rfl rfl ?_ | refine v_aload_nN C 174 dXM_join_173 rfl rfl ?_ | refine v_aload_nQ C 174 dXM_join_173 rfl rfl ?_
          refine gt_XM_82 C 177 dXM_join_174 rfl h'.1 rfl ?_
          refine v_icmp_ne C 180 325 dXM_join_177 rfl rfl (fun hc => ?_) (fun hc => ?_)
          · have hce : cur = j2 el o1 (marks + 1) E := by
              rcases hcur with ⟨c1, -, -⟩ | ⟨c1, -⟩
              · exact absurd (by rw [c1]) hc
              · exact c1
            exact out M' f3 hk h' (by rw [← hce]; exact ha) _ _ _
          · rw [nI_eq (by omega) (by omega)] at hc
            obtain ⟨c2, c3⟩ : o1 E = marks + 1 ∧ ∀ j, j < Fi → j ≠ E → mixo o1 (j2 el o1 (marks + 1)) E j = marks + 1 → ¬ lo el E j := by
              rcases hcur with ⟨-, c2, c3⟩ | ⟨-, c2⟩
              · exact ⟨c2, c3⟩
              · exact absurd hc c2
            obtain ⟨e', he'⟩ := hget Fi (by omega)
            obtain ⟨hwe', ok'⟩ := R1 Fi e' he'
            have wr : ∀ bl : Bool, (bl = true ↔ (Fi ≠ E ∧ mixo o1 (j2 el o1 (marks + 1)) E Fi = marks + 1 ∧ lo el E Fi)) → ∀ L6 L7, VV g x M' 0 0 297 [some (.ref b), some (.int (nI many)), some (.int (nI tier)), some (.int (bI (decide (i0 = 0)))), some (.int (nI E)), some (.int (nI Fi)), L6, L7] [.int (bI bl)] := by
              intro bl hbl L6 L7
              have st : ∀ v : Nat, (v = if bl = true then 0 else marks + 1) → ∀ L6 L7, VV g x M' 0 0 318 [some (.ref b), some (.int (nI many)), some (.int (nI tier)), some (.int (bI (decide (i0 = 0)))), some (.int (nI E)), some (.int (nI Fi)), L6, L7] [.int (nI v), .int (nI E), .ref (A 3)] := by
                intro v hv L6 L7
                refine v_iast C 319 dXM_join_318 rfl hA3 E rfl (show E < 520 by omega) (ra_sz_lt 3) ?_
                have h2 := ra_up h' 3 (by decide) (upd f3 E (nI v))
                rw [bx_uu] at h2
                refine v_iinc C 322 _ (nI (Fi + 1)) dXM_join_319 rfl rfl (nI_1 Fi) rfl ?_
                refine v_goto C 157 dXM_join_322 rfl ?_
                refine ih2 (Fi + 1) _ (upd f3 E (nI v)) v (by omega) (hk.tr (ra_ku (by decide))) h2 (ao_up ha (by rw [va_up_self]) (fun i hi hne => by rw [va_up_ne _ _ hne, va_up_ne _ _ hne])) ?_ _ _
                cases hz : bl with
                | true =>
                  rw [hz, if_pos rfl] at hv
                  obtain ⟨d0, d1, d2⟩ := hbl.mp hz
                  right
                  refine ⟨?_, by omega⟩
                  rw [hv]
                  symm
                  refine if_pos (bo_t.mpr ⟨c2, Fi, ?_, d2⟩)
                  rcases mixo_or (o := o1) (o' := j2 el o1 (marks + 1)) (E := E) (i := Fi) with z | z
                  · rw [z] at d1
                    exact ((j2_mx hmx0).mp d1).1
                  · rw [z] at d1
                    exact d1
                | false =>
                  rw [hz] at hv
                  have hv2 : v = marks + 1 := hv
                  refine Or.inl ⟨hv2, c2, fun j hj a0 a1 a2 => ?_⟩
                  by_cases hjF : j = Fi
                  · subst hjF
                    have := hbl.mpr ⟨a0, a1, a2⟩
                    rw [hz] at this
                    cases this
                  · exact c3 j (by omega) a0 a1 a2
              refine v_istore C 299 _ dXM_join_297 rfl (Nat.lt_of_lt_of_le (Nat.lt_succ_self _) (Nat.le_of_ble_eq_true rfl)) rfl ?_
              first | refine v_aload_n C 300 dXM_join_299 rfl rfl ?_ | refine v_aload_nN C 300 dXM_join_299 rfl rfl ?_ | refine v_aload_nQ C 300 dXM_join_299 rfl rfl ?_
              refine gt_XM_19 C 303 dXM_join_300 rfl h'.1 rfl ?_
              refine v_iload C 305 dXM_join_303 rfl rfl ?_
              refine v_iload C 307 dXM_join_305 rfl rfl ?_
              refine v_if_eq C 310 314 dXM_join_307 rfl rfl (fun hb => ?_) (fun hb => ?_)
              · first | refine v_aload_n C 315 dXM_join_314 rfl rfl ?_ | refine v_aload_nN C 315 dXM_join_314 rfl rfl ?_ | refine v_aload_nQ C 315 dXM_join_314 rfl rfl ?_
                refine gt_XM_82 C 318 dXM_join_315 rfl h'.1 rfl ?_
                rw [bI_0] at hb
                refine st (marks + 1) ?_ _ _
                rw [hb]
                rfl
              · refine v_iconst C 311 dXM_join_310 rfl (nI 0) (by decide) ?_
                refine v_goto C 318 dXM_join_311 rfl ?_
                refine st 0 ?_ _ _
                cases hz : bl with
                | true => rfl
                | false => exact absurd (bI_0.mpr hz) hb
            have no9 : ¬ (Fi ≠ E ∧ mixo o1 (j2 el o1 (marks + 1)) E Fi = marks + 1 ∧ lo el E Fi) → ∀ L6 L7, VV g x M' 0 0 296 [some (.ref b), some (.int (nI many)), some (.int (nI tier)), some (.int (bI (decide (i0 = 0)))), some (.int (nI E)), some (.int (nI Fi)), L6, L7] [] := by
              intro hno L6 L7
              refine v_iconst C 297 dXM_join_296 rfl (nI 0) (by decide) ?_
              exact wr false ⟨fun z => (by cases z), fun z => absurd z hno⟩ _ _
            have no2 : ¬ (Fi ≠ E ∧ mixo o1 (j2 el o1 (marks + 1)) E Fi = marks + 1 ∧ lo el E Fi) → ∀ L6 L7, VV g x M' 0 0 229 [some (.ref b), some (.int (nI many)), some (.int (nI tier)), some (.int (bI (decide (i0 = 0)))), some (.int (nI E)), some (.int (nI Fi)), L6, L7] [] := by
              intro hno L6 L7
              refine v_iconst C 230 dXM_join_229 rfl (nI 0) (by decide) ?_
              refine v_istore C 232 _ dXM_join_230 rfl (Nat.lt_of_lt_of_le (Nat.lt_succ_self _) (Nat.le_of_ble_eq_true rfl)) rfl ?_
              refine v_iload C 234 dXM_join_232 rfl rfl ?_
              refine v_if_eq C 237 296 dXM_join_234 rfl rfl (fun h9 => ?_) (fun h9 => False.elim (by first | exact h9 (rfl) | exact absurd h9 (rfl)))
              exact no9 hno _ _
            have ye9 : (Fi ≠ E ∧ mixo o1 (j2 el o1 (marks + 1)) E Fi = marks + 1 ∧ lo el E Fi) → ∀ L6 L7, VV g x M' 0 0 292 [some (.ref b), some (.int (nI many)), some (.int (nI tier)), some (.int (bI (decide (i0 = 0)))), some (.int (nI E)), some (.int (nI Fi)), L6, L7] [] := by
              intro hye L6 L7
              refine v_iconst C 293 dXM_join_292 rfl (nI 1) (by decide) ?_
              refine v_goto C 297 dXM_join_293 rfl ?_
              exact wr true ⟨fun _ => hye, fun _ => rfl⟩ _ _
            refine v_iload C 182 dXM_join_180 rfl rfl ?_
            refine v_iload C 184 dXM_join_182 rfl rfl ?_
            refine v_icmp_eq C 187 229 dXM_join_184 rfl rfl (fun hFE => ?_) (fun hFE => ?_)
            · rw [nI_eq (by omega) (by omega)] at hFE
              exact no2 (fun z => z.1 hFE) _ _
            · have hne : Fi ≠ E := fun z => hFE (by rw [z])
              have hFm : va_up (mixo o1 (j2 el o1 (marks + 1)) E) E cur Fi = mixo o1 (j2 el o1 (marks + 1)) E Fi := va_up_ne _ _ hne
              have hFl : mixo o1 (j2 el o1 (marks + 1)) E Fi ≤ marks + 1 := by
                have a1 := ho1 Fi (by omega)
                have a2 := ho2 Fi (by omega)
                rcases mixo_or (o := o1) (o' := j2 el o1 (marks + 1)) (E := E) (i := Fi) with z | z <;> rw [z] <;> omega
              first | refine v_aload_n C 188 dXM_join_187 rfl rfl ?_ | refine v_aload_nN C 188 dXM_join_187 rfl rfl ?_ | refine v_aload_nQ C 188 dXM_join_187 rfl rfl ?_
              refine gt_XM_19 C 191 dXM_join_188 rfl h'.1 rfl ?_
              refine v_iload C 193 dXM_join_191 rfl rfl ?_
              refine v_iald C 194 dXM_join_193 rfl hA3 Fi rfl (show Fi < 520 by omega) (ra_sz_lt 3) ?_
              rw [ha Fi (by omega), hFm]
              first | refine v_aload_n C 195 dXM_join_194 rfl rfl ?_ | refine v_aload_nN C 195 dXM_join_194 rfl rfl ?_ | refine v_aload_nQ C 195 dXM_join_194 rfl rfl ?_
              refine gt_XM_82 C 198 dXM_join_195 rfl h'.1 rfl ?_
              refine v_icmp_ne C 201 229 dXM_join_198 rfl rfl (fun hq => ?_) (fun hq => ?_)
              · exact no2 (fun z => hq (by rw [z.2.1])) _ _
              · rw [nI_eq (by omega) (by omega)] at hq
                first | refine v_aload_n C 202 dXM_join_201 rfl rfl ?_ | refine v_aload_nN C 202 dXM_join_201 rfl rfl ?_ | refine v_aload_nQ C 202 dXM_join_201 rfl rfl ?_
                refine gt_XM_16 C 205 dXM_join_202 rfl h'.1 rfl ?_
                refine v_bipush C 207 dXM_join_205 rfl (nI 7) (by decide) ?_
                refine v_iload C 209 dXM_join_207 rfl rfl ?_
                refine v_imul C 210 dXM_join_209 rfl ?_
                refine v_top _ (.int (nI (7 * E))) (congrArg Value.int (pk_mul 7 E)) ?_
                first | refine v_aload_n C 211 dXM_join_210 rfl rfl ?_ | refine v_aload_nN C 211 dXM_join_210 rfl rfl ?_ | refine v_aload_nQ C 211 dXM_join_210 rfl rfl ?_
                refine gt_XM_16 C 214 dXM_join_211 rfl h'.1 rfl ?_
                refine v_bipush C 216 dXM_join_214 rfl (nI 7) (by decide) ?_
                refine v_iload C 218 dXM_join_216 rfl rfl ?_
                refine v_imul C 219 dXM_join_218 rfl ?_
                refine v_top _ (.int (nI (7 * Fi))) (congrArg Value.int (pk_mul 7 Fi)) ?_
                refine v_ri 222 (cl_XM_45 C ((c_M_alike g hA2 hA2 (ra_sz_lt 2) (ra_sz_lt 2) (show 7 * E + 6 < 3640 by omega) (show 7 * Fi + 6 < 3640 by omega) hwe hwe' ok ok')) dXM_join_219 rfl rfl (Nat.le_of_ble_eq_true rfl) (Nat.le_of_ble_eq_true rfl) (Nat.le_of_ble_eq_true rfl) (by omega) (by omega)) rfl (fun v M1 hv => ?_)
                obtain ⟨rfl, rfl⟩ := hv
                refine v_if_eq C 225 229 dXM_join_222 rfl rfl (fun hal => ?_) (fun hal => ?_)
                · rw [bI_0] at hal
                  have hal2 := of_decide_eq_false hal
                  refine no2 (fun z => ?_) _ _
                  obtain ⟨_, _, a1, a2, a3, _⟩ := z.2.2
                  cases he.symm.trans a1
                  cases he'.symm.trans a2
                  exact hal2 a3
                · have hs : en_s e = en_s e' := by
                    apply Classical.byContradiction
                    intro z
                    exact hal (bI_0.mpr (decide_eq_false z))
                  have lo_iff : lo el E Fi ↔ (en_w e' e = true ∨ (E < Fi ∧ en_w e e' = false)) := by
                    constructor
                    · rintro ⟨_, _, a1, a2, -, a4⟩
                      cases he.symm.trans a1
                      cases he'.symm.trans a2
                      exact a4
                    · exact fun a4 => ⟨e, e', he, he', hs, a4⟩
                  refine v_iconst C 226 dXM_join_225 rfl (nI 1) (by decide) ?_
                  refine v_goto C 230 dXM_join_226 rfl ?_
                  refine v_istore C 232 _ dXM_join_230 rfl (Nat.lt_of_lt_of_le (Nat.lt_succ_self _) (Nat.le_of_ble_eq_true rfl)) rfl ?_
                  refine v_iload C 234 dXM_join_232 rfl rfl ?_
                  refine v_if_eq C 237 296 dXM_join_234 rfl rfl (fun h9 => False.elim (by first | exact h9 ((by decide)) | exact absurd h9 ((by decide)))) (fun h9 => ?_)
                  first | refine v_aload_n C 238 dXM_join_237 rfl rfl ?_ | refine v_aload_nN C 238 dXM_join_237 rfl rfl ?_ | refine v_aload_nQ C 238 dXM_join_237 rfl rfl ?_
                  refine gt_XM_16 C 241 dXM_join_238 rfl h'.1 rfl ?_
                  refine v_bipush C 243 dXM_join_241 rfl (nI 7) (by decide) ?_
                  refine v_iload C 245 dXM_join_243 rfl rfl ?_
                  refine v_imul C 246 dXM_join_245 rfl ?_
                  refine v_top _ (.int (nI (7 * Fi))) (congrArg Value.int (pk_mul 7 Fi)) ?_
                  first | refine v_aload_n C 247 dXM_join_246 rfl rfl ?_ | refine v_aload_nN C 247 dXM_join_246 rfl rfl ?_ | refine v_aload_nQ C 247 dXM_join_246 rfl rfl ?_
                  refine gt_XM_16 C 250 dXM_join_247 rfl h'.1 rfl ?_
                  refine v_bipush C 252 dXM_join_250 rfl (nI 7) (by decide) ?_
                  refine v_iload C 254 dXM_join_252 rfl rfl ?_
                  refine v_imul C 255 dXM_join_254 rfl ?_
                  refine v_top _ (.int (nI (7 * E))) (congrArg Value.int (pk_mul 7 E)) ?_
                  refine v_ri 258 (cl_XM_49 C ((c_M_wins g hA2 hA2 (ra_sz_lt 2) (ra_sz_lt 2) (show 7 * Fi + 6 < 3640 by omega) (show 7 * E + 6 < 3640 by omega) hwe' hwe ok' ok hs.symm)) dXM_join_255 rfl rfl (Nat.le_of_ble_eq_true rfl) (Nat.le_of_ble_eq_true rfl) (Nat.le_of_ble_eq_true rfl) (by omega) (by omega)) rfl (fun v M1 hv => ?_)
                  obtain ⟨rfl, rfl⟩ := hv
                  refine v_if_ne C 261 292 dXM_join_258 rfl rfl (fun hw1 => ?_) (fun hw1 => ?_)
                  · have hw2 : en_w e' e = true := by
                      cases hz : en_w e' e with
                      | true => rfl
                      | false => exact absurd (bI_0.mpr hz) hw1
                    exact ye9 ⟨hne, hq, lo_iff.mpr (Or.inl hw2)⟩ _ _
                  · rw [bI_0] at hw1
                    refine v_iload C 263 dXM_join_261 rfl rfl ?_
                    refine v_iload C 265 dXM_join_263 rfl rfl ?_
                    refine v_icmp_le C 268 296 dXM_join_265 rfl rfl (fun hlt => ?_) (fun hlt => ?_)
                    · rw [nI_leI (by omega) (by omega)] at hlt
                      refine no9 (fun z => ?_) _ _
                      rcases lo_iff.mp z.2.2 with y | y
                      · rw [hw1] at y
                        cases y
                      · omega
                    · rw [nI_leI (by omega) (by omega)] at hlt
                      first | refine v_aload_n C 269 dXM_join_268 rfl rfl ?_ | refine v_aload_nN C 269 dXM_join_268 rfl rfl ?_ | refine v_aload_nQ C 269 dXM_join_268 rfl rfl ?_
                      refine gt_XM_16 C 272 dXM_join_269 rfl h'.1 rfl ?_
                      refine v_bipush C 274 dXM_join_272 rfl (nI 7) (by decide) ?_
                      refine v_iload C 276 dXM_join_274 rfl rfl ?_
                      refine v_imul C 277 dXM_join_276 rfl ?_
                      refine v_top _ (.int (nI (7 * E))) (congrArg Value.int (pk_mul 7 E)) ?_
                      first | refine v_aload_n C 278 dXM_join_277 rfl rfl ?_ | refine v_aload_nN C 278 dXM_join_277 rfl rfl ?_ | refine v_aload_nQ C 278 dXM_join_277 rfl rfl ?_
                      refine gt_XM_16 C 281 dXM_join_278 rfl h'.1 rfl ?_
                      refine v_bipush C 283 dXM_join_281 rfl (nI 7) (by decide) ?_
                      refine v_iload C 285 dXM_join_283 rfl rfl ?_
                      refine v_imul C 286 dXM_join_285 rfl ?_
                      refine v_top _ (.int (nI (7 * Fi))) (congrArg Value.int (pk_mul 7 Fi)) ?_
                      refine v_ri 289 (cl_XM_49 C ((c_M_wins g hA2 hA2 (ra_sz_lt 2) (ra_sz_lt 2) (show 7 * E + 6 < 3640 by omega) (show 7 * Fi + 6 < 3640 by omega) hwe hwe' ok ok' hs)) dXM_join_286 rfl rfl (Nat.le_of_ble_eq_true rfl) (Nat.le_of_ble_eq_true rfl) (Nat.le_of_ble_eq_true rfl) (by omega) (by omega)) rfl (fun v M1 hv => ?_)
                      obtain ⟨rfl, rfl⟩ := hv
                      refine v_if_ne C 292 296 dXM_join_289 rfl rfl (fun hw3 => ?_) (fun hw3 => ?_)
                      · refine no9 (fun z => ?_) _ _
                        rcases lo_iff.mp z.2.2 with y | ⟨-, y⟩
                        · rw [hw1] at y
                          cases y
                        · exact hw3 (bI_0.mpr y)
                      · rw [bI_0] at hw3
                        exact ye9 ⟨hne, hq, lo_iff.mpr (Or.inr ⟨by omega, hw3⟩)⟩ _ _
      refine v_iload C 147 dXM_join_145 rfl rfl ?_
      first | refine v_aload_n C 148 dXM_join_147 rfl rfl ?_ | refine v_aload_nN C 148 dXM_join_147 rfl rfl ?_ | refine v_aload_nQ C 148 dXM_join_147 rfl rfl ?_
      refine gt_XM_85 C 151 dXM_join_148 rfl h'.1 rfl ?_
      refine v_icmp_ge C 154 331 dXM_join_151 rfl rfl (fun h9 => False.elim (by first | exact h9 (nI_ge (show E < el.length by omega) (by omega)) | exact absurd h9 (nI_ge (show E < el.length by omega) (by omega)))) (fun h9 => ?_)
      refine v_iconst C 155 dXM_join_154 rfl (nI 0) (by decide) ?_
      refine v_istore C 157 _ dXM_join_155 rfl (Nat.lt_of_lt_of_le (Nat.lt_succ_self _) (Nat.le_of_ble_eq_true rfl)) rfl ?_
      refine inner el.length 0 M' f3 (o1 E) (by omega) hk h' ?_ ?_ _ _
      · have : va_up (mixo o1 (j2 el o1 (marks + 1)) E) E (o1 E) = mixo o1 (j2 el o1 (marks + 1)) E := by
          have := va_up_id (mixo o1 (j2 el o1 (marks + 1)) E) E
          rw [mixo_E] at this
          exact this
        rw [this]
        exact ha
      · by_cases hoE : o1 E = marks + 1
        · exact Or.inl ⟨hoE, hoE, fun j hj => absurd hj (Nat.not_lt_zero j)⟩
        · exact Or.inr ⟨(j2_no hoE).symm, hoE⟩
  have mid : ∀ (M' : mp_M) (f3 : Nat → Int32), mp_k (ra_P b A) M M' → ra_M g M' b A cap gr now mem logs safe el.length rs.length (marks + 1) (va_up f 3 f3) → ao f3 el.length (j1 ow mk i0 rs.length (marks + 1)) → ∀ L4 L5 L6 L7, VV g x M' 0 0 103 [some (.ref b), some (.int (nI many)), some (.int (nI tier)), some (.int (bI (decide (i0 = 0)))), L4, L5, L6, L7] [] := by
    intro M' f3 hk h' ha L4 L5 L6 L7
    first | refine v_aload_n C 104 dXM_join_103 rfl rfl ?_ | refine v_aload_nN C 104 dXM_join_103 rfl rfl ?_ | refine v_aload_nQ C 104 dXM_join_103 rfl rfl ?_
    first | refine v_aload_n C 105 dXM_join_104 rfl rfl ?_ | refine v_aload_nN C 105 dXM_join_104 rfl rfl ?_ | refine v_aload_nQ C 105 dXM_join_104 rfl rfl ?_
    refine gt_XM_88 C 108 dXM_join_105 rfl h'.1 rfl ?_
    refine v_iload_n C 109 dXM_join_108 rfl rfl ?_
    refine v_isub C 110 dXM_join_109 rfl ?_
    refine v_top _ (.int (nI i0)) (congrArg Value.int ((pk_sub (by omega)).trans (by rw [show rs.length - many = i0 by omega]))) ?_
    refine v_iconst C 111 dXM_join_110 rfl (nI 1) (by decide) ?_
    refine v_iadd C 112 dXM_join_111 rfl ?_
    refine v_top _ (.int (nI (i0 + 1))) (congrArg Value.int (nI_add i0 1)) ?_
    refine pt_XM_88 C 115 dXM_join_112 rfl rfl rfl h'.1 (Nat.lt_of_lt_of_le (Nat.lt_succ_self _) (Nat.le_of_ble_eq_true rfl)) (ob_M A cap gr now mem logs safe el.length (i0 + 1) (marks + 1)) rfl ?_
    have h2 := ra_put h' (now' := now) (mem' := mem) (logs' := logs) (safe' := safe) (fl' := el.length) (runs' := i0 + 1) (marks' := marks + 1)
    have hB4 := h2.2.1 4 (by decide)
    rw [va_up_ne _ _ (by decide)] at hB4
    first | refine v_aload_n C 116 dXM_join_115 rfl rfl ?_ | refine v_aload_nN C 116 dXM_join_115 rfl rfl ?_ | refine v_aload_nQ C 116 dXM_join_115 rfl rfl ?_
    refine gt_XM_22 C 119 dXM_join_116 rfl h2.1 rfl ?_
    first | refine v_aload_n C 120 dXM_join_119 rfl rfl ?_ | refine v_aload_nN C 120 dXM_join_119 rfl rfl ?_ | refine v_aload_nQ C 120 dXM_join_119 rfl rfl ?_
    refine gt_XM_88 C 123 dXM_join_120 rfl h2.1 rfl ?_
    refine v_iconst C 124 dXM_join_123 rfl (nI 1) (by decide) ?_
    refine v_isub C 125 dXM_join_124 rfl ?_
    refine v_top _ (.int (nI i0)) (congrArg Value.int ((pk_sub (by omega)).trans (by rw [Nat.add_sub_cancel]))) ?_
    first | refine v_aload_n C 126 dXM_join_125 rfl rfl ?_ | refine v_aload_nN C 126 dXM_join_125 rfl rfl ?_ | refine v_aload_nQ C 126 dXM_join_125 rfl rfl ?_
    refine gt_XM_82 C 129 dXM_join_126 rfl h2.1 rfl ?_
    refine v_iast C 130 dXM_join_129 rfl hB4 i0 rfl (show i0 < 520 by omega) (ra_sz_lt 4) ?_
    have h3 := ra_up h2 4 (by decide) (upd (f 4) i0 (nI (marks + 1)))
    have hB5 := h3.2.1 5 (by decide)
    rw [va_up_ne _ _ (by decide), va_up_ne _ _ (by decide)] at hB5
    first | refine v_aload_n C 131 dXM_join_130 rfl rfl ?_ | refine v_aload_nN C 131 dXM_join_130 rfl rfl ?_ | refine v_aload_nQ C 131 dXM_join_130 rfl rfl ?_
    refine gt_XM_25 C 134 dXM_join_131 rfl h3.1 rfl ?_
    first | refine v_aload_n C 135 dXM_join_134 rfl rfl ?_ | refine v_aload_nN C 135 dXM_join_134 rfl rfl ?_ | refine v_aload_nQ C 135 dXM_join_134 rfl rfl ?_
    refine gt_XM_88 C 138 dXM_join_135 rfl h3.1 rfl ?_
    refine v_iconst C 139 dXM_join_138 rfl (nI 1) (by decide) ?_
    refine v_isub C 140 dXM_join_139 rfl ?_
    refine v_top _ (.int (nI i0)) (congrArg Value.int ((pk_sub (by omega)).trans (by rw [Nat.add_sub_cancel]))) ?_
    refine v_iload_n C 141 dXM_join_140 rfl rfl ?_
    refine v_iast C 142 dXM_join_141 rfl hB5 i0 rfl (show i0 < 520 by omega) (ra_sz_lt 5) ?_
    have h4 := ra_up h3 5 (by decide) (upd (f 5) i0 (nI tier))
    rw [va_cm f _ _ (show 3 ≠ 4 by decide), va_cm _ _ _ (show 3 ≠ 5 by decide)] at h4
    refine v_iconst C 143 dXM_join_142 rfl (nI 0) (by decide) ?_
    refine v_istore C 145 _ dXM_join_143 rfl (Nat.lt_of_lt_of_le (Nat.lt_succ_self _) (Nat.le_of_ble_eq_true rfl)) rfl ?_
    refine ph2 (j1 ow mk i0 rs.length (marks + 1)) (le1 _) (fun f3' z => ?_) el.length 0 _ f3 _ _ (by omega) rfl rfl (hk.tr (ra_kb.tr ((ra_ku (by decide)).tr (ra_ku (by decide))))) h4 (by rw [mixo_0]; exact ha) _ _ _
    unfold jall
    exact z
  have ph1 : ∀ (n K : Nat) (M' : mp_M) (f3 : Nat → Int32), K + n = rs.length → i0 ≤ K → mp_k (ra_P b A) M M' → ra_M g M' b A cap gr now mem logs safe el.length rs.length (marks + 1) (va_up f 3 f3) → ao f3 el.length (j1 ow mk i0 K (marks + 1)) → ∀ L5 L6 L7, VV g x M' 0 0 32 [some (.ref b), some (.int (nI many)), some (.int (nI tier)), some (.int (bI (decide (i0 = 0)))), some (.int (nI K)), L5, L6, L7] [] := by
    intro n
    induction n with
    | zero =>
      intro K M' f3 hK hi0 hk h' ha L5 L6 L7
      have hKl : K = rs.length := by omega
      subst hKl
      refine v_iload C 34 dXM_join_32 rfl rfl ?_
      first | refine v_aload_n C 35 dXM_join_34 rfl rfl ?_ | refine v_aload_nN C 35 dXM_join_34 rfl rfl ?_ | refine v_aload_nQ C 35 dXM_join_34 rfl rfl ?_
      refine gt_XM_88 C 38 dXM_join_35 rfl h'.1 rfl ?_
      refine v_icmp_ge C 41 103 dXM_join_38 rfl rfl (fun h9 => ?_) (fun h9 => False.elim (by first | exact h9 (nI_le (Nat.le_refl rs.length) (by omega)) | exact absurd h9 (nI_le (Nat.le_refl rs.length) (by omega))))
      exact mid M' f3 hk h' ha _ _ _ _
    | succ n ih =>
      intro K M' f3 hK hi0 hk h' ha L5 L6 L7
      obtain ⟨k1, k2, k3, k4⟩ := R3 K (by omega)
      have inner : ∀ (n' E : Nat) (M' : mp_M) (f3 : Nat → Int32), E + n' = el.length → mp_k (ra_P b A) M M' → ra_M g M' b A cap gr now mem logs safe el.length rs.length (marks + 1) (va_up f 3 f3) → ao f3 el.length (mixo (j1 ow mk i0 K (marks + 1)) (j1 ow mk i0 (K + 1) (marks + 1)) E) → ∀ L6 L7, VV g x M' 0 0 44 [some (.ref b), some (.int (nI many)), some (.int (nI tier)), some (.int (bI (decide (i0 = 0)))), some (.int (nI K)), some (.int (nI E)), L6, L7] [] := by
        intro n'
        induction n' with
        | zero =>
          intro E M' f3 hE hk h' ha L6 L7
          refine v_iload C 46 dXM_join_44 rfl rfl ?_
          first | refine v_aload_n C 47 dXM_join_46 rfl rfl ?_ | refine v_aload_nN C 47 dXM_join_46 rfl rfl ?_ | refine v_aload_nQ C 47 dXM_join_46 rfl rfl ?_
          refine gt_XM_85 C 50 dXM_join_47 rfl h'.1 rfl ?_
          refine v_icmp_ge C 53 97 dXM_join_50 rfl rfl (fun h9 => ?_) (fun h9 => False.elim (by first | exact h9 (nI_le (show el.length ≤ E by omega) (by omega)) | exact absurd h9 (nI_le (show el.length ≤ E by omega) (by omega))))
          refine v_iinc C 100 _ (nI (K + 1)) dXM_join_97 rfl rfl (nI_1 K) rfl ?_
          refine v_goto C 32 dXM_join_100 rfl ?_
          refine ih (K + 1) M' f3 (by omega) (by omega) hk h' (fun i hi => ?_) _ _ _
          rw [ha i hi]
          unfold mixo
          rw [if_pos (by omega)]
        | succ n' ih2 =>
          intro E M' f3 hE hk h' ha L6 L7
          have hA3 := h'.2.1 3 (by decide)
          have hA4 := h'.2.1 4 (by decide)
          rw [va_up_self] at hA3
          rw [va_up_ne _ _ (by decide)] at hA4
          have hfE : f3 E = nI (j1 ow mk i0 K (marks + 1) E) := by rw [ha E (by omega), mixo_E]
          have hle := le1 K E (by omega)
          have st : ∀ v : Nat, v = j1 ow mk i0 (K + 1) (marks + 1) E → ∀ L6 L7, VV g x M' 0 0 90 [some (.ref b), some (.int (nI many)), some (.int (nI tier)), some (.int (bI (decide (i0 = 0)))), some (.int (nI K)), some (.int (nI E)), L6, L7] [.int (nI v), .int (nI E), .ref (A 3)] := by
            intro v hv L6 L7
            refine v_iast C 91 dXM_join_90 rfl hA3 E rfl (show E < 520 by omega) (ra_sz_lt 3) ?_
            have h2 := ra_up h' 3 (by decide) (upd f3 E (nI v))
            rw [bx_uu] at h2
            refine v_iinc C 94 _ (nI (E + 1)) dXM_join_91 rfl rfl (nI_1 E) rfl ?_
            refine v_goto C 44 dXM_join_94 rfl ?_
            exact ih2 (E + 1) _ (upd f3 E (nI v)) (by omega) (hk.tr (ra_ku (by decide))) h2 (ao_up ha (by rw [mixo_s, hv]) (fun i hi hne => mixo_n hne)) _ _
          refine v_iload C 46 dXM_join_44 rfl rfl ?_
          first | refine v_aload_n C 47 dXM_join_46 rfl rfl ?_ | refine v_aload_nN C 47 dXM_join_46 rfl rfl ?_ | refine v_aload_nQ C 47 dXM_join_46 rfl rfl ?_
          refine gt_XM_85 C 50 dXM_join_47 rfl h'.1 rfl ?_
          refine v_icmp_ge C 53 97 dXM_join_50 rfl rfl (fun h9 => False.elim (by first | exact h9 (nI_ge (show E < el.length by omega) (by omega)) | exact absurd h9 (nI_ge (show E < el.length by omega) (by omega)))) (fun h9 => ?_)
          first | refine v_aload_n C 54 dXM_join_53 rfl rfl ?_ | refine v_aload_nN C 54 dXM_join_53 rfl rfl ?_ | refine v_aload_nQ C 54 dXM_join_53 rfl rfl ?_
          refine gt_XM_19 C 57 dXM_join_54 rfl h'.1 rfl ?_
          refine v_iload C 59 dXM_join_57 rfl rfl ?_
          first | refine v_aload_n C 60 dXM_join_59 rfl rfl ?_ | refine v_aload_nN C 60 dXM_join_59 rfl rfl ?_ | refine v_aload_nQ C 60 dXM_join_59 rfl rfl ?_
          refine gt_XM_19 C 63 dXM_join_60 rfl h'.1 rfl ?_
          refine v_iload C 65 dXM_join_63 rfl rfl ?_
          refine v_iald C 66 dXM_join_65 rfl hA3 E rfl (show E < 520 by omega) (ra_sz_lt 3) ?_
          rw [hfE]
          first | refine v_aload_n C 67 dXM_join_66 rfl rfl ?_ | refine v_aload_nN C 67 dXM_join_66 rfl rfl ?_ | refine v_aload_nQ C 67 dXM_join_66 rfl rfl ?_
          refine gt_XM_22 C 70 dXM_join_67 rfl h'.1 rfl ?_
          refine v_iload C 72 dXM_join_70 rfl rfl ?_
          refine v_iald C 73 dXM_join_72 rfl hA4 K rfl (show K < 520 by omega) (ra_sz_lt 4) ?_
          rw [k1]
          refine v_icmp_ne C 76 83 dXM_join_73 rfl rfl (fun hc => ?_) (fun hc => ?_)
          · first | refine v_aload_n C 84 dXM_join_83 rfl rfl ?_ | refine v_aload_nN C 84 dXM_join_83 rfl rfl ?_ | refine v_aload_nQ C 84 dXM_join_83 rfl rfl ?_
            refine gt_XM_19 C 87 dXM_join_84 rfl h'.1 rfl ?_
            refine v_iload C 89 dXM_join_87 rfl rfl ?_
            refine v_iald C 90 dXM_join_89 rfl hA3 E rfl (show E < 520 by omega) (ra_sz_lt 3) ?_
            rw [hfE]
            exact st _ (j1_miss (fun z => hc (by rw [z]))).symm _ _
          · rw [nI_eq (by omega) (by omega)] at hc
            first | refine v_aload_n C 77 dXM_join_76 rfl rfl ?_ | refine v_aload_nN C 77 dXM_join_76 rfl rfl ?_ | refine v_aload_nQ C 77 dXM_join_76 rfl rfl ?_
            refine gt_XM_82 C 80 dXM_join_77 rfl h'.1 rfl ?_
            refine v_goto C 90 dXM_join_80 rfl ?_
            exact st _ (j1_hit hc hi0 (by omega)).symm _ _
      refine v_iload C 34 dXM_join_32 rfl rfl ?_
      first | refine v_aload_n C 35 dXM_join_34 rfl rfl ?_ | refine v_aload_nN C 35 dXM_join_34 rfl rfl ?_ | refine v_aload_nQ C 35 dXM_join_34 rfl rfl ?_
      refine gt_XM_88 C 38 dXM_join_35 rfl h'.1 rfl ?_
      refine v_icmp_ge C 41 103 dXM_join_38 rfl rfl (fun h9 => False.elim (by first | exact h9 (nI_ge (show K < rs.length by omega) (by omega)) | exact absurd h9 (nI_ge (show K < rs.length by omega) (by omega)))) (fun h9 => ?_)
      refine v_iconst C 42 dXM_join_41 rfl (nI 0) (by decide) ?_
      refine v_istore C 44 _ dXM_join_42 rfl (Nat.lt_of_lt_of_le (Nat.lt_succ_self _) (Nat.le_of_ble_eq_true rfl)) rfl ?_
      exact inner el.length 0 M' f3 (by omega) hk h' (by rw [mixo_0]; exact ha) _ _
  have main : VV g x M 0 0 13 [some (.ref b), some (.int (nI many)), some (.int (nI tier)), none, none, none, none, none] [.int (bI (decide (i0 = 0)))] := by
    refine v_istore_n C 14 _ dXM_join_13 rfl (Nat.lt_of_lt_of_le (Nat.lt_succ_self _) (Nat.le_of_ble_eq_true rfl)) rfl ?_
    first | refine v_aload_n C 15 dXM_join_14 rfl rfl ?_ | refine v_aload_nN C 15 dXM_join_14 rfl rfl ?_ | refine v_aload_nQ C 15 dXM_join_14 rfl rfl ?_
    refine v_dup C 16 dXM_join_15 rfl rfl ?_
    refine gt_XM_82 C 19 dXM_join_16 rfl h.1 rfl ?_
    refine v_iconst C 20 dXM_join_19 rfl (nI 1) (by decide) ?_
    refine v_iadd C 21 dXM_join_20 rfl ?_
    refine v_top _ (.int (nI (marks + 1))) (congrArg Value.int (nI_add marks 1)) ?_
    refine pt_XM_82 C 24 dXM_join_21 rfl rfl rfl h.1 (Nat.lt_of_lt_of_le (Nat.lt_succ_self _) (Nat.le_of_ble_eq_true rfl)) (ob_M A cap gr now mem logs safe el.length rs.length (marks + 1)) rfl ?_
    have h2 := ra_put h (now' := now) (mem' := mem) (logs' := logs) (safe' := safe) (fl' := el.length) (runs' := rs.length) (marks' := marks + 1)
    first | refine v_aload_n C 25 dXM_join_24 rfl rfl ?_ | refine v_aload_nN C 25 dXM_join_24 rfl rfl ?_ | refine v_aload_nQ C 25 dXM_join_24 rfl rfl ?_
    refine gt_XM_88 C 28 dXM_join_25 rfl h2.1 rfl ?_
    refine v_iload_n C 29 dXM_join_28 rfl rfl ?_
    refine v_isub C 30 dXM_join_29 rfl ?_
    refine v_top _ (.int (nI i0)) (congrArg Value.int ((pk_sub (by omega)).trans (by rw [show rs.length - many = i0 by omega]))) ?_
    refine v_istore C 32 _ dXM_join_30 rfl (Nat.lt_of_lt_of_le (Nat.lt_succ_self _) (Nat.le_of_ble_eq_true rfl)) rfl ?_
    exact ph1 many i0 _ (f 3) (by omega) (Nat.le_refl _) ra_kb (by rw [va_up_id]; exact h2) (by rw [j1_0]; exact fun i hi => (R2 i hi).1) _ _ _
  refine v_iload_n C 1 dXM_join_0 rfl rfl ?_
  first | refine v_aload_n C 2 dXM_join_1 rfl rfl ?_ | refine v_aload_nN C 2 dXM_join_1 rfl rfl ?_ | refine v_aload_nQ C 2 dXM_join_1 rfl rfl ?_
  refine gt_XM_88 C 5 dXM_join_2 rfl h.1 rfl ?_
  refine v_icmp_ne C 8 12 dXM_join_5 rfl rfl (fun hall => ?_) (fun hall => ?_)
  · refine v_iconst C 13 dXM_join_12 rfl (nI 0) (by decide) ?_
    have : bI (decide (i0 = 0)) = nI 0 := bI_f (decide_eq_false (fun z => hall (by rw [show many = rs.length by omega])))
    rw [this] at main
    exact main
  · refine v_iconst C 9 dXM_join_8 rfl (nI 1) (by decide) ?_
    refine v_goto C 13 dXM_join_9 rfl ?_
    rw [nI_eq (by omega) (by omega)] at hall
    have : bI (decide (i0 = 0)) = nI 1 := bI_t (decide_eq_true (by omega))
    rw [this] at main
    exact main

