def clp (lo hi : Nat) (v : Int32) : Nat := if v.toInt < lo then lo else if hi < v.toInt then hi else v.toInt.toNat
def st_0 (cap gr : Int32) : st_S := (clp 2 20 cap, clp 0 50 gr, 0, tb_0, [], 0, [])
theorem clp_in (lo hi : Nat) (v : Int32) (h : lo ≤ hi) : lo ≤ clp lo hi v ∧ clp lo hi v ≤ hi := by
  unfold clp
  split
  · omega
  · split <;> omega
theorem st_b_0 (cap gr : Int32) : st_b (st_0 cap gr) 0 := by
  have h1 := clp_in 2 20 cap (by decide)
  have h2 := clp_in 0 50 gr (by decide)
  refine ⟨by decide, tb_ok_0, fun e he => (by cases he), fun k hk => absurd hk (Nat.not_lt_zero k), Nat.le_refl _, Nat.le_refl _, Nat.le_refl _, Nat.le_refl _, h1.1, h1.2, h2.2, rfl, ?_, rfl, fun k hk => absurd hk (Nat.not_lt_zero k)⟩
  show tb_n tb_0 ≤ clp 2 20 cap
  rw [tb_n_0]
  exact Nat.zero_le _
def ini (g : gx_T) (M : mp_M) (b : Nat) (as : List (Nat × Nat)) (fs : List Value) (M' : mp_M) : Prop := M' b = some (.inr (ci_M, fs)) ∧ (∀ (i : Nat) (p : Nat × Nat), as[i]? = some p → M' p.1 = some (ar_i (gx_I g) p.2 (fun _ => 0)) ∧ M p.1 = none) ∧ (∀ (i j : Nat) (p q : Nat × Nat), as[i]? = some p → as[j]? = some q → p.1 = q.1 → i = j) ∧ mp_k (fun q => q = b) M M' ∧ (∀ q, M' q = none → M q = none)
theorem ini_s {g : gx_T} {M : mp_M} {b : Nat} {as : List (Nat × Nat)} {fs fs' fs0 : List Value} {M' : mp_M} {a n : Nat} (h : ini g M b as fs M') (hM : M b = some (.inr (ci_M, fs0))) (ha : M' a = none) : ini g M b (as ++ [(a, n)]) fs' (mp_u (mp_u M' a (ar_i (gx_I g) n (fun _ => 0))) b (.inr (ci_M, fs'))) := by
  obtain ⟨h1, h2, h3, h4, h5⟩ := h
  have hab : a ≠ b := fun z => by rw [z, h1] at ha; cases ha
  have cas : ∀ (i : Nat) (p : Nat × Nat), (as ++ [(a, n)])[i]? = some p → as[i]? = some p ∨ (i = as.length ∧ p = (a, n)) := by
    intro i p hp
    by_cases hi : i < as.length
    · rw [List.getElem?_append_left hi] at hp
      exact Or.inl hp
    · rw [List.getElem?_append_right (by omega)] at hp
      have hz : i - as.length < 1 := (List.getElem?_eq_some_iff.mp hp).1
      rw [show i - as.length = 0 by omega] at hp
      cases hp
      exact Or.inr ⟨by omega, rfl⟩
  refine ⟨mp_us, fun i p hp => ?_, fun i j p q hp hq he => ?_, mp_k.tr h4 (mp_k.tr (mp_k.new ha) (mp_k.up rfl)), fun q hq => ?_⟩
  · rcases cas i p hp with z | ⟨-, rfl⟩
    · obtain ⟨g1, g2⟩ := h2 i p z
      have n1 : p.1 ≠ b := fun y => by rw [y, hM] at g2; cases g2
      have n2 : p.1 ≠ a := fun y => by rw [y, ha] at g1; cases g1
      exact ⟨by rw [mp_un n1, mp_un n2]; exact g1, g2⟩
    · exact ⟨by rw [mp_un hab, mp_us], h5 a ha⟩
  · rcases cas i p hp with z | ⟨z, rfl⟩ <;> rcases cas j q hq with y | ⟨y, rfl⟩
    · exact h3 i j p q z y he
    · have g1 := (h2 i p z).1
      rw [he, ha] at g1
      cases g1
    · have g1 := (h2 j q y).1
      rw [← he, ha] at g1
      cases g1
    · omega
  · have n1 : q ≠ b := fun y => by rw [y, mp_us] at hq; cases hq
    rw [mp_un n1] at hq
    have n2 : q ≠ a := fun y => by rw [y, mp_us] at hq; cases hq
    rw [mp_un n2] at hq
    exact h5 q hq
set_option maxHeartbeats 4000000 in
set_option maxRecDepth 100000 in
theorem c_M_init (g : gx_T) {M : mp_M} {b : Nat} (cap gr : Int32) (hM : M b = some (.inr (ci_M, [.int 0, .int 0, .int 0, .int 0, .null, .int 0, .int 0, .null, .int 0, .null, .null, .int 0, .int 0, .null, .null, .null]))) : Ct g yXM_init cXM_init 3 none 1 [.ref b, .int cap, .int gr] M (pv (fun M' => ∃ A : Nat → Nat, (∀ i, i < 7 → M (A i) = none) ∧ mp_k (fun q => q = b) M M' ∧ rp g M' b A (st_0 cap gr) 0)) 7 9015 := by
  refine ct_intro (L0 := [some (.ref b), some (.int cap), some (.int gr)]) (by decide) (Nat.le_of_ble_eq_true rfl) rfl rfl (fun x C Rx I => ?_)
  have s0 : ini g M b [] [.int 0, .int 0, .int 0, .int 0, .null, .int 0, .int 0, .null, .int 0, .null, .null, .int 0, .int 0, .null, .null, .null] M := ⟨hM, fun i p hp => (by simp at hp), fun i j p q hp => (by simp at hp), mp_k.rf, fun q hq => hq⟩
  first | refine v_aload_n C 1 dXM_init_0 rfl rfl ?_ | refine v_aload_nN C 1 dXM_init_0 rfl rfl ?_ | refine v_aload_nQ C 1 dXM_init_0 rfl rfl ?_
  refine oi_XM_1 C 4 dXM_init_1 rfl (Nat.le_of_ble_eq_true rfl) (Nat.le_of_ble_eq_true rfl) ?_
  first | refine v_aload_n C 5 dXM_init_4 rfl rfl ?_ | refine v_aload_nN C 5 dXM_init_4 rfl rfl ?_ | refine v_aload_nQ C 5 dXM_init_4 rfl rfl ?_
  refine v_sipush C 8 dXM_init_5 rfl (nI 168) (by decide) ?_
  refine v_newi C 10 al_arrI dXM_init_8 rfl 168 rfl (by decide) (by decide) (by decide) (fun a0 ha0 => ?_)
  have s1 := ini_s (n := 168) (fs' := [.int 0, .int 0, .int 0, .int 0, .ref a0, .int 0, .int 0, .null, .int 0, .null, .null, .int 0, .int 0, .null, .null, .null]) s0 hM ha0
  refine pt_XM_7 C (I rfl) 13 dXM_init_10 rfl rfl rfl ((mp_un (ne_n s0.1 ha0)).trans s0.1) (Nat.lt_of_lt_of_le (Nat.lt_succ_self _) (Nat.le_of_ble_eq_true rfl)) _ rfl ?_
  first | refine v_aload_n C 14 dXM_init_13 rfl rfl ?_ | refine v_aload_nN C 14 dXM_init_13 rfl rfl ?_ | refine v_aload_nQ C 14 dXM_init_13 rfl rfl ?_
  refine v_sipush C 17 dXM_init_14 rfl (nI 3640) (by decide) ?_
  refine v_newi C 19 al_arrI dXM_init_17 rfl 3640 rfl (by decide) (by decide) (by decide) (fun a1 ha1 => ?_)
  have s2 := ini_s (n := 3640) (fs' := [.int 0, .int 0, .int 0, .int 0, .ref a0, .int 0, .int 0, .ref a1, .int 0, .null, .null, .int 0, .int 0, .null, .null, .null]) s1 hM ha1
  refine pt_XM_13 C (I rfl) 22 dXM_init_19 rfl rfl rfl ((mp_un (ne_n s1.1 ha1)).trans s1.1) (Nat.lt_of_lt_of_le (Nat.lt_succ_self _) (Nat.le_of_ble_eq_true rfl)) _ rfl ?_
  first | refine v_aload_n C 23 dXM_init_22 rfl rfl ?_ | refine v_aload_nN C 23 dXM_init_22 rfl rfl ?_ | refine v_aload_nQ C 23 dXM_init_22 rfl rfl ?_
  refine v_sipush C 26 dXM_init_23 rfl (nI 3640) (by decide) ?_
  refine v_newi C 28 al_arrI dXM_init_26 rfl 3640 rfl (by decide) (by decide) (by decide) (fun a2 ha2 => ?_)
  have s3 := ini_s (n := 3640) (fs' := [.int 0, .int 0, .int 0, .int 0, .ref a0, .int 0, .int 0, .ref a1, .int 0, .ref a2, .null, .int 0, .int 0, .null, .null, .null]) s2 hM ha2
  refine pt_XM_16 C (I rfl) 31 dXM_init_28 rfl rfl rfl ((mp_un (ne_n s2.1 ha2)).trans s2.1) (Nat.lt_of_lt_of_le (Nat.lt_succ_self _) (Nat.le_of_ble_eq_true rfl)) _ rfl ?_
  first | refine v_aload_n C 32 dXM_init_31 rfl rfl ?_ | refine v_aload_nN C 32 dXM_init_31 rfl rfl ?_ | refine v_aload_nQ C 32 dXM_init_31 rfl rfl ?_
  refine v_sipush C 35 dXM_init_32 rfl (nI 520) (by decide) ?_
  refine v_newi C 37 al_arrI dXM_init_35 rfl 520 rfl (by decide) (by decide) (by decide) (fun a3 ha3 => ?_)
  have s4 := ini_s (n := 520) (fs' := [.int 0, .int 0, .int 0, .int 0, .ref a0, .int 0, .int 0, .ref a1, .int 0, .ref a2, .ref a3, .int 0, .int 0, .null, .null, .null]) s3 hM ha3
  refine pt_XM_19 C (I rfl) 40 dXM_init_37 rfl rfl rfl ((mp_un (ne_n s3.1 ha3)).trans s3.1) (Nat.lt_of_lt_of_le (Nat.lt_succ_self _) (Nat.le_of_ble_eq_true rfl)) _ rfl ?_
  first | refine v_aload_n C 41 dXM_init_40 rfl rfl ?_ | refine v_aload_nN C 41 dXM_init_40 rfl rfl ?_ | refine v_aload_nQ C 41 dXM_init_40 rfl rfl ?_
  refine v_sipush C 44 dXM_init_41 rfl (nI 520) (by decide) ?_
  refine v_newi C 46 al_arrI dXM_init_44 rfl 520 rfl (by decide) (by decide) (by decide) (fun a4 ha4 => ?_)
  have s5 := ini_s (n := 520) (fs' := [.int 0, .int 0, .int 0, .int 0, .ref a0, .int 0, .int 0, .ref a1, .int 0, .ref a2, .ref a3, .int 0, .int 0, .ref a4, .null, .null]) s4 hM ha4
  refine pt_XM_22 C (I rfl) 49 dXM_init_46 rfl rfl rfl ((mp_un (ne_n s4.1 ha4)).trans s4.1) (Nat.lt_of_lt_of_le (Nat.lt_succ_self _) (Nat.le_of_ble_eq_true rfl)) _ rfl ?_
  first | refine v_aload_n C 50 dXM_init_49 rfl rfl ?_ | refine v_aload_nN C 50 dXM_init_49 rfl rfl ?_ | refine v_aload_nQ C 50 dXM_init_49 rfl rfl ?_
  refine v_sipush C 53 dXM_init_50 rfl (nI 520) (by decide) ?_
  refine v_newi C 55 al_arrI dXM_init_53 rfl 520 rfl (by decide) (by decide) (by decide) (fun a5 ha5 => ?_)
  have s6 := ini_s (n := 520) (fs' := [.int 0, .int 0, .int 0, .int 0, .ref a0, .int 0, .int 0, .ref a1, .int 0, .ref a2, .ref a3, .int 0, .int 0, .ref a4, .ref a5, .null]) s5 hM ha5
  refine pt_XM_25 C (I rfl) 58 dXM_init_55 rfl rfl rfl ((mp_un (ne_n s5.1 ha5)).trans s5.1) (Nat.lt_of_lt_of_le (Nat.lt_succ_self _) (Nat.le_of_ble_eq_true rfl)) _ rfl ?_
  first | refine v_aload_n C 59 dXM_init_58 rfl rfl ?_ | refine v_aload_nN C 59 dXM_init_58 rfl rfl ?_ | refine v_aload_nQ C 59 dXM_init_58 rfl rfl ?_
  refine v_bipush C 61 dXM_init_59 rfl (nI 7) (by decide) ?_
  refine v_newi C 63 al_arrI dXM_init_61 rfl 7 rfl (by decide) (by decide) (by decide) (fun a6 ha6 => ?_)
  have s7 := ini_s (n := 7) (fs' := [.int 0, .int 0, .int 0, .int 0, .ref a0, .int 0, .int 0, .ref a1, .int 0, .ref a2, .ref a3, .int 0, .int 0, .ref a4, .ref a5, .ref a6]) s6 hM ha6
  refine pt_XM_28 C (I rfl) 66 dXM_init_63 rfl rfl rfl ((mp_un (ne_n s6.1 ha6)).trans s6.1) (Nat.lt_of_lt_of_le (Nat.lt_succ_self _) (Nat.le_of_ble_eq_true rfl)) _ rfl ?_
  have fin2 : ∀ M7 : mp_M, ini g M b [(a0, 168), (a1, 3640), (a2, 3640), (a3, 520), (a4, 520), (a5, 520), (a6, 7)] [.int 0, .int 0, .int 0, .int 0, .ref a0, .int 0, .int 0, .ref a1, .int 0, .ref a2, .ref a3, .int 0, .int 0, .ref a4, .ref a5, .ref a6] M7 → VV g x M7 7 9015 66 [some (.ref b), some (.int cap), some (.int gr)] [] := by
    intro M7 s7
    have mid : ∀ v : Int32, v = nI (clp 2 20 cap) → VV g x M7 7 9015 88 [some (.ref b), some (.int cap), some (.int gr)] [.int v, .ref b] := by
      intro v hv
      subst hv
      have last : ∀ v : Int32, v = nI (clp 0 50 gr) → VV g x (mp_u M7 b (.inr (ci_M, [.int (nI (clp 2 20 cap)), .int 0, .int 0, .int 0, .ref a0, .int 0, .int 0, .ref a1, .int 0, .ref a2, .ref a3, .int 0, .int 0, .ref a4, .ref a5, .ref a6]))) 7 9015 112 [some (.ref b), some (.int cap), some (.int gr)] [.int v, .ref b] := by
        intro v hv
        subst hv
        refine pt_XM_35 C (I rfl) 115 dXM_init_112 rfl rfl rfl mp_us (Nat.lt_of_lt_of_le (Nat.lt_succ_self _) (Nat.le_of_ble_eq_true rfl)) [.int (nI (clp 2 20 cap)), .int (nI (clp 0 50 gr)), .int 0, .int 0, .ref a0, .int 0, .int 0, .ref a1, .int 0, .ref a2, .ref a3, .int 0, .int 0, .ref a4, .ref a5, .ref a6] rfl ?_
        rw [mp_uu]
        obtain ⟨t1, t2, t3, t4, t5⟩ := s7
        refine v_vret C Rx dXM_init_115 (by omega) (by omega) ⟨rfl, fun i => ([(a0, 168), (a1, 3640), (a2, 3640), (a3, 520), (a4, 520), (a5, 520), (a6, 7)].getD i (0, 0)).1, ?_, mp_k.tr t4 (mp_k.up rfl), [], [], fun _ => 0, fun _ => 0, 0, fun _ _ => 0, ⟨mp_us, ?_, ?_⟩, lw_nil, tr_nil, tb_n_0.symm, lw_nil, ?_, Nat.le_refl _, Nat.le_refl _⟩
        · intro i hi
          have : ∀ i, i < 7 → ∃ p, [(a0, 168), (a1, 3640), (a2, 3640), (a3, 520), (a4, 520), (a5, 520), (a6, 7)][i]? = some p ∧ ([(a0, 168), (a1, 3640), (a2, 3640), (a3, 520), (a4, 520), (a5, 520), (a6, 7)].getD i (0, 0)).1 = p.1 := by
            intro i hi
            rcases (show i = 0 ∨ i = 1 ∨ i = 2 ∨ i = 3 ∨ i = 4 ∨ i = 5 ∨ i = 6 by omega) with rfl | rfl | rfl | rfl | rfl | rfl | rfl <;> exact ⟨_, rfl, rfl⟩
          obtain ⟨p, e1, e2⟩ := this i hi
          show M ([(a0, 168), (a1, 3640), (a2, 3640), (a3, 520), (a4, 520), (a5, 520), (a6, 7)].getD i (0, 0)).1 = none
          rw [e2]
          exact (t2 i p e1).2
        · intro i hi
          have nb : ∀ (i : Nat) (p : Nat × Nat), [(a0, 168), (a1, 3640), (a2, 3640), (a3, 520), (a4, 520), (a5, 520), (a6, 7)][i]? = some p → p.1 ≠ b := fun i p hp z => by
            have := (t2 i p hp).2
            rw [z, hM] at this
            cases this
          rcases (show i = 0 ∨ i = 1 ∨ i = 2 ∨ i = 3 ∨ i = 4 ∨ i = 5 ∨ i = 6 by omega) with rfl | rfl | rfl | rfl | rfl | rfl | rfl
          · exact (mp_un (nb 0 _ rfl)).trans (t2 0 _ rfl).1
          · exact (mp_un (nb 1 _ rfl)).trans (t2 1 _ rfl).1
          · exact (mp_un (nb 2 _ rfl)).trans (t2 2 _ rfl).1
          · exact (mp_un (nb 3 _ rfl)).trans (t2 3 _ rfl).1
          · exact (mp_un (nb 4 _ rfl)).trans (t2 4 _ rfl).1
          · exact (mp_un (nb 5 _ rfl)).trans (t2 5 _ rfl).1
          · exact (mp_un (nb 6 _ rfl)).trans (t2 6 _ rfl).1
        · intro i j hi hj hij
          have hg : ∀ i, i < 7 → [(a0, 168), (a1, 3640), (a2, 3640), (a3, 520), (a4, 520), (a5, 520), (a6, 7)][i]? = some ([(a0, 168), (a1, 3640), (a2, 3640), (a3, 520), (a4, 520), (a5, 520), (a6, 7)].getD i (0, 0)) := by
            intro i hi
            rcases (show i = 0 ∨ i = 1 ∨ i = 2 ∨ i = 3 ∨ i = 4 ∨ i = 5 ∨ i = 6 by omega) with rfl | rfl | rfl | rfl | rfl | rfl | rfl <;> rfl
          exact t3 i j _ _ (hg i hi) (hg j hj) hij
        · exact ⟨lw_nil, fun i hi => absurd hi (Nat.not_lt_zero i), fun k hk => absurd hk (Nat.not_lt_zero k), fun k k' hk => absurd hk (Nat.not_lt_zero k), fun i hi => absurd hi (Nat.not_lt_zero i), fun k hk => absurd hk (Nat.not_lt_zero k)⟩
      have k50 : (nI 50).toInt = 50 := by decide
      refine pt_XM_31 C (I rfl) 91 dXM_init_88 rfl rfl rfl s7.1 (Nat.lt_of_lt_of_le (Nat.lt_succ_self _) (Nat.le_of_ble_eq_true rfl)) [.int (nI (clp 2 20 cap)), .int 0, .int 0, .int 0, .ref a0, .int 0, .int 0, .ref a1, .int 0, .ref a2, .ref a3, .int 0, .int 0, .ref a4, .ref a5, .ref a6] rfl ?_
      first | refine v_aload_n C 92 dXM_init_91 rfl rfl ?_ | refine v_aload_nN C 92 dXM_init_91 rfl rfl ?_ | refine v_aload_nQ C 92 dXM_init_91 rfl rfl ?_
      refine v_iload_n C 93 dXM_init_92 rfl rfl ?_
      refine v_if_ge C 96 100 dXM_init_93 rfl rfl (fun z1 => ?_) (fun z1 => ?_)
      · rw [Int32.le_iff_toInt_le, i0] at z1
        refine v_iload_n C 101 dXM_init_100 rfl rfl ?_
        refine v_bipush C 103 dXM_init_101 rfl (nI 50) (by decide) ?_
        refine v_icmp_le C 106 111 dXM_init_103 rfl rfl (fun z2 => ?_) (fun z2 => ?_)
        · rw [Int32.le_iff_toInt_le, k50] at z2
          refine v_iload_n C 112 dXM_init_111 rfl rfl ?_
          refine last _ ?_
          unfold clp
          obtain ⟨j, hj, rfl⟩ := nI_of (x := gr) (by rw [Int32.lt_iff_toInt_lt, i0]; omega)
          rw [if_neg (by omega), if_neg (by omega), nI_tn hj]
        · rw [Int32.le_iff_toInt_le, k50] at z2
          refine v_bipush C 108 dXM_init_106 rfl (nI 50) (by decide) ?_
          refine v_goto C 112 dXM_init_108 rfl ?_
          refine last _ ?_
          unfold clp
          rw [if_neg (by omega), if_pos (by omega)]
      · rw [Int32.le_iff_toInt_le, i0] at z1
        refine v_iconst C 97 dXM_init_96 rfl (nI 0) (by decide) ?_
        refine v_goto C 112 dXM_init_97 rfl ?_
        refine last _ ?_
        unfold clp
        rw [if_pos (by omega)]
    have k2 : (nI 2).toInt = 2 := by decide
    have k20 : (nI 20).toInt = 20 := by decide
    first | refine v_aload_n C 67 dXM_init_66 rfl rfl ?_ | refine v_aload_nN C 67 dXM_init_66 rfl rfl ?_ | refine v_aload_nQ C 67 dXM_init_66 rfl rfl ?_
    refine v_iload_n C 68 dXM_init_67 rfl rfl ?_
    refine v_iconst C 69 dXM_init_68 rfl (nI 2) (by decide) ?_
    refine v_icmp_ge C 72 76 dXM_init_69 rfl rfl (fun z1 => ?_) (fun z1 => ?_)
    · rw [Int32.le_iff_toInt_le, k2] at z1
      refine v_iload_n C 77 dXM_init_76 rfl rfl ?_
      refine v_bipush C 79 dXM_init_77 rfl (nI 20) (by decide) ?_
      refine v_icmp_le C 82 87 dXM_init_79 rfl rfl (fun z2 => ?_) (fun z2 => ?_)
      · rw [Int32.le_iff_toInt_le, k20] at z2
        refine v_iload_n C 88 dXM_init_87 rfl rfl ?_
        refine mid _ ?_
        unfold clp
        obtain ⟨j, hj, rfl⟩ := nI_of (x := cap) (by rw [Int32.lt_iff_toInt_lt, i0]; omega)
        rw [if_neg (by omega), if_neg (by omega), nI_tn hj]
      · rw [Int32.le_iff_toInt_le, k20] at z2
        refine v_bipush C 84 dXM_init_82 rfl (nI 20) (by decide) ?_
        refine v_goto C 88 dXM_init_84 rfl ?_
        refine mid _ ?_
        unfold clp
        rw [if_neg (by omega), if_pos (by omega)]
    · rw [Int32.le_iff_toInt_le, k2] at z1
      refine v_iconst C 73 dXM_init_72 rfl (nI 2) (by decide) ?_
      refine v_goto C 88 dXM_init_73 rfl ?_
      refine mid _ ?_
      unfold clp
      rw [if_pos (by omega)]
  exact fin2 _ s7

