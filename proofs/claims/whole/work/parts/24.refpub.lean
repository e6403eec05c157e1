theorem rw.mono {g : gx_T} {M : mp_M} {b : Nat} {A : Nat → Nat} {S : st_S} {n1 n2 m1 m2 : Nat} (h : rw g M b A S n1 n2) (h1 : n1 ≤ m1) (h2 : n2 ≤ m2) : rw g M b A S m1 m2 := by
  obtain ⟨ml, el, ow, mk, marks, f, q1, q2, q3, q4, q5, q6, q7, q8⟩ := h
  exact ⟨ml, el, ow, mk, marks, f, q1, q2, q3, q4, q5, q6, by omega, by omega⟩
def rp (g : gx_T) (M : mp_M) (b : Nat) (A : Nat → Nat) (S : st_S) (c : Nat) : Prop := rw g M b A S c (600 * c)
set_option maxHeartbeats 4000000 in
set_option maxRecDepth 100000 in
theorem c_M_put (g : gx_T) {M : mp_M} {b : Nat} {A : Nat → Nat} {S : st_S} {n : Nat} (h : rp g M b A S n) (B : st_b S n) (hn : n < 512) (r c p v l : Int32) : Ct g yXM_put cXM_put 6 (some .boolean) 7 [.ref b, .int r, .int c, .int p, .int v, .int l] M (pi_ (fun w M' => w = bI (pl r c && (sp_ok p && li_ok l)) ∧ mp_k (ra_P b A) M M' ∧ rp g M' b A (sx_put S r c p v l) (n + 1))) 0 0 := by
  refine ct_intro (L0 := [some (.ref b), some (.int r), some (.int c), some (.int p), some (.int v), some (.int l)]) (by decide) (Nat.le_of_ble_eq_true rfl) rfl rfl (fun x C Rx I => ?_)
  have hml := st_b_ml B
  obtain ⟨h1, h2, h3, h4, h5, h6, h7, h8, h9, h10, h11, h12, h13, h14, h15⟩ := id B
  have k100 : (nI 100).toInt = 100 := by decide
  have no : (pl r c && (sp_ok p && li_ok l)) = false → VV g x M 0 0 27 [some (.ref b), some (.int r), some (.int c), some (.int p), some (.int v), some (.int l)] [] := by
    intro hz
    have hs : sx_put S r c p v l = S := if_neg (by rw [hz]; decide)
    refine v_iconst C 28 dXM_put_27 rfl (nI 0) (by decide) ?_
    refine v_zret C Rx dXM_put_28 (by omega) (by omega) (Or.inl rfl) ⟨_, rfl, (bI_f hz).symm, mp_k.rf, by rw [hs]; exact h.mono (by omega) (by omega)⟩
  refine v_iload_n C 1 dXM_put_0 rfl rfl ?_
  refine v_iload_n C 2 dXM_put_1 rfl rfl ?_
  refine v_ri 5 (cl_XM_67 C ((c_M_isPlace g (M := M) r c)) dXM_put_2 rfl rfl (Nat.le_of_ble_eq_true rfl) (Nat.le_of_ble_eq_true rfl) (Nat.le_of_ble_eq_true rfl) (by omega) (by omega)) rfl (fun w M1 hv => ?_)
  obtain ⟨rfl, rfl⟩ := hv
  refine v_if_eq C 8 27 dXM_put_5 rfl rfl (fun q1 => ?_) (fun q1 => ?_)
  · rw [bI_0] at q1
    exact no (by rw [q1]; rfl)
  · have q1' : pl r c = true := by cases hz : pl r c with | true => rfl | false => exact absurd (bI_0.mpr hz) q1
    refine v_iload_n C 9 dXM_put_8 rfl rfl ?_
    refine v_ri 12 (cl_XM_71 C ((c_M_isStamp g (M := M) p)) dXM_put_9 rfl rfl (Nat.le_of_ble_eq_true rfl) (Nat.le_of_ble_eq_true rfl) (Nat.le_of_ble_eq_true rfl) (by omega) (by omega)) rfl (fun w M1 hv => ?_)
    obtain ⟨rfl, rfl⟩ := hv
    refine v_if_eq C 15 27 dXM_put_12 rfl rfl (fun q2 => ?_) (fun q2 => ?_)
    · rw [bI_0] at q2
      exact no (by rw [q1', q2]; rfl)
    · have q2' : sp_ok p = true := by cases hz : sp_ok p with | true => rfl | false => exact absurd (bI_0.mpr hz) q2
      refine v_iload C 17 dXM_put_15 rfl rfl ?_
      refine v_if_lt C 20 27 dXM_put_17 rfl rfl (fun q3 => ?_) (fun q3 => ?_)
      · exact no (by rw [q1', q2', show li_ok l = false from decide_eq_false (fun z => by rw [Int32.lt_iff_toInt_lt, i0] at q3; omega)]; rfl)
      · refine v_iload C 22 dXM_put_20 rfl rfl ?_
        refine v_bipush C 24 dXM_put_22 rfl (nI 100) (by decide) ?_
        refine v_icmp_le C 27 29 dXM_put_24 rfl rfl (fun q4 => ?_) (fun q4 => ?_)
        · have q5 : li_ok l = true := decide_eq_true (by
            rw [Int32.lt_iff_toInt_lt, i0] at q3
            rw [Int32.le_iff_toInt_le, k100] at q4
            omega)
          have hs : sx_put S r c p v l = st_a S (e_put S r c p v l) := if_pos (by rw [q1', q2', q5]; rfl)
          obtain ⟨i, j, hi, hj, rfl, rfl⟩ := pl_of q1'
          obtain ⟨pp, hp, rfl⟩ := sp_of q2'
          obtain ⟨ll, hl, rfl⟩ := li_of q5
          have ok := ok_put (v := v) B hi hj hp hl
          have et : tw (en_t (e_put S (nI i) (nI j) (nI pp) v (nI ll))) = if nI ll = 0 then (-1) else nI (st_now S + ll) := by
            show tw (if nI ll = 0 then 2147483647 else st_now S + (nI ll).toInt.toNat) = _
            by_cases hz : nI ll = 0
            · rw [if_pos hz, if_pos hz]
              rfl
            · rw [if_neg hz, if_neg hz, nI_tn (by omega)]
              exact if_neg (by omega)
          have key := c_M_add g h (e_put S (nI i) (nI j) (nI pp) v (nI ll)) ok (by omega) (by omega) (by omega) (by omega) (by omega) hml h2 h4 (fun k hk => by have := h15 k hk; omega) h10 h13
          rw [et] at key
          obtain ⟨ml, el, ow, mk, marks, f, hra, -⟩ := id h
          have tail : ∀ t : Int32, t = (if nI ll = 0 then (-1) else nI (st_now S + ll)) → VV g x M 0 0 53 [some (.ref b), some (.int (nI i)), some (.int (nI j)), some (.int (nI pp)), some (.int v), some (.int (nI ll))] [.int t, .int v, .int (nI pp), .int (nI j), .int (nI j), .int (nI i), .int (nI 0), .ref b] := by
            intro t htt
            subst htt
            have ek : nI (en_k (e_put S (nI i) (nI j) (nI pp) v (nI ll))) = nI 0 := rfl
            have er : nI (en_r (e_put S (nI i) (nI j) (nI pp) v (nI ll))) = nI i := congrArg nI (nI_tn (by omega))
            have ec : nI (en_c (e_put S (nI i) (nI j) (nI pp) v (nI ll))) = nI j := congrArg nI (nI_tn (by omega))
            have el' : nI (en_l (e_put S (nI i) (nI j) (nI pp) v (nI ll))) = nI j := congrArg nI (nI_tn (by omega))
            have ep : nI (en_p (e_put S (nI i) (nI j) (nI pp) v (nI ll))) = nI pp := congrArg nI (nI_tn (by omega))
            have ev : en_v (e_put S (nI i) (nI j) (nI pp) v (nI ll)) = v := rfl
            rw [ek, er, ec, el', ep, ev] at key
            refine v_ri 56 (cl_XM_78 C (key) hra.1 dXM_put_53 rfl rfl (Nat.le_of_ble_eq_true rfl) (Nat.le_of_ble_eq_true rfl) (Nat.le_of_ble_eq_true rfl) (by omega) (by omega)) rfl (fun w M2 hv => ?_)
            obtain ⟨rfl, hk2, hr2⟩ := hv
            refine v_zret C Rx dXM_put_56 (by omega) (by omega) (Or.inr rfl) ⟨_, rfl, by rw [q1', q2', q5]; rfl, hk2, by rw [hs]; exact hr2.mono (by omega) (by omega)⟩
          first | refine v_aload_n C 30 dXM_put_29 rfl rfl ?_ | refine v_aload_nN C 30 dXM_put_29 rfl rfl ?_ | refine v_aload_nQ C 30 dXM_put_29 rfl rfl ?_
          refine v_iconst C 31 dXM_put_30 rfl (nI 0) (by decide) ?_
          refine v_iload_n C 32 dXM_put_31 rfl rfl ?_
          refine v_iload_n C 33 dXM_put_32 rfl rfl ?_
          refine v_iload_n C 34 dXM_put_33 rfl rfl ?_
          refine v_iload_n C 35 dXM_put_34 rfl rfl ?_
          refine v_iload C 37 dXM_put_35 rfl rfl ?_
          refine v_iload C 39 dXM_put_37 rfl rfl ?_
          refine v_if_ne C 42 46 dXM_put_39 rfl rfl (fun q6 => ?_) (fun q6 => ?_)
          · first | refine v_aload_n C 47 dXM_put_46 rfl rfl ?_ | refine v_aload_nN C 47 dXM_put_46 rfl rfl ?_ | refine v_aload_nQ C 47 dXM_put_46 rfl rfl ?_
            refine gt_XM_75 C 50 dXM_put_47 rfl hra.1 rfl ?_
            refine v_iload C 52 dXM_put_50 rfl rfl ?_
            refine v_iadd C 53 dXM_put_52 rfl ?_
            refine v_top _ (.int (nI (st_now S + ll))) (congrArg Value.int (nI_add _ _)) ?_
            exact tail _ (if_neg q6).symm
          · refine v_iconst C 43 dXM_put_42 rfl (-1) (by decide) ?_
            refine v_goto C 53 dXM_put_43 rfl ?_
            exact tail _ (if_pos q6).symm
        · exact no (by rw [q1', q2', show li_ok l = false from decide_eq_false (fun z => by rw [Int32.le_iff_toInt_le, k100] at q4; omega)]; rfl)
set_option maxHeartbeats 4000000 in
set_option maxRecDepth 100000 in
theorem c_M_delete (g : gx_T) {M : mp_M} {b : Nat} {A : Nat → Nat} {S : st_S} {n : Nat} (h : rp g M b A S n) (B : st_b S n) (hn : n < 512) (r c p : Int32) : Ct g yXM_delete cXM_delete 4 (some .boolean) 7 [.ref b, .int r, .int c, .int p] M (pi_ (fun w M' => w = bI (pl r c && sp_ok p) ∧ mp_k (ra_P b A) M M' ∧ rp g M' b A (sx_del S r c p) (n + 1))) 0 0 := by
  refine ct_intro (L0 := [some (.ref b), some (.int r), some (.int c), some (.int p)]) (by decide) (Nat.le_of_ble_eq_true rfl) rfl rfl (fun x C Rx I => ?_)
  have hml := st_b_ml B
  obtain ⟨h1, h2, h3, h4, h5, h6, h7, h8, h9, h10, h11, h12, h13, h14, h15⟩ := id B
  have no : (pl r c && sp_ok p) = false → VV g x M 0 0 36 [some (.ref b), some (.int r), some (.int c), some (.int p)] [] := by
    intro hz
    have hs : sx_del S r c p = S := if_neg (by rw [hz]; decide)
    refine v_iconst C 37 dXM_delete_36 rfl (nI 0) (by decide) ?_
    refine v_zret C Rx dXM_delete_37 (by omega) (by omega) (Or.inl rfl) ⟨_, rfl, (bI_f hz).symm, mp_k.rf, by rw [hs]; exact h.mono (by omega) (by omega)⟩
  refine v_iload_n C 1 dXM_delete_0 rfl rfl ?_
  refine v_iload_n C 2 dXM_delete_1 rfl rfl ?_
  refine v_ri 5 (cl_XM_67 C ((c_M_isPlace g (M := M) r c)) dXM_delete_2 rfl rfl (Nat.le_of_ble_eq_true rfl) (Nat.le_of_ble_eq_true rfl) (Nat.le_of_ble_eq_true rfl) (by omega) (by omega)) rfl (fun w M1 hv => ?_)
  obtain ⟨rfl, rfl⟩ := hv
  refine v_if_eq C 8 36 dXM_delete_5 rfl rfl (fun q1 => ?_) (fun q1 => ?_)
  · rw [bI_0] at q1
    exact no (by rw [q1]; rfl)
  · have q1' : pl r c = true := by cases hz : pl r c with | true => rfl | false => exact absurd (bI_0.mpr hz) q1
    refine v_iload_n C 9 dXM_delete_8 rfl rfl ?_
    refine v_ri 12 (cl_XM_71 C ((c_M_isStamp g (M := M) p)) dXM_delete_9 rfl rfl (Nat.le_of_ble_eq_true rfl) (Nat.le_of_ble_eq_true rfl) (Nat.le_of_ble_eq_true rfl) (by omega) (by omega)) rfl (fun w M1 hv => ?_)
    obtain ⟨rfl, rfl⟩ := hv
    refine v_if_eq C 15 36 dXM_delete_12 rfl rfl (fun q2 => ?_) (fun q2 => ?_)
    · rw [bI_0] at q2
      exact no (by rw [q1', q2]; rfl)
    · have q2' : sp_ok p = true := by cases hz : sp_ok p with | true => rfl | false => exact absurd (bI_0.mpr hz) q2
      have hs : sx_del S r c p = st_a S (e_del S r c p) := if_pos (by rw [q1', q2']; rfl)
      obtain ⟨i, j, hi, hj, rfl, rfl⟩ := pl_of q1'
      obtain ⟨pp, hp, rfl⟩ := sp_of q2'
      have ok := ok_del B hi hj hp
      have key := c_M_add g h (e_del S (nI i) (nI j) (nI pp)) ok (by omega) (by omega) (by omega) (by omega) (by omega) hml h2 h4 (fun k hk => by have := h15 k hk; omega) h10 h13
      have et : tw (en_t (e_del S (nI i) (nI j) (nI pp))) = nI (st_now S) := if_neg (by show st_now S ≠ 2147483647; omega)
      have ek : nI (en_k (e_del S (nI i) (nI j) (nI pp))) = nI 1 := rfl
      have er : nI (en_r (e_del S (nI i) (nI j) (nI pp))) = nI i := congrArg nI (nI_tn (by omega))
      have ec : nI (en_c (e_del S (nI i) (nI j) (nI pp))) = nI j := congrArg nI (nI_tn (by omega))
      have el' : nI (en_l (e_del S (nI i) (nI j) (nI pp))) = nI j := congrArg nI (nI_tn (by omega))
      have ep : nI (en_p (e_del S (nI i) (nI j) (nI pp))) = nI pp := congrArg nI (nI_tn (by omega))
      have ev : en_v (e_del S (nI i) (nI j) (nI pp)) = nI 0 := rfl
      rw [et, ek, er, ec, el', ep, ev] at key
      obtain ⟨ml, el, ow, mk, marks, f, hra, -⟩ := id h
      first | refine v_aload_n C 16 dXM_delete_15 rfl rfl ?_ | refine v_aload_nN C 16 dXM_delete_15 rfl rfl ?_ | refine v_aload_nQ C 16 dXM_delete_15 rfl rfl ?_
      refine v_iconst C 17 dXM_delete_16 rfl (nI 1) (by decide) ?_
      refine v_iload_n C 18 dXM_delete_17 rfl rfl ?_
      refine v_iload_n C 19 dXM_delete_18 rfl rfl ?_
      refine v_iload_n C 20 dXM_delete_19 rfl rfl ?_
      refine v_iload_n C 21 dXM_delete_20 rfl rfl ?_
      refine v_iconst C 22 dXM_delete_21 rfl (nI 0) (by decide) ?_
      first | refine v_aload_n C 23 dXM_delete_22 rfl rfl ?_ | refine v_aload_nN C 23 dXM_delete_22 rfl rfl ?_ | refine v_aload_nQ C 23 dXM_delete_22 rfl rfl ?_
      refine gt_XM_75 C 26 dXM_delete_23 rfl hra.1 rfl ?_
      refine v_ri 29 (cl_XM_78 C (key) hra.1 dXM_delete_26 rfl rfl (Nat.le_of_ble_eq_true rfl) (Nat.le_of_ble_eq_true rfl) (Nat.le_of_ble_eq_true rfl) (by omega) (by omega)) rfl (fun w M2 hv => ?_)
      obtain ⟨rfl, hk2, hr2⟩ := hv
      refine v_if_eq C 32 36 dXM_delete_29 rfl rfl (fun h9 => False.elim (by first | exact h9 ((by decide)) | exact absurd h9 ((by decide)))) (fun h9 => ?_)
      refine v_iconst C 33 dXM_delete_32 rfl (nI 1) (by decide) ?_
      refine v_goto C 37 dXM_delete_33 rfl ?_
      refine v_zret C Rx dXM_delete_37 (by omega) (by omega) (Or.inr rfl) ⟨_, rfl, by rw [q1', q2']; rfl, hk2, by rw [hs]; exact hr2.mono (by omega) (by omega)⟩
set_option maxHeartbeats 4000000 in
set_option maxRecDepth 100000 in
theorem c_M_wipe (g : gx_T) {M : mp_M} {b : Nat} {A : Nat → Nat} {S : st_S} {n : Nat} (h : rp g M b A S n) (B : st_b S n) (hn : n < 512) (r c l p : Int32) : Ct g yXM_wipe cXM_wipe 5 (some .boolean) 7 [.ref b, .int r, .int c, .int l, .int p] M (pi_ (fun w M' => w = bI (pl r c && (pl r l && (decide (c.toInt ≤ l.toInt) && sp_ok p))) ∧ mp_k (ra_P b A) M M' ∧ rp g M' b A (sx_wip S r c l p) (n + 1))) 0 0 := by
  refine ct_intro (L0 := [some (.ref b), some (.int r), some (.int c), some (.int l), some (.int p)]) (by decide) (Nat.le_of_ble_eq_true rfl) rfl rfl (fun x C Rx I => ?_)
  have hml := st_b_ml B
  obtain ⟨h1, h2, h3, h4, h5, h6, h7, h8, h9, h10, h11, h12, h13, h14, h15⟩ := id B
  have no : (pl r c && (pl r l && (decide (c.toInt ≤ l.toInt) && sp_ok p))) = false → VV g x M 0 0 51 [some (.ref b), some (.int r), some (.int c), some (.int l), some (.int p)] [] := by
    intro hz
    have hs : sx_wip S r c l p = S := if_neg (by rw [hz]; decide)
    refine v_iconst C 52 dXM_wipe_51 rfl (nI 0) (by decide) ?_
    refine v_zret C Rx dXM_wipe_52 (by omega) (by omega) (Or.inl rfl) ⟨_, rfl, (bI_f hz).symm, mp_k.rf, by rw [hs]; exact h.mono (by omega) (by omega)⟩
  refine v_iload_n C 1 dXM_wipe_0 rfl rfl ?_
  refine v_iload_n C 2 dXM_wipe_1 rfl rfl ?_
  refine v_ri 5 (cl_XM_67 C ((c_M_isPlace g (M := M) r c)) dXM_wipe_2 rfl rfl (Nat.le_of_ble_eq_true rfl) (Nat.le_of_ble_eq_true rfl) (Nat.le_of_ble_eq_true rfl) (by omega) (by omega)) rfl (fun w M1 hv => ?_)
  obtain ⟨rfl, rfl⟩ := hv
  refine v_if_eq C 8 51 dXM_wipe_5 rfl rfl (fun q1 => ?_) (fun q1 => ?_)
  · rw [bI_0] at q1
    exact no (by rw [q1]; rfl)
  · have q1' : pl r c = true := by cases hz : pl r c with | true => rfl | false => exact absurd (bI_0.mpr hz) q1
    refine v_iload_n C 9 dXM_wipe_8 rfl rfl ?_
    refine v_iload_n C 10 dXM_wipe_9 rfl rfl ?_
    refine v_ri 13 (cl_XM_67 C ((c_M_isPlace g (M := M) r l)) dXM_wipe_10 rfl rfl (Nat.le_of_ble_eq_true rfl) (Nat.le_of_ble_eq_true rfl) (Nat.le_of_ble_eq_true rfl) (by omega) (by omega)) rfl (fun w M1 hv => ?_)
    obtain ⟨rfl, rfl⟩ := hv
    refine v_if_eq C 16 51 dXM_wipe_13 rfl rfl (fun q2 => ?_) (fun q2 => ?_)
    · rw [bI_0] at q2
      exact no (by rw [q1', q2]; rfl)
    · have q2' : pl r l = true := by cases hz : pl r l with | true => rfl | false => exact absurd (bI_0.mpr hz) q2
      refine v_iload_n C 17 dXM_wipe_16 rfl rfl ?_
      refine v_iload_n C 18 dXM_wipe_17 rfl rfl ?_
      refine v_icmp_gt C 21 51 dXM_wipe_18 rfl rfl (fun q3 => ?_) (fun q3 => ?_)
      · exact no (by rw [q1', q2', show decide (c.toInt ≤ l.toInt) = false from decide_eq_false (fun z => by rw [Int32.lt_iff_toInt_lt] at q3; omega)]; rfl)
      · have q3' : decide (c.toInt ≤ l.toInt) = true := decide_eq_true (by rw [Int32.lt_iff_toInt_lt] at q3; omega)
        refine v_iload C 23 dXM_wipe_21 rfl rfl ?_
        refine v_ri 26 (cl_XM_71 C ((c_M_isStamp g (M := M) p)) dXM_wipe_23 rfl rfl (Nat.le_of_ble_eq_true rfl) (Nat.le_of_ble_eq_true rfl) (Nat.le_of_ble_eq_true rfl) (by omega) (by omega)) rfl (fun w M1 hv => ?_)
        obtain ⟨rfl, rfl⟩ := hv
        refine v_if_eq C 29 51 dXM_wipe_26 rfl rfl (fun q4 => ?_) (fun q4 => ?_)
        · rw [bI_0] at q4
          exact no (by rw [q1', q2', q3', q4]; rfl)
        · have q4' : sp_ok p = true := by cases hz : sp_ok p with | true => rfl | false => exact absurd (bI_0.mpr hz) q4
          have hs : sx_wip S r c l p = st_a S (e_wip S r c l p) := if_pos (by rw [q1', q2', q3', q4']; rfl)
          obtain ⟨i, j, hi, hj, rfl, rfl⟩ := pl_of q1'
          obtain ⟨i', jl, hi', hjl, ei, rfl⟩ := pl_of q2'
          obtain ⟨pp, hp, rfl⟩ := sp_of q4'
          have hjj : j ≤ jl := by
            have := of_decide_eq_true q3'
            rw [nI_toInt (by omega), nI_toInt (by omega)] at this
            omega
          have ok := ok_wip B hi hjj hjl hp
          have key := c_M_add g h (e_wip S (nI i) (nI j) (nI jl) (nI pp)) ok (by omega) (by omega) (by omega) (by omega) (by omega) hml h2 h4 (fun k hk => by have := h15 k hk; omega) h10 h13
          have et : tw (en_t (e_wip S (nI i) (nI j) (nI jl) (nI pp))) = nI (st_now S) := if_neg (by show st_now S ≠ 2147483647; omega)
          have ek : nI (en_k (e_wip S (nI i) (nI j) (nI jl) (nI pp))) = nI 2 := rfl
          have er : nI (en_r (e_wip S (nI i) (nI j) (nI jl) (nI pp))) = nI i := congrArg nI (nI_tn (by omega))
          have ec : nI (en_c (e_wip S (nI i) (nI j) (nI jl) (nI pp))) = nI j := congrArg nI (nI_tn (by omega))
          have el' : nI (en_l (e_wip S (nI i) (nI j) (nI jl) (nI pp))) = nI jl := congrArg nI (nI_tn (by omega))
          have ep : nI (en_p (e_wip S (nI i) (nI j) (nI jl) (nI pp))) = nI pp := congrArg nI (nI_tn (by omega))
          have ev : en_v (e_wip S (nI i) (nI j) (nI jl) (nI pp)) = nI 0 := rfl
          rw [et, ek, er, ec, el', ep, ev] at key
          obtain ⟨ml, el, ow, mk, marks, f, hra, -⟩ := id h
          first | refine v_aload_n C 30 dXM_wipe_29 rfl rfl ?_ | refine v_aload_nN C 30 dXM_wipe_29 rfl rfl ?_ | refine v_aload_nQ C 30 dXM_wipe_29 rfl rfl ?_
          refine v_iconst C 31 dXM_wipe_30 rfl (nI 2) (by decide) ?_
          refine v_iload_n C 32 dXM_wipe_31 rfl rfl ?_
          refine v_iload_n C 33 dXM_wipe_32 rfl rfl ?_
          refine v_iload_n C 34 dXM_wipe_33 rfl rfl ?_
          refine v_iload C 36 dXM_wipe_34 rfl rfl ?_
          refine v_iconst C 37 dXM_wipe_36 rfl (nI 0) (by decide) ?_
          first | refine v_aload_n C 38 dXM_wipe_37 rfl rfl ?_ | refine v_aload_nN C 38 dXM_wipe_37 rfl rfl ?_ | refine v_aload_nQ C 38 dXM_wipe_37 rfl rfl ?_
          refine gt_XM_75 C 41 dXM_wipe_38 rfl hra.1 rfl ?_
          refine v_ri 44 (cl_XM_78 C (key) hra.1 dXM_wipe_41 rfl rfl (Nat.le_of_ble_eq_true rfl) (Nat.le_of_ble_eq_true rfl) (Nat.le_of_ble_eq_true rfl) (by omega) (by omega)) rfl (fun w M2 hv => ?_)
          obtain ⟨rfl, hk2, hr2⟩ := hv
          refine v_if_eq C 47 51 dXM_wipe_44 rfl rfl (fun h9 => False.elim (by first | exact h9 ((by decide)) | exact absurd h9 ((by decide)))) (fun h9 => ?_)
          refine v_iconst C 48 dXM_wipe_47 rfl (nI 1) (by decide) ?_
          refine v_goto C 52 dXM_wipe_48 rfl ?_
          refine v_zret C Rx dXM_wipe_52 (by omega) (by omega) (Or.inr rfl) ⟨_, rfl, by rw [q1', q2', q3', q4']; rfl, hk2, by rw [hs]; exact hr2.mono (by omega) (by omega)⟩
set_option maxHeartbeats 4000000 in
set_option maxRecDepth 100000 in
theorem c_M_flush (g : gx_T) {M : mp_M} {b : Nat} {A : Nat → Nat} {S : st_S} {n : Nat} (h : rp g M b A S n) (B : st_b S n) (hn : n < 512) : Ct g yXM_flush cXM_flush 1 (some .int) 6 [.ref b] M (pi_ (fun w M' => w = nI (tb_n (st_mem S)) ∧ mp_k (ra_P b A) M M' ∧ rp g M' b A (st_f S) (n + 1))) 0 0 := by
  refine ct_intro (L0 := [some (.ref b)]) (by decide) (Nat.le_of_ble_eq_true rfl) rfl rfl (fun x C Rx I => ?_)
  have hml := st_b_ml B
  obtain ⟨h1, h2, h3, h4, h5, h6, h7, h8, h9, h10, h11, h12, h13, h14, h15⟩ := id B
  obtain ⟨ml, el, ow, mk, marks, f, hra, -⟩ := id h
  first | refine v_aload_n C 1 dXM_flush_0 rfl rfl ?_ | refine v_aload_nN C 1 dXM_flush_0 rfl rfl ?_ | refine v_aload_nQ C 1 dXM_flush_0 rfl rfl ?_
  refine v_ri 4 (cl_XM_63 C ((c_M_flushAll g h (by omega) (by omega) (by omega) (by omega) (by omega) hml h2 h4 (fun k hk => by have := h15 k hk; omega) (by omega) (fun _ => h14))) hra.1 dXM_flush_1 rfl rfl (Nat.le_of_ble_eq_true rfl) (Nat.le_of_ble_eq_true rfl) (Nat.le_of_ble_eq_true rfl) (by omega) (by omega)) rfl (fun w M2 hv => ?_)
  obtain ⟨rfl, hk2, hr2⟩ := hv
  refine v_iret C Rx dXM_flush_4 (by omega) (by omega) ⟨_, rfl, rfl, hk2, hr2.mono (by omega) (by omega)⟩

