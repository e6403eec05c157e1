set_option maxHeartbeats 8000000 in
set_option maxRecDepth 100000 in
theorem law_start (g : gx_T) {x : cx_T} (C : CX g x cXL_law RXL 13 600000 7302249 498) (hL : gx_L g ≤ 3074) (hfin : ∀ (M : mp_M) (k n : Nat) (Ls : List (Option Value)), k ≤ 600000 → n ≤ 7302249 → VV g x M k n 543 Ls [.int (nI 1)]) : VV g x (fun _ => none) 0 0 0 [some (.ref (gx_b g)), none, none, none] [] := by
  refine nw_XL_7 C 3 dXL_law_0 rfl (by omega) (by omega) (fun a ha => ?_)
  refine v_dup C 4 dXL_law_3 rfl rfl ?_
  first | refine v_aload_n C 5 dXL_law_4 rfl rfl ?_ | refine v_aload_nN C 5 dXL_law_4 rfl rfl ?_ | refine v_aload_nQ C 5 dXL_law_4 rfl rfl ?_
  refine v_iconst C 6 dXL_law_5 rfl (nI 0) (by decide) ?_
  refine v_ri 9 (cl_XL_9 C ((c_L_cell g 0 (by omega) (by omega))) dXL_law_6 rfl rfl (Nat.le_of_ble_eq_true rfl) (Nat.le_of_ble_eq_true rfl) (Nat.le_of_ble_eq_true rfl) (by omega) (by omega)) rfl (fun v0 M1 hv => ?_)
  obtain ⟨rfl, rfl⟩ := hv
  first | refine v_aload_n C 10 dXL_law_9 rfl rfl ?_ | refine v_aload_nN C 10 dXL_law_9 rfl rfl ?_ | refine v_aload_nQ C 10 dXL_law_9 rfl rfl ?_
  refine v_iconst C 11 dXL_law_10 rfl (nI 1) (by decide) ?_
  refine v_ri 14 (cl_XL_9 C ((c_L_cell g 1 (by omega) (by omega))) dXL_law_11 rfl rfl (Nat.le_of_ble_eq_true rfl) (Nat.le_of_ble_eq_true rfl) (Nat.le_of_ble_eq_true rfl) (by omega) (by omega)) rfl (fun v1 M1 hv => ?_)
  obtain ⟨rfl, rfl⟩ := hv
  generalize h0 : (if 0 < gx_L g then gx_x g 0 else 0) = v0
  generalize h1 : (if 1 < gx_L g then gx_x g 1 else 0) = v1
  refine v_rv 17 (cl_XL_15 C ((c_S_init (F := fun _ => False) g v0 v1 mp_us id (fun _ z => z.elim))) dXL_law_14 rfl rfl (Nat.le_of_ble_eq_true rfl) (Nat.le_of_ble_eq_true rfl) (Nat.le_of_ble_eq_true rfl) (by omega) (by omega)) rfl (fun M1 hM1 => ?_)
  obtain ⟨K1, w1⟩ := hM1
  first | refine v_astore_n C 18 _ dXL_law_17 rfl (Nat.lt_of_lt_of_le (Nat.lt_succ_self _) (Nat.le_of_ble_eq_true rfl)) rfl ?_ | refine v_astore_nN C 18 _ dXL_law_17 rfl (Nat.lt_of_lt_of_le (Nat.lt_succ_self _) (Nat.le_of_ble_eq_true rfl)) rfl ?_ | refine v_astore_nQ C 18 _ dXL_law_17 rfl (Nat.lt_of_lt_of_le (Nat.lt_succ_self _) (Nat.le_of_ble_eq_true rfl)) rfl ?_
  refine nw_XL_18 C 21 dXL_law_18 rfl (by omega) (by omega) (fun b hb => ?_)
  refine v_dup C 22 dXL_law_21 rfl rfl ?_
  first | refine v_aload_n C 23 dXL_law_22 rfl rfl ?_ | refine v_aload_nN C 23 dXL_law_22 rfl rfl ?_ | refine v_aload_nQ C 23 dXL_law_22 rfl rfl ?_
  refine v_iconst C 24 dXL_law_23 rfl (nI 0) (by decide) ?_
  refine v_ri 27 (cl_XL_9 C ((c_L_cell g 0 (by omega) (by omega))) dXL_law_24 rfl rfl (Nat.le_of_ble_eq_true rfl) (Nat.le_of_ble_eq_true rfl) (Nat.le_of_ble_eq_true rfl) (by omega) (by omega)) rfl (fun v0' M2 hv => ?_)
  obtain ⟨rfl, e0⟩ := hv
  rw [h0] at e0
  subst e0
  first | refine v_aload_n C 28 dXL_law_27 rfl rfl ?_ | refine v_aload_nN C 28 dXL_law_27 rfl rfl ?_ | refine v_aload_nQ C 28 dXL_law_27 rfl rfl ?_
  refine v_iconst C 29 dXL_law_28 rfl (nI 1) (by decide) ?_
  refine v_ri 32 (cl_XL_9 C ((c_L_cell g 1 (by omega) (by omega))) dXL_law_29 rfl rfl (Nat.le_of_ble_eq_true rfl) (Nat.le_of_ble_eq_true rfl) (Nat.le_of_ble_eq_true rfl) (by omega) (by omega)) rfl (fun v1' M2 hv => ?_)
  obtain ⟨rfl, e1⟩ := hv
  rw [h1] at e1
  subst e1
  refine v_rv 35 (cl_XL_20 C ((c_M_init g v0' v1' mp_us)) dXL_law_32 rfl rfl (Nat.le_of_ble_eq_true rfl) (Nat.le_of_ble_eq_true rfl) (Nat.le_of_ble_eq_true rfl) (by omega) (by omega)) rfl (fun M3 hM3 => ?_)
  obtain ⟨A, hA, K3, r3⟩ := hM3
  have hP : ∀ q, ra_P b A q → M1 q = none := by
    intro q hq
    rcases hq with z | ⟨i, hi, z⟩
    · rw [z]
      exact hb
    · have h9 := hA i hi
      have n1 : A i ≠ b := fun y => by rw [y, mp_us] at h9; cases h9
      rw [mp_un n1] at h9
      rw [z]
      exact h9
  have w3 : cw g (ra_P b A) M3 a (st_0 v0' v1') := (w1.re hP).kF (mp_k.tr (P := ra_P b A) (mp_k.new hb) (K3.mono (fun q hq => Or.inl hq)))
  first | refine v_astore_n C 36 _ dXL_law_35 rfl (Nat.lt_of_lt_of_le (Nat.lt_succ_self _) (Nat.le_of_ble_eq_true rfl)) rfl ?_ | refine v_astore_nN C 36 _ dXL_law_35 rfl (Nat.lt_of_lt_of_le (Nat.lt_succ_self _) (Nat.le_of_ble_eq_true rfl)) rfl ?_ | refine v_astore_nQ C 36 _ dXL_law_35 rfl (Nat.lt_of_lt_of_le (Nat.lt_succ_self _) (Nat.le_of_ble_eq_true rfl)) rfl ?_
  refine v_iconst C 37 dXL_law_36 rfl (nI 2) (by decide) ?_
  refine v_istore_n C 38 _ dXL_law_37 rfl (Nat.lt_of_lt_of_le (Nat.lt_succ_self _) (Nat.le_of_ble_eq_true rfl)) rfl ?_
  exact law_loop g C hL hfin a b A 513 0 M3 (st_0 v0' v1') _ _ rfl w3 r3 (st_b_0 v0' v1') (by show _ + 2 * 0 ≤ _; omega) (by show _ + 854 * 0 ≤ _; omega)
def mk_D (cE cT cS cM cA : ClassId) (iE iT iS iM iA : Nat → Nat) : va_G := (fun c => match c with
  | 0 => cE
  | 1 => cT
  | 2 => cS
  | 3 => cM
  | _ => cA, fun c => match c with
  | 0 => iE
  | 1 => iT
  | 2 => iS
  | 3 => iM
  | _ => iA)
set_option maxRecDepth 100000 in
theorem lx_w {i : Nat} {w : Cond} (h : lw_tbl[i]? = some w) : w ∈ lw_tbl := List.mem_of_getElem? h
set_option maxHeartbeats 4000000 in
set_option maxRecDepth 100000 in
theorem mk_K (l : Launch) {s : State} {b L : Nat} {xs : Nat → Int32} {A : Array Value} (hts : ∀ w ∈ lw_tbl, w.before A s = true) (hX : va_X b L xs s s.heap) (hb : b < s.heap.size) (hgv : (Jvm.Cond.and given_1 narrow_1).before A s = true) : ∃ g : gx_T, gx_l g = l ∧ gx_z g = s.heap.size ∧ gx_b g = b ∧ gx_L g = L ∧ gx_x g = xs ∧ mp_K g s := by
  have hAL : ∀ w ∈ AL, w.before A s = true := fun w hw => hts w (AL_in w hw)
  obtain ⟨cE, iE, kE⟩ := u_known hAL hinE (hAL _ al_114)
  obtain ⟨cT, iT, kT⟩ := u_known hAL hinT (hAL _ al_70)
  obtain ⟨cS, iS, kS⟩ := u_known hAL hinS (hAL _ al_34)
  obtain ⟨cM, iM, kM⟩ := u_known hAL hinM (hAL _ al_336)
  obtain ⟨cA, iA, kA⟩ := u_known hAL hinA (hAL _ al_49)
  have oE : (Cond.arrayOver (.object "WideStore$Entry")).before A s = true := hts _ (lx_w (i := 48) rfl)
  have oO : (Cond.arrayOver (.object "java/lang/Object")).before A s = true := hts _ (lx_w (i := 222) rfl)
  obtain ⟨pE, aE, qE, e1, e2, e3, e4, e5⟩ := Cond.arrayOver_spec oE
  obtain ⟨pO, aO, qO, o1, o2, o3, o4, o5⟩ := Cond.arrayOver_spec oO
  obtain ⟨aI, qI, pI, i1, i2, i3⟩ := Cond.arrayClass_spec (hAL _ al_373)
  have hs := flat_of_before _ hgv
  have n1 : (Cond.arrayOf (Term.static "java/util/ArrayList" "DEFAULTCAPACITY_EMPTY_ELEMENTDATA" "[Ljava/lang/Object;") (.object "java/lang/Object")).before A s = true := hs _ (by decide +kernel)
  have n2 : (Cond.eq (Term.length (Term.static "java/util/ArrayList" "DEFAULTCAPACITY_EMPTY_ELEMENTDATA" "[Ljava/lang/Object;")) (Term.int 0)).before A s = true := hs _ (by decide +kernel)
  have n3 : (Cond.isRef (Term.mirror "[Ljava/lang/Object;")).before A s = true := hs _ (by decide +kernel)
  have hz : ∀ a : Nat, a < s.heap.size → ¬ (s.heap.size ≤ a) := fun a h => Nat.not_le.mpr h
  obtain ⟨t, t1, t2⟩ := va_Tof (N := 0) (f := fun _ => .null) (A := fun q => s.heap.size ≤ q) (by decide) n1 (va_eqt n2) (fun j hj => absurd hj (Nat.not_lt_zero j)) hz
  have zz := va_Zof (A := fun q => s.heap.size ≤ q) (hts (.laysStatic "java/util/ArrayList" "DEFAULTCAPACITY_EMPTY_ELEMENTDATA" "[Ljava/lang/Object;") (lx_w (i := 62) rfl)) (hAL _ al_24) t1 hz
  obtain ⟨mi, m1⟩ := va_Mi.of n3
  have d1 := va_Dc.of (hts (.declares ⟨"java/lang/Object", "getClass", "()Ljava/lang/Class;"⟩) (lx_w (i := 541) rfl))
  refine ⟨(l, mk_D cE cT cS cM cA iE iT iS iM iA, (aE, aO, aI), s.heap.size, (t, mi), b, L, xs), rfl, rfl, rfl, rfl, rfl, ⟨fun c q hq => ?_, fun k q hq => ?_⟩, va_AO.of oE, va_AO.of oO, va_Nw.of (by decide) (hts (.methodLinkNest RXT 27 yXS_pointSlot RXS) (lx_w (i := 269) rfl)), va_Nw.of (by decide) (hts (.methodLinkNest RXT 45 yXS_wipeSlot RXS) (lx_w (i := 274) rfl)), va_Nw.of (by decide) (hts (.castable RXT RXT) (lx_w (i := 538) rfl)), va_Nw.of (by decide) (hts (.castable RXT "java/lang/Object") (lx_w (i := 543) rfl)), zz, t2, m1, d1, hX, hb⟩
  · match c, hq with
    | 0, hq => cases hq; exact kE
    | 1, hq => cases hq; exact kT
    | 2, hq => cases hq; exact kS
    | 3, hq => cases hq; exact kM
    | 4, hq => cases hq; exact kA
    | c + 5, hq => cases hq
  · match k, hq with
    | 0, hq => cases hq; exact ⟨fun N z => ⟨(fun k h => by cases h), qE, e3, pE, e4⟩, qE, pE, e3, e4, e1, e5⟩
    | 1, hq => cases hq; exact ⟨fun N z => ⟨(fun k h => by cases h), qO, o3, pO, o4⟩, qO, pO, o3, o4, o1, o5⟩
    | 2, hq => cases hq; exact ⟨fun N z => ⟨(fun k h => by cases h), qI, i2, pI, i3⟩, i1⟩
    | k + 3, hq => cases hq

