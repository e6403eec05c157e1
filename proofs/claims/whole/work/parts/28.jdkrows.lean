section VJDK
variable {g : gx_T} {x : cx_T} {cc : ByteArray} {own : String} {fr ce sl lc : Nat} {M : mp_M} {k n pc : Nat} {L : List (Option Value)} {rest : List Value}
theorem v_gets (C : CX g x cc own fr ce sl lc) (q : Nat) {idx : Nat} (hlk : Cond.fieldLink own idx "java/util/ArrayList" "DEFAULTCAPACITY_EMPTY_ELEMENTDATA" "[Ljava/lang/Object;" ∈ AL) (hd : decode cc pc = .ok (.getstatic idx, 3)) (hq : pc + 3 = q) (kk : VV g x M k n q L (.ref (gx_e g) :: rest)) : VV g x M k n pc L rest := by
  obtain ⟨p, e, R, s, m, args, below, meth, c, nL, Q⟩ := x
  subst hq
  obtain ⟨⟨hx, hb, hml, hown, hts⟩, hK, -, -⟩ := C
  intro H locs ls hw hS hl
  exact va_gets hx hb hK.2.2.2.2.2.2.2.1 hS hown (hts _ hlk) (fun _ h => h) hd (kk H locs ls hw hS hl)
theorem v_alenE (C : CX g x cc own fr ce sl lc) (q : Nat) (hd : decode cc pc = .ok (.arraylength, 1)) (hq : pc + 1 = q) (kk : VV g x M k n q L (.int (nI 0) :: rest)) : VV g x M k n pc L (.ref (gx_e g) :: rest) := by
  obtain ⟨p, e, R, s, m, args, below, meth, c, nL, Q⟩ := x
  subst hq
  obtain ⟨⟨hx, hb, hml, hown, hts⟩, hK, -, -⟩ := C
  intro H locs ls hw hS hl
  exact va_tlen hx hb hK.2.2.2.2.2.2.2.2.1 hS rfl hd (kk H locs ls hw hS hl)
theorem v_acmp_eq (C : CX g x cc own fr ce sl lc) (q t : Nat) {a b : Nat} {off : Int} (hd : decode cc pc = .ok (.if_acmp .eq off, 3)) (hq : pc + 3 = q) (ht : (pc : Int) + off = (t : Int)) (kt : a = b → VV g x M k n t L rest) (kf : ¬ a = b → VV g x M k n q L rest) : VV g x M k n pc L (.ref b :: .ref a :: rest) := by
  obtain ⟨p, e, R, s, m, args, below, meth, c, nL, Q⟩ := x
  subst hq
  exact fun H locs ls hw hS hl => lv_acmp_eq (rx := some a) (ry := some b) C.1.1 C.1.2.1 hd ht (fun h => kt (Option.some.inj h) H locs ls hw hS hl) (fun h => kf (fun z => h (congrArg some z)) H locs ls hw hS hl)
theorem v_acmp_ne (C : CX g x cc own fr ce sl lc) (q t : Nat) {a b : Nat} {off : Int} (hd : decode cc pc = .ok (.if_acmp .ne off, 3)) (hq : pc + 3 = q) (ht : (pc : Int) + off = (t : Int)) (kt : ¬ a = b → VV g x M k n t L rest) (kf : a = b → VV g x M k n q L rest) : VV g x M k n pc L (.ref b :: .ref a :: rest) := by
  obtain ⟨p, e, R, s, m, args, below, meth, c, nL, Q⟩ := x
  subst hq
  exact fun H locs ls hw hS hl => lv_acmp_ne (rx := some a) (ry := some b) C.1.1 C.1.2.1 hd ht (fun h => kt (fun z => h (congrArg some z)) H locs ls hw hS hl) (fun h => kf (Option.some.inj h) H locs ls hw hS hl)
theorem v_ldcM (C : CX g x cc own fr ce sl lc) (q : Nat) {idx : Nat} (hlk : Cond.classLink own idx "[Ljava/lang/Object;" ∈ AL) (hd : decode cc pc = .ok (.ldc idx, 2)) (hq : pc + 2 = q) (kk : VV g x M k n q L (.ref (gx_m g) :: rest)) : VV g x M k n pc L rest := by
  obtain ⟨p, e, R, s, m, args, below, meth, c, nL, Q⟩ := x
  subst hq
  obtain ⟨⟨hx, hb, hml, hown, hts⟩, hK, -, -⟩ := C
  intro H locs ls hw hS hl
  exact va_ldcM hx hb hown (hts _ hlk) hK.2.2.2.2.2.2.2.2.2.1 hd (kk H locs ls hw hS hl)
theorem v_getC (C : CX g x cc own fr ce sl lc) (q : Nat) {idx a N : Nat} {f : Nat → Option Nat} (hlk : Cond.methodLink own idx ⟨"java/lang/Object", "getClass", "()Ljava/lang/Class;"⟩ ∈ AL) (hse : Cond.selects "[Ljava/lang/Object;" ⟨"java/lang/Object", "getClass", "()Ljava/lang/Class;"⟩ ⟨"java/lang/Object", "getClass", "()Ljava/lang/Class;"⟩ ∈ AL) (hin : Cond.instanceMethod ⟨"java/lang/Object", "getClass", "()Ljava/lang/Class;"⟩ ∈ AL) (hna : Cond.native ⟨"java/lang/Object", "getClass", "()Ljava/lang/Class;"⟩ ∈ AL) (hd : decode cc pc = .ok (.invokevirtual idx, 3)) (hq : pc + 3 = q) (hfr : 1 ≤ fr) (hlo : (rest.map fun v => v.category).sum + 14 ≤ lc) (hM : M a = some (ar_q (gx_O g) N f)) (kk : VV g x M k n q L (.ref (gx_m g) :: rest)) : VV g x M k n pc L (.ref a :: rest) := by
  obtain ⟨p, e, R, s, m, args, below, meth, c, nL, Q⟩ := x
  subst hq
  obtain ⟨⟨hx, hb, hml, hown, hts⟩, hK, hR, hz⟩ := C
  subst hR
  intro H locs ls hw hS hl
  obtain ⟨-, ws, hP, hD, hm⟩ := id hw
  obtain ⟨q0, hq0⟩ := hm _ _ hM
  have hc := hP q0 _ hq0
  exact va_getC hx hb (by rw [hml]; exact hl.1.1.symm) hown (hts _ hlk) hK.2.2.2.2.2.2.2.2.2.2.1.use (hts _ hse) (hts _ hin) (hts _ hna) hK.2.2.2.2.2.2.2.2.2.1 ⟨_, hc, rfl, va_nmO (hK.1.2 1 _ rfl).2 (by decide)⟩ hfr hlo hd (kk H locs ls hw hS hl)
theorem v_acopy (C : CX g x cc own fr ce sl lc) (q : Nat) {idx a0 a n0 n1 : Nat} {f h : Nat → Option Nat} (hlk : Cond.methodLink own idx arraycopyName ∈ AL) (hna : Cond.native arraycopyName ∈ AL) (hst : Cond.static arraycopyName ∈ AL) (hini : Cond.initialized "java/lang/System" ∈ AL) (hd : decode cc pc = .ok (.invokestatic idx, 3)) (hq : pc + 3 = q) (hM0 : M a0 = some (ar_q (gx_O g) n0 f)) (hM1 : M a = some (ar_q (gx_O g) n1 h)) (cnt : Nat) {nv : Int32} (hnv : nv = nI cnt) (hc0 : cnt ≤ n0) (hc1 : cnt ≤ n1) (hb0 : n0 < 2 ^ 31) (hel : ∀ i, i < cnt → ∀ y, f i = some y → ∃ fs, M y = some (.inr (ci_T, fs))) (hfr : 1 ≤ fr) (hlo : (rest.map fun v => v.category).sum + (nativeFrameWords "java/lang/System" "arraycopy" 5 + 11) ≤ lc) (kk : VV g x (mp_u M a (ar_q (gx_O g) n1 (va_cpy f h 0 0 cnt))) k n q L rest) : VV g x M k n pc L (.int nv :: .int (nI 0) :: .ref a :: .int (nI 0) :: .ref a0 :: rest) := by
  obtain ⟨p, e, R, s, m, args, below, meth, c, nL, Q⟩ := x
  subst hq
  subst hnv
  obtain ⟨⟨hx, hb, hml, hown, hts⟩, hK, hR, hz⟩ := C
  subst hR
  intro H locs ls hw hS hl
  obtain ⟨-, ws, hP, hD, hm⟩ := id hw
  obtain ⟨q0, hq0⟩ := hm _ _ hM0
  obtain ⟨q1, hq1⟩ := hm _ _ hM1
  have hcl : (nI cnt).toNatClampNeg = cnt := nI_clamp (by omega)
  have hz0 : (nI 0).toNatClampNeg = 0 := nI_clamp (by decide)
  refine va_copyq (C := RXT) (E0 := "java/lang/Object") (E1 := "java/lang/Object") hx hb (by rw [hml]; exact hl.1.1.symm) hown (hts _ hlk) (hts _ hna) (hts _ hst) (hts _ hini) hK.1 hP hD hS q0 q1 1 1 hq0 hq1 rfl rfl (nI_pos (by decide)) (nI_pos (by decide)) (nI_pos (by omega)) (by rw [hcl, hz0]; omega) (by rw [hcl, hz0]; omega) (fun i hi y hy => ?_) (fun comp c0 h1 h2 => ?_) hfr hlo hd (fun H1 locs1 hP1 hD1 hS1 => ?_)
  · rw [hcl] at hi
    rw [hz0, Nat.zero_add] at hy
    obtain ⟨fs, hy2⟩ := hel i hi y hy
    obtain ⟨q2, hq2⟩ := hm _ _ hy2
    exact va_recv (q := (RXT, TXT, 4)) hK.1 hP rfl hq2
  · obtain ⟨c9, t9, f1, f2, f3⟩ := Cond.castable_spec hK.2.2.2.2.2.2.1
    cases h2.symm.trans f1
    cases h1.symm.trans f2
    exact f3
  · rw [hcl, hz0] at hP1 hD1
    exact kk H1 locs1 ls ⟨Nat.le_trans hz hS1.1, _, hP1, hD1, mp_set hD hm hq1⟩ hS1 hl
theorem v_aastO (C : CX g x cc own fr ce sl lc) (q : Nat) {a b N : Nat} {vs : List Value} {f : Nat → Option Nat} {i : Int32} (hd : decode cc pc = .ok (.aastore, 1)) (hq : pc + 1 = q) (hM : M a = some (ar_q (gx_O g) N f)) (hb2 : M b = some (.inr (ci_T, vs))) (j : Nat) (hi : i = nI j) (hj : j < N) (hN : N < 2 ^ 31) (kk : VV g x (mp_u M a (ar_q (gx_O g) N (va_up f j (some b)))) k n q L rest) : VV g x M k n pc L (.ref b :: .int i :: .ref a :: rest) := by
  obtain ⟨p, e, R, s, m, args, below, meth, c, nL, Q⟩ := x
  subst hq
  subst hi
  obtain ⟨⟨hx, hb, hml, hown, hts⟩, hK, -, hz⟩ := C
  intro H locs ls hw hS hl
  obtain ⟨-, ws, hP, hD, hm⟩ := id hw
  obtain ⟨q0, hq0⟩ := hm _ _ hM
  obtain ⟨q1, hq1⟩ := hm _ _ hb2
  refine va_astqO (E := "java/lang/Object") (r := (RXT, TXT, 4)) hx hb hK.1 hP hD hS q0 1 q1 ci_T hq0 rfl hK.2.2.2.2.2.2.1 hq1 rfl (vp_in_nI hj hN) hd (fun H1 locs1 hP1 hD1 hS1 => ?_)
  rw [nI_clamp (Nat.lt_trans hj hN)] at hP1 hD1
  exact kk H1 locs1 ls ⟨Nat.le_trans hz hS1.1, _, hP1, hD1, mp_set hD hm hq0⟩ hS1 hl
theorem v_slen (C : CX g x cc own fr ce sl lc) (q : Nat) (hd : decode cc pc = .ok (.arraylength, 1)) (hq : pc + 1 = q) (kk : VV g x M k n q L (.int (nI (gx_L g)) :: rest)) : VV g x M k n pc L (.ref (gx_b g) :: rest) := by
  obtain ⟨p, e, R, s, m, args, below, meth, c, nL, Q⟩ := x
  subst hq
  obtain ⟨⟨hx, hb, hml, hown, hts⟩, hK, -, hz⟩ := C
  intro H locs ls hw hS hl
  have h12 := hK.2.2.2.2.2.2.2.2.2.2.2.1
  have h13 := hK.2.2.2.2.2.2.2.2.2.2.2.2
  exact va_slen (A := fun q => gx_z g ≤ q) hx hb h12 (Nat.lt_of_lt_of_le h13 hz) (Nat.not_le.mpr h13) hS hd (kk H locs ls hw hS hl)
theorem v_sld (C : CX g x cc own fr ce sl lc) (q : Nat) {i : Int32} (hd : decode cc pc = .ok (.iaload, 1)) (hq : pc + 1 = q) (j : Nat) (hi : i = nI j) (hj : j < gx_L g) (hL : gx_L g < 2 ^ 31) (kk : VV g x M k n q L (.int (gx_x g j) :: rest)) : VV g x M k n pc L (.int i :: .ref (gx_b g) :: rest) := by
  obtain ⟨p, e, R, s, m, args, below, meth, c, nL, Q⟩ := x
  subst hq
  subst hi
  obtain ⟨⟨hx, hb, hml, hown, hts⟩, hK, -, hz⟩ := C
  intro H locs ls hw hS hl
  have h12 := hK.2.2.2.2.2.2.2.2.2.2.2.1
  have h13 := hK.2.2.2.2.2.2.2.2.2.2.2.2
  refine va_sld (A := fun q => gx_z g ≤ q) hx hb h12 (Nat.lt_of_lt_of_le h13 hz) (Nat.not_le.mpr h13) hS (vp_in_nI hj hL) hd ?_
  rw [nI_clamp (Nat.lt_trans hj hL)]
  exact kk H locs ls hw hS hl
end VJDK
theorem ct_introF {g : gx_T} {y : MethodName} {cc : ByteArray} {nL : Nat} {ret : Option FieldType} {lv : Nat} {As : List Value} {M : mp_M} {Po : Option Value → mp_M → Prop} {mc ms : Nat} {L0 : List (Option Value)} (hy : plainFor y = true) (hn : As.length ≤ nL) (hA : (As.all fun v => v.category == 1) = true) (hL : As.map some ++ List.replicate (nL - As.length) none = L0)
    (body : ∀ x : cx_T, CX g x cc y.cls lv mc ms (40 * lv) → RX g x ret Po mc ms → (y.name = "<init>" → IX x) → VV g x M 0 0 0 L0 []) : Ct g y cc nL ret lv As M Po mc ms := by
  subst hL
  refine va_MetF (cc := cc) (maxL := nL) (ret := ret) hy rfl ?_
  intro p e s m args below meth c s₁ B hml hv
  obtain ⟨rfl, hH, hK⟩ := hv
  have hts := atoms_spec (ws := .code y cc nL ret :: AL) B.pre
  have hown : s.vm.findClass y.cls = some m.cls := findClass_of_methodNamed B.named
  have hA2 : ∀ v, v ∈ As → v.category = 1 := fun v hv => by simpa using List.all_eq_true.mp hA v hv
  rw [lg_entry_eq]
  exact body (p, e, rm_ lv mc ms, s, m, As.toArray, below, meth, c, nL, MQ below (mp_Q g Po) As.toArray s mc ms (fun q => gx_z g ≤ q)) ⟨⟨B.exec, B.bytes, hml, hown, fun w hw => hts w (List.mem_cons_of_mem _ hw)⟩, hK, rfl, hH.1⟩ ⟨B.returns, B.notSynchronized, rfl⟩ (fun hi => (name_of_methodNamed B.named B.method).1.trans hi) s.heap [] _ hH va_S.rf (lx_entry As hn hA2)
theorem pn_A : plainName yXA_add.cls = true := by decide
theorem pn_Y : plainName yXY_copyOf2.cls = true := by decide
theorem pn_O : plainName yXO_checkIndex.cls = true := by decide
theorem pn_P : plainName yXP_checkIndex.cls = true := by decide
theorem pn_U : plainName yXU_newLength.cls = true := by decide
theorem pn_B : plainName yXB_init.cls = true := by decide
theorem pn_C : plainName yXC_init.cls = true := by decide
