theorem rp.k {g : gx_T} {M M' : mp_M} {b : Nat} {A : Nat → Nat} {S : st_S} {c : Nat} (h : rp g M b A S c) (K : mp_k (fun q => ¬ ra_P b A q) M M') : rp g M' b A S c := by
  obtain ⟨ml, el, ow, mk, marks, f, ⟨a1, a2, a3⟩, hr⟩ := h
  exact ⟨ml, el, ow, mk, marks, f, ⟨K _ _ (fun z => z (Or.inl rfl)) a1, fun i hi => K _ _ (fun z => z (Or.inr ⟨i, hi, rfl⟩)) (a2 i hi), a3⟩, hr⟩
theorem rp_F {g : gx_T} {M : mp_M} {b : Nat} {A : Nat → Nat} {S : st_S} {c : Nat} (h : rp g M b A S c) : ∀ q, ra_P b A q → M q ≠ none := by
  obtain ⟨ml, el, ow, mk, marks, f, ⟨a1, a2, a3⟩, hr⟩ := h
  intro q hq
  rcases hq with z | ⟨i, hi, z⟩
  · rw [z, a1]
    intro y
    cases y
  · rw [z, a2 i hi]
    intro y
    cases y
theorem rp_b {g : gx_T} {M : mp_M} {b : Nat} {A : Nat → Nat} {S : st_S} {c : Nat} (h : rp g M b A S c) : ∃ fs, M b = some (.inr (ci_M, fs)) := by
  obtain ⟨ml, el, ow, mk, marks, f, ⟨a1, a2, a3⟩, hr⟩ := h
  exact ⟨_, a1⟩
theorem cw_e.kF {F : Nat → Prop} {M M' : mp_M} {q : Nat} {e : en_E} (h : cw_e F M q e) (K : mp_k F M M') : cw_e F M' q e := ⟨h.1, K _ _ h.1 h.2⟩
theorem cw_t.kF {g : gx_T} {F : Nat → Prop} {M M' : mp_M} {a sl t : Nat} {T : tb_T} (h : cw_t g F M a sl t T) (K : mp_k F M M') : cw_t g F M' a sl t T := by
  obtain ⟨c1, c2, c3, c4, f, c5, c6⟩ := h
  refine ⟨c1, c2, c3, K _ _ c1 c4, f, K _ _ c2 c5, fun s hs => ?_⟩
  rcases c6 s hs with z | ⟨q, e, z1, z2, z3⟩
  · exact Or.inl z
  · exact Or.inr ⟨q, e, z1, z2, z3.kF K⟩
theorem cw.kF {g : gx_T} {F : Nat → Prop} {M M' : mp_M} {a : Nat} {S : st_S} (h : cw g F M a S) (K : mp_k F M M') : cw g F M' a S := by
  obtain ⟨lg, rl, mm, ms, ps, lf, h1, h2, h3, h4, h5, ⟨mc, ed, l1, l2, l3⟩, h7, h8, h9⟩ := h
  refine ⟨lg, rl, mm, ms, ps, lf, h1, K _ _ h1 h2, h3, K _ _ h3 h4, fun i e hi => (h5 i e hi).imp (fun q hq => ⟨hq.1, hq.2.kF K⟩), ⟨mc, ed, l1, K _ _ l1 l2, ?_⟩, ⟨h7.1, fun i p t hp ht => (h7.2 i p t hp ht).kF K⟩, h8.kF K, h9⟩
  rcases l3 with z | ⟨cap, f, z1, z2, z3⟩
  · exact Or.inl z
  · exact Or.inr ⟨cap, f, z1, K _ _ z1 z2, z3⟩
theorem cw_t.re {g : gx_T} {F F' : Nat → Prop} {M : mp_M} {a sl t : Nat} {T : tb_T} (h : cw_t g F M a sl t T) (hF : ∀ q, F' q → M q = none) : cw_t g F' M a sl t T := by
  have nn : ∀ {q : Nat} {e : va_E}, M q = some e → ¬ F' q := fun hq z => by rw [hF _ z] at hq; cases hq
  obtain ⟨c1, c2, c3, c4, f, c5, c6⟩ := h
  refine ⟨nn c4, nn c5, c3, c4, f, c5, fun s hs => ?_⟩
  rcases c6 s hs with z | ⟨q, e, z1, z2, z3⟩
  · exact Or.inl z
  · exact Or.inr ⟨q, e, z1, z2, nn z3.2, z3.2⟩
theorem cw.re {g : gx_T} {F F' : Nat → Prop} {M : mp_M} {a : Nat} {S : st_S} (h : cw g F M a S) (hF : ∀ q, F' q → M q = none) : cw g F' M a S := by
  have nn : ∀ {q : Nat} {e : va_E}, M q = some e → ¬ F' q := fun hq z => by rw [hF _ z] at hq; cases hq
  obtain ⟨lg, rl, mm, ms, ps, lf, h1, h2, h3, h4, h5, ⟨mc, ed, l1, l2, l3⟩, h7, h8, h9⟩ := h
  refine ⟨lg, rl, mm, ms, ps, lf, nn h2, h2, nn h4, h4, fun i e hi => (h5 i e hi).imp (fun q hq => ⟨hq.1, nn hq.2.2, hq.2.2⟩), ⟨mc, ed, nn l2, l2, ?_⟩, ⟨h7.1, fun i p t hp ht => (h7.2 i p t hp ht).re hF⟩, h8.re hF, h9⟩
  rcases l3 with z | ⟨cap, f, z1, z2, z3⟩
  · exact Or.inl z
  · exact Or.inr ⟨cap, f, nn z2, z2, z3⟩
def dl (S S' : st_S) : Prop := (st_runs S').length ≤ (st_runs S).length + 1
theorem mg_2 {S S' : st_S} (h : dl S S') : 2 * mg S S' + (st_runs S').length ≤ (st_runs S).length + 1 := by
  unfold mg
  unfold dl at h
  omega
theorem dl_f (S : st_S) : dl S (st_f S) := by
  have := st_fm_len S
  unfold dl
  omega
theorem dl_a (S : st_S) (e : en_E) : dl S (st_a S e) := by
  unfold st_a
  split
  · exact dl_f (st_cap S, st_gr S, st_now S, tb_a (st_mem S) e, st_log S ++ [e], st_safe S, st_runs S)
  · exact Nat.le_succ _
theorem dl_s (S : st_S) : dl S S := Nat.le_succ _
theorem dl_put (S : st_S) (r c p v l : Int32) : dl S (sx_put S r c p v l) := by
  unfold sx_put
  split
  · exact dl_a S _
  · exact dl_s S
theorem dl_del (S : st_S) (r c p : Int32) : dl S (sx_del S r c p) := by
  unfold sx_del
  split
  · exact dl_a S _
  · exact dl_s S
theorem dl_wip (S : st_S) (r c l p : Int32) : dl S (sx_wip S r c l p) := by
  unfold sx_wip
  split
  · exact dl_a S _
  · exact dl_s S
theorem dl_me (S : st_S) : dl S (st_me S) := by
  unfold st_me
  split
  · exact dl_s S
  · show (st_j (st_now S) (st_gr S) (st_runs S) 0 (st_top (st_runs S))).length ≤ _
    rw [st_j_len (Nat.zero_le _)]
    omega
theorem sb_put {S : st_S} {n : Nat} (B : st_b S n) (hn : n < 512) (r c p v l : Int32) : st_b (sx_put S r c p v l) (n + 1) := by
  unfold sx_put
  split
  · next h =>
    rw [Bool.and_eq_true, Bool.and_eq_true] at h
    obtain ⟨i, j, hi, hj, rfl, rfl⟩ := pl_of h.1
    obtain ⟨pp, hp, rfl⟩ := sp_of h.2.1
    obtain ⟨ll, hl, rfl⟩ := li_of h.2.2
    exact st_b_a B hn (ok_put B hi hj hp hl)
  · exact st_b_up B hn
theorem sb_del {S : st_S} {n : Nat} (B : st_b S n) (hn : n < 512) (r c p : Int32) : st_b (sx_del S r c p) (n + 1) := by
  unfold sx_del
  split
  · next h =>
    rw [Bool.and_eq_true] at h
    obtain ⟨i, j, hi, hj, rfl, rfl⟩ := pl_of h.1
    obtain ⟨pp, hp, rfl⟩ := sp_of h.2
    exact st_b_a B hn (ok_del B hi hj hp)
  · exact st_b_up B hn
theorem sb_wip {S : st_S} {n : Nat} (B : st_b S n) (hn : n < 512) (r c l p : Int32) : st_b (sx_wip S r c l p) (n + 1) := by
  unfold sx_wip
  split
  · next h =>
    rw [Bool.and_eq_true, Bool.and_eq_true, Bool.and_eq_true] at h
    obtain ⟨i, j, hi, hj, rfl, rfl⟩ := pl_of h.1
    obtain ⟨i2, j2, hi2, hj2, e2, rfl⟩ := pl_of h.2.1
    obtain ⟨pp, hp, rfl⟩ := sp_of h.2.2.2
    have hjj : j ≤ j2 := by
      have := of_decide_eq_true h.2.2.1
      rw [nI_toInt (by omega), nI_toInt (by omega)] at this
      omega
    exact st_b_a B hn (ok_wip B hi hjj hj2 hp)
  · exact st_b_up B hn
theorem sb_syn {S : st_S} {n : Nat} (B : st_b S n) (hn : n < 512) : st_b (sx_syn S) (n + 1) := by
  obtain ⟨b1, b2, b3, b4, b5, b6, b7, b8, b9, b10, b11, b12, b13, b14, b15⟩ := st_b_up B hn
  exact ⟨b1, b2, b3, b4, Nat.le_refl _, b6, b7, b8, b9, b10, b11, b12, b13, b14, b15⟩
theorem sb_tic {S : st_S} {n : Nat} (B : st_b S n) (hn : n < 512) (t : Int32) : st_b (sx_tic S t) (n + 1) := by
  have h8 : st_now S ≤ 100 * n := by
    obtain ⟨b1, b2, b3, b4, b5, b6, b7, b8, -⟩ := B
    exact b8
  obtain ⟨b1, b2, b3, b4, b5, b6, b7, b8, b9, b10, b11, b12, b13, b14, b15⟩ := st_b_up B hn
  refine ⟨b1, b2, b3, b4, b5, b6, b7, ?_, b9, b10, b11, b12, b13, b14, b15⟩
  show nw_t (st_now S) t ≤ 100 * (n + 1)
  unfold nw_t
  split
  · omega
  · omega
theorem end_iff {L i : Nat} (hL : L ≤ 3074) (hi : i ≤ 4000) : nI L - nI 6 < nI i ↔ L < i + 6 := by
  by_cases h6 : 6 ≤ L
  · rw [nI_sb h6, nI_ltI (by omega) (by omega)]
    omega
  · have h7 : nI L - nI 6 < nI 0 := by
      have : L = 0 ∨ L = 1 ∨ L = 2 ∨ L = 3 ∨ L = 4 ∨ L = 5 := by omega
      rcases this with h | h | h | h | h | h <;> rw [h] <;> decide
    refine ⟨fun _ => by omega, fun _ => ?_⟩
    have h8 : nI 0 ≤ nI i := nI_le (Nat.zero_le _) (by omega)
    rw [Int32.lt_iff_toInt_lt] at h7 ⊢
    rw [Int32.le_iff_toInt_le] at h8
    omega
set_option maxHeartbeats 4000000 in
set_option maxRecDepth 100000 in
theorem c_L_cell (g : gx_T) {M : mp_M} (k : Nat) (hk : k < 2 ^ 31) (hL : gx_L g < 2 ^ 31) : Ct g yXL_cell cXL_cell 2 (some .int) 1 [.ref (gx_b g), .int (nI k)] M (pi_ (fun v M' => M = M' ∧ v = if k < gx_L g then gx_x g k else 0)) 0 0 := by
  refine ct_intro (L0 := [some (.ref (gx_b g)), some (.int (nI k))]) (by decide) (Nat.le_of_ble_eq_true rfl) rfl rfl (fun x C Rx I => ?_)
  refine v_iload_n C 1 dXL_cell_0 rfl rfl ?_
  first | refine v_aload_n C 2 dXL_cell_1 rfl rfl ?_ | refine v_aload_nN C 2 dXL_cell_1 rfl rfl ?_ | refine v_aload_nQ C 2 dXL_cell_1 rfl rfl ?_
  refine v_slen C 3 dXL_cell_2 rfl ?_
  refine v_icmp_ge C 6 12 dXL_cell_3 rfl rfl (fun q0 => ?_) (fun q0 => ?_)
  · refine v_iconst C 13 dXL_cell_12 rfl (nI 0) (by decide) ?_
    refine v_iret C Rx dXL_cell_13 (by omega) (by omega) ⟨_, rfl, rfl, ?_⟩
    rw [if_neg (fun z => absurd q0 (nI_ge z hL))]
    rfl
  · first | refine v_aload_n C 7 dXL_cell_6 rfl rfl ?_ | refine v_aload_nN C 7 dXL_cell_6 rfl rfl ?_ | refine v_aload_nQ C 7 dXL_cell_6 rfl rfl ?_
    refine v_iload_n C 8 dXL_cell_7 rfl rfl ?_
    have q1 : k < gx_L g := by
      by_cases z : k < gx_L g
      · exact z
      · exact absurd (nI_le (by omega) hk) q0
    refine v_sld C 9 dXL_cell_8 rfl k rfl q1 hL ?_
    refine v_goto C 13 dXL_cell_9 rfl ?_
    refine v_iret C Rx dXL_cell_13 (by omega) (by omega) ⟨_, rfl, rfl, (if_pos q1).symm⟩

