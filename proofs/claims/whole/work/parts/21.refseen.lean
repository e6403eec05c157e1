theorem st_w_X (S : st_S) (s : Nat) : en_X (fun e => st_mem S s = some e ∨ ∃ t, t ∈ st_runs S ∧ t.2 s = some e) (st_w S s) := by
  have key : ∀ (rs : st_R) (o : Option en_E) (P : en_E → Prop), en_X P o → en_X (fun e => P e ∨ ∃ t, t ∈ rs ∧ t.2 s = some e) (rs.foldl (fun o r => en_m o (r.2 s)) o) := by
    intro rs
    induction rs with
    | nil => exact fun o P h => en_X_cg (fun e => ⟨fun z => Or.inl z, fun z => z.elim id (fun ⟨t, h1, _⟩ => by cases h1)⟩) h
    | cons r rs ih =>
      intro o P h
      refine en_X_cg (fun e => ⟨fun z => ?_, fun z => ?_⟩) (ih (en_m o (r.2 s)) (fun e => P e ∨ r.2 s = some e) (en_X_m h))
      · rcases z with (z | z) | ⟨t, h1, h2⟩
        · exact Or.inl z
        · exact Or.inr ⟨r, List.mem_cons_self, z⟩
        · exact Or.inr ⟨t, List.mem_cons_of_mem _ h1, h2⟩
      · rcases z with z | ⟨t, h1, h2⟩
        · exact Or.inl (Or.inl z)
        · rcases List.mem_cons.mp h1 with h3 | h3
          · subst h3
            exact Or.inl (Or.inr h2)
          · exact Or.inr ⟨t, h3, h2⟩
  refine key (st_runs S) (st_mem S s) (fun e => st_mem S s = some e) ?_
  cases h : st_mem S s with
  | none => exact fun e z => by cases z
  | some e => exact ⟨rfl, fun f z => by cases z; exact en_w_self e⟩
theorem rl_mem {fe fo fk ft : Nat → Int32} {el : List en_E} {ow mk : Nat → Nat} {marks : Nat} {rs : st_R} (R : rl_r fe fo fk ft el ow mk marks rs) {s : Nat} {e : en_E} (hok : ∀ k, k < rs.length → tb_ok (st_tb rs k)) : (∃ i, el[i]? = some e ∧ 0 < ow i ∧ en_s e = s) ↔ ∃ t, t ∈ rs ∧ t.2 s = some e := by
  obtain ⟨R1, R2, R3, R4, R5, R6⟩ := R
  constructor
  · rintro ⟨i, h1, h2, h3⟩
    rcases R5 i (List.getElem?_eq_some_iff.mp h1).1 with z | ⟨k, a1, a2⟩
    · omega
    · refine ⟨rs.getD k (0, tb_0), ?_, ?_⟩
      · rw [List.getD_eq_getElem?_getD, List.getElem?_eq_getElem a1]
        exact List.getElem_mem a1
      · rw [← h3]
        exact (R6 k a1).1 i e h1 a2
  · rintro ⟨t, h1, h2⟩
    obtain ⟨k, hk⟩ := List.getElem?_of_mem h1
    have hlt := (List.getElem?_eq_some_iff.mp hk).1
    have htb : st_tb rs k = t.2 := by
      unfold st_tb
      rw [List.getD_eq_getElem?_getD, hk]
      rfl
    rw [← htb] at h2
    obtain ⟨i, a1, a2⟩ := (R6 k hlt).2.1 s e h2
    exact ⟨i, a1, by rw [a2]; exact (R3 k hlt).2.1, (hok k hlt s e h2).2⟩
def wn (ml el : List en_E) (w : Option en_E) (v : Int32) : Prop := (v = -1000000 ∧ w = none) ∨ (∃ (i : Nat) (e : en_E), el[i]? = some e ∧ w = some e ∧ v = nI (7 * i)) ∨ (∃ (m : Nat) (e : en_E), ml[m]? = some e ∧ w = some e ∧ v = -1 - nI (7 * m))
def wb (el : List en_E) (w : Option en_E) (v : Int32) : Prop := (v = -1000000 ∧ w = none) ∨ (∃ (i : Nat) (e : en_E), el[i]? = some e ∧ w = some e ∧ v = nI (7 * i))
set_option maxHeartbeats 4000000 in
set_option maxRecDepth 100000 in
theorem c_M_winner (g : gx_T) {M : mp_M} {b : Nat} {A : Nat → Nat} {S : st_S} {ml el : List en_E} {ow mk : Nat → Nat} {marks : Nat} {f : Nat → Nat → Int32} (h : ra_M g M b A (st_cap S) (st_gr S) (st_now S) ml.length (st_log S).length (st_safe S) el.length (st_runs S).length marks f) (hl0 : lw (f 0) ml) (ht : tr ml (fun _ => True) (st_mem S)) (R : rl_r (f 2) (f 3) (f 4) (f 5) el ow mk marks (st_runs S)) (hel : el.length ≤ 520) (hml : ml.length < 24) (hmk : marks < 1000000) (hok : tb_ok (st_mem S)) (hoks : ∀ k, k < (st_runs S).length → tb_ok (st_tb (st_runs S) k)) (r c : Nat) (hr : r < 16) (hc : c < 8) : Ct g yXM_winner cXM_winner 6 (some .int) 3 [.ref b, .int (nI r), .int (nI c)] M (pi_ (fun v M' => M = M' ∧ wn ml el (st_w S (r * 8 + c)) v)) 0 0 := by
  refine ct_intro (L0 := [some (.ref b), some (.int (nI r)), some (.int (nI c)), none, none, none]) (by decide) (Nat.le_of_ble_eq_true rfl) rfl rfl (fun x C Rx I => ?_)
  obtain ⟨R1, R2, R3, R4, R5, R6⟩ := id R
  have hA0 := h.2.1 0 (by decide)
  have hA2 := h.2.1 2 (by decide)
  have hA3 := h.2.1 3 (by decide)
  have slot : ∀ e, en_ok e → (en_s e = r * 8 + c ↔ (en_k e ≠ 2 ∧ en_r e = r ∧ en_c e = c)) := by
    intro e ok
    constructor
    · intro z
      have hk := (en_s_128 ok).mp (by omega)
      rw [en_s_p hk] at z
      have a1 := ok.2.2.2.1
      have a2 := ok.2.2.1
      exact ⟨hk, by omega, by omega⟩
    · rintro ⟨z1, z2, z3⟩
      rw [en_s_p z1, z2, z3]
  have hXr : ∀ o, en_X (fun e => ∃ i, el[i]? = some e ∧ 0 < ow i ∧ en_s e = r * 8 + c) o → en_m o (st_mem S (r * 8 + c)) = st_w S (r * 8 + c) := by
    intro o ho
    refine en_X_u (S := fun e => st_mem S (r * 8 + c) = some e ∨ ∃ t, t ∈ st_runs S ∧ t.2 (r * 8 + c) = some e) (s := r * 8 + c) (fun e z => ?_) (en_X_cg (fun e => ⟨fun z => ?_, fun z => ?_⟩) (en_X_m (b := st_mem S (r * 8 + c)) ho)) (st_w_X S _)
    · rcases z with z | ⟨t, z1, z2⟩
      · exact hok _ _ z
      · obtain ⟨i, a1, a2, a3⟩ := (rl_mem R hoks).mpr ⟨t, z1, z2⟩
        exact ⟨(R1 i e a1).2, a3⟩
    · rcases z with z | z
      · exact Or.inr ((rl_mem R hoks).mp z)
      · exact Or.inl z
    · rcases z with z | z
      · exact Or.inr z
      · exact Or.inl ((rl_mem R hoks).mpr z)
  have l2 : ∀ (o : Option en_E) (v : Int32), wb el o v → en_X (fun e => ∃ i, el[i]? = some e ∧ 0 < ow i ∧ en_s e = r * 8 + c) o → ∀ (n m : Nat), m + n = ml.length → (∀ (i : Nat) (e : en_E), i < m → ml[i]? = some e → en_s e = r * 8 + c → en_m o (some e) = o) → ∀ L5, VV g x M 0 0 103 [some (.ref b), some (.int (nI r)), some (.int (nI c)), some (.int v), some (.int (nI m)), L5] [] := by
    intro o v hv ho n
    have hoS : ∀ e, o = some e → en_s e = r * 8 + c ∧ en_ok e := by
      intro e z
      subst z
      obtain ⟨i, a1, a2, a3⟩ := ho.1
      exact ⟨a3, (R1 i e a1).2⟩
    induction n with
    | zero =>
      intro m hm hno L5
      refine v_iload C 105 dXM_winner_103 rfl rfl ?_
      first | refine v_aload_n C 106 dXM_winner_105 rfl rfl ?_ | refine v_aload_nN C 106 dXM_winner_105 rfl rfl ?_ | refine v_aload_nQ C 106 dXM_winner_105 rfl rfl ?_
      refine gt_XM_42 C 109 dXM_winner_106 rfl h.1 rfl ?_
      refine v_icmp_ge C 112 189 dXM_winner_109 rfl rfl (fun h9 => ?_) (fun h9 => False.elim (by first | exact h9 (nI_le (show ml.length ≤ m by omega) (by omega)) | exact absurd h9 (nI_le (show ml.length ≤ m by omega) (by omega))))
      refine v_iload_n C 190 dXM_winner_189 rfl rfl ?_
      have hw : st_w S (r * 8 + c) = o := by
        rw [← hXr o ho]
        cases hz : st_mem S (r * 8 + c) with
        | none => cases o <;> rfl
        | some e =>
          obtain ⟨i, a1, -⟩ := ht.2.1 _ _ hz
          exact hno i e (by have := (List.getElem?_eq_some_iff.mp a1).1; omega) a1 (hok _ _ hz).2
      refine v_iret C Rx dXM_winner_190 (by omega) (by omega) ⟨_, rfl, rfl, ?_⟩
      rw [hw]
      rcases hv with z | z
      · exact Or.inl z
      · exact Or.inr (Or.inl z)
    | succ n ih =>
      intro m hm hno L5
      obtain ⟨e, he⟩ : ∃ e, ml[m]? = some e := ⟨_, List.getElem?_eq_getElem (show m < ml.length by omega)⟩
      obtain ⟨hwe, ok⟩ := hl0 m e he
      have o1 := ok.2.1
      have o2 := ok.2.2.1
      have o3 := ok.2.2.2.1
      have nxt : (en_s e = r * 8 + c → en_m o (some e) = o) → ∀ L5, VV g x M 0 0 183 [some (.ref b), some (.int (nI r)), some (.int (nI c)), some (.int v), some (.int (nI m)), L5] [] := by
        intro hz L5
        refine v_iinc C 186 _ (nI (m + 1)) dXM_winner_183 rfl rfl (nI_1 m) rfl ?_
        refine v_goto C 103 dXM_winner_186 rfl ?_
        refine ih (m + 1) (by omega) (fun i e' hi a1 a2 => ?_) _
        by_cases him : i = m
        · subst him
          cases he.symm.trans a1
          exact hz a2
        · exact hno i e' (by omega) a1 a2
      refine v_iload C 105 dXM_winner_103 rfl rfl ?_
      first | refine v_aload_n C 106 dXM_winner_105 rfl rfl ?_ | refine v_aload_nN C 106 dXM_winner_105 rfl rfl ?_ | refine v_aload_nQ C 106 dXM_winner_105 rfl rfl ?_
      refine gt_XM_42 C 109 dXM_winner_106 rfl h.1 rfl ?_
      refine v_icmp_ge C 112 189 dXM_winner_109 rfl rfl (fun h9 => False.elim (by first | exact h9 (nI_ge (show m < ml.length by omega) (by omega)) | exact absurd h9 (nI_ge (show m < ml.length by omega) (by omega)))) (fun h9 => ?_)
      refine v_bipush C 114 dXM_winner_112 rfl (nI 7) (by decide) ?_
      refine v_iload C 116 dXM_winner_114 rfl rfl ?_
      refine v_imul C 117 dXM_winner_116 rfl ?_
      refine v_top _ (.int (nI (7 * m))) (congrArg Value.int (pk_mul 7 m)) ?_
      refine v_istore C 119 _ dXM_winner_117 rfl (Nat.lt_of_lt_of_le (Nat.lt_succ_self _) (Nat.le_of_ble_eq_true rfl)) rfl ?_
      first | refine v_aload_n C 120 dXM_winner_119 rfl rfl ?_ | refine v_aload_nN C 120 dXM_winner_119 rfl rfl ?_ | refine v_aload_nQ C 120 dXM_winner_119 rfl rfl ?_
      refine gt_XM_7 C 123 dXM_winner_120 rfl h.1 rfl ?_
      refine v_iload C 125 dXM_winner_123 rfl rfl ?_
      refine v_ri 128 (cl_XM_38 C ((c_M_point g hA0 (ra_sz_lt 0) (show 7 * m < 168 by omega) hwe ok)) dXM_winner_125 rfl rfl (Nat.le_of_ble_eq_true rfl) (Nat.le_of_ble_eq_true rfl) (Nat.le_of_ble_eq_true rfl) (by omega) (by omega)) rfl (fun w M1 hv1 => ?_)
      obtain ⟨rfl, rfl⟩ := hv1
      refine v_if_eq C 131 183 dXM_winner_128 rfl rfl (fun q1 => ?_) (fun q1 => ?_)
      · rw [bI_0] at q1
        exact nxt (fun z => absurd ((slot e ok).mp z).1 (of_decide_eq_false q1)) _
      · have q1' : en_k e ≠ 2 := fun z => q1 (bI_0.mpr (decide_eq_false (fun y => y z)))
        first | refine v_aload_n C 132 dXM_winner_131 rfl rfl ?_ | refine v_aload_nN C 132 dXM_winner_131 rfl rfl ?_ | refine v_aload_nQ C 132 dXM_winner_131 rfl rfl ?_
        refine gt_XM_7 C 135 dXM_winner_132 rfl h.1 rfl ?_
        refine v_iload C 137 dXM_winner_135 rfl rfl ?_
        refine v_iconst C 138 dXM_winner_137 rfl (nI 1) (by decide) ?_
        refine v_iadd C 139 dXM_winner_138 rfl ?_
        refine v_iald C 140 dXM_winner_139 rfl hA0 (7 * m + 1) (nI_add (7 * m) 1) (show 7 * m + 1 < 168 by omega) (ra_sz_lt 0) ?_
        rw [hwe.2.1]
        refine v_iload_n C 141 dXM_winner_140 rfl rfl ?_
        refine v_icmp_ne C 144 183 dXM_winner_141 rfl rfl (fun q2 => ?_) (fun q2 => ?_)
        · exact nxt (fun z => absurd (by rw [((slot e ok).mp z).2.1]) q2) _
        · rw [nI_eq (by omega) (by omega)] at q2
          first | refine v_aload_n C 145 dXM_winner_144 rfl rfl ?_ | refine v_aload_nN C 145 dXM_winner_144 rfl rfl ?_ | refine v_aload_nQ C 145 dXM_winner_144 rfl rfl ?_
          refine gt_XM_7 C 148 dXM_winner_145 rfl h.1 rfl ?_
          refine v_iload C 150 dXM_winner_148 rfl rfl ?_
          refine v_iconst C 151 dXM_winner_150 rfl (nI 2) (by decide) ?_
          refine v_iadd C 152 dXM_winner_151 rfl ?_
          refine v_iald C 153 dXM_winner_152 rfl hA0 (7 * m + 2) (nI_add (7 * m) 2) (show 7 * m + 2 < 168 by omega) (ra_sz_lt 0) ?_
          rw [hwe.2.2.1]
          refine v_iload_n C 154 dXM_winner_153 rfl rfl ?_
          refine v_icmp_ne C 157 183 dXM_winner_154 rfl rfl (fun q3 => ?_) (fun q3 => ?_)
          · exact nxt (fun z => absurd (by rw [((slot e ok).mp z).2.2]) q3) _
          · rw [nI_eq (by omega) (by omega)] at q3
            have hse : en_s e = r * 8 + c := (slot e ok).mpr ⟨q1', q2, q3⟩
            have hme : st_mem S (r * 8 + c) = some e := by
              rw [← hse]
              exact ht.1 m e he trivial
            have yes : en_m o (some e) = some e → ∀ L5, L5 = some (.int (nI (7 * m))) → VV g x M 0 0 178 [some (.ref b), some (.int (nI r)), some (.int (nI c)), some (.int v), some (.int (nI m)), L5] [] := by
              intro hz L5 hL5
              subst hL5
              refine v_iconst C 179 dXM_winner_178 rfl (-1) (by decide) ?_
              refine v_iload C 181 dXM_winner_179 rfl rfl ?_
              refine v_isub C 182 dXM_winner_181 rfl ?_
              refine v_iret C Rx dXM_winner_182 (by omega) (by omega) ⟨_, rfl, rfl, Or.inr (Or.inr ⟨m, e, he, ?_, rfl⟩)⟩
              rw [← hXr o ho, hme]
              exact hz
            refine v_iload_n C 158 dXM_winner_157 rfl rfl ?_
            rcases hv with ⟨rfl, rfl⟩ | ⟨i, e2, a1, rfl, rfl⟩
            · refine v_if_lt C 161 178 dXM_winner_158 rfl rfl (fun h9 => ?_) (fun h9 => False.elim (by first | exact h9 ((by decide)) | exact absurd h9 ((by decide))))
              exact yes rfl _ rfl
            · have hi := (List.getElem?_eq_some_iff.mp a1).1
              obtain ⟨hw2, ok2⟩ := R1 i e2 a1
              refine v_if_lt C 161 178 dXM_winner_158 rfl rfl (fun h9 => False.elim (by first | exact h9 (nI_pos (show 7 * i < 2 ^ 31 by omega)) | exact absurd h9 (nI_pos (show 7 * i < 2 ^ 31 by omega)))) (fun h9 => ?_)
              first | refine v_aload_n C 162 dXM_winner_161 rfl rfl ?_ | refine v_aload_nN C 162 dXM_winner_161 rfl rfl ?_ | refine v_aload_nQ C 162 dXM_winner_161 rfl rfl ?_
              refine gt_XM_7 C 165 dXM_winner_162 rfl h.1 rfl ?_
              refine v_iload C 167 dXM_winner_165 rfl rfl ?_
              first | refine v_aload_n C 168 dXM_winner_167 rfl rfl ?_ | refine v_aload_nN C 168 dXM_winner_167 rfl rfl ?_ | refine v_aload_nQ C 168 dXM_winner_167 rfl rfl ?_
              refine gt_XM_16 C 171 dXM_winner_168 rfl h.1 rfl ?_
              refine v_iload_n C 172 dXM_winner_171 rfl rfl ?_
              refine v_ri 175 (cl_XM_49 C ((c_M_wins g hA0 hA2 (ra_sz_lt 0) (ra_sz_lt 2) (show 7 * m + 6 < 168 by omega) (show 7 * i + 6 < 3640 by omega) hwe hw2 ok ok2 (hse.trans (hoS e2 rfl).1.symm))) dXM_winner_172 rfl rfl (Nat.le_of_ble_eq_true rfl) (Nat.le_of_ble_eq_true rfl) (Nat.le_of_ble_eq_true rfl) (by omega) (by omega)) rfl (fun w M1 hv1 => ?_)
              obtain ⟨rfl, rfl⟩ := hv1
              refine v_if_eq C 178 183 dXM_winner_175 rfl rfl (fun q4 => ?_) (fun q4 => ?_)
              · rw [bI_0] at q4
                refine nxt (fun _ => ?_) _
                simp only [en_m, q4]
                rfl
              · have q5 : en_w e e2 = true := by
                  cases hz : en_w e e2 with
                  | true => rfl
                  | false => exact absurd (bI_0.mpr hz) q4
                exact yes (by simp only [en_m, q5, if_true]) _ rfl
  have l1 : ∀ (n E : Nat) (o : Option en_E) (v : Int32), E + n = el.length → wb el o v → en_X (fun e => ∃ i, i < E ∧ el[i]? = some e ∧ 0 < ow i ∧ en_s e = r * 8 + c) o → ∀ L5, VV g x M 0 0 6 [some (.ref b), some (.int (nI r)), some (.int (nI c)), some (.int v), some (.int (nI E)), L5] [] := by
    intro n
    induction n with
    | zero =>
      intro E o v hE hv ho L5
      refine v_iload C 8 dXM_winner_6 rfl rfl ?_
      first | refine v_aload_n C 9 dXM_winner_8 rfl rfl ?_ | refine v_aload_nN C 9 dXM_winner_8 rfl rfl ?_ | refine v_aload_nQ C 9 dXM_winner_8 rfl rfl ?_
      refine gt_XM_85 C 12 dXM_winner_9 rfl h.1 rfl ?_
      refine v_icmp_ge C 15 100 dXM_winner_12 rfl rfl (fun h9 => ?_) (fun h9 => False.elim (by first | exact h9 (nI_le (show el.length ≤ E by omega) (by omega)) | exact absurd h9 (nI_le (show el.length ≤ E by omega) (by omega))))
      refine v_iconst C 101 dXM_winner_100 rfl (nI 0) (by decide) ?_
      refine v_istore C 103 _ dXM_winner_101 rfl (Nat.lt_of_lt_of_le (Nat.lt_succ_self _) (Nat.le_of_ble_eq_true rfl)) rfl ?_
      refine l2 o v hv (en_X_cg (fun e => ⟨fun ⟨i, _, a⟩ => ⟨i, a⟩, fun ⟨i, a⟩ => ⟨i, by have := (List.getElem?_eq_some_iff.mp a.1).1; omega, a⟩⟩) ho) ml.length 0 (by omega) (fun i e hi => absurd hi (Nat.not_lt_zero i)) _
    | succ n ih =>
      intro E o v hE hv ho L5
      obtain ⟨e, he⟩ : ∃ e, el[E]? = some e := ⟨_, List.getElem?_eq_getElem (show E < el.length by omega)⟩
      obtain ⟨hwe, ok⟩ := R1 E e he
      obtain ⟨w1, w2⟩ := R2 E (by omega)
      have o1 := ok.2.1
      have o2 := ok.2.2.1
      have o3 := ok.2.2.2.1
      have hoS : ∀ e, o = some e → en_s e = r * 8 + c ∧ en_ok e := by
        intro e z
        subst z
        obtain ⟨i, _, a1, a2, a3⟩ := ho.1
        exact ⟨a3, (R1 i e a1).2⟩
      have nxt : ∀ (o' : Option en_E) (v' : Int32), wb el o' v' → en_X (fun e => ∃ i, i < E + 1 ∧ el[i]? = some e ∧ 0 < ow i ∧ en_s e = r * 8 + c) o' → ∀ L5, VV g x M 0 0 94 [some (.ref b), some (.int (nI r)), some (.int (nI c)), some (.int v'), some (.int (nI E)), L5] [] := by
        intro o' v' hv' ho' L5
        refine v_iinc C 97 _ (nI (E + 1)) dXM_winner_94 rfl rfl (nI_1 E) rfl ?_
        refine v_goto C 6 dXM_winner_97 rfl ?_
        exact ih (E + 1) o' v' (by omega) hv' ho' _
      have skip : ¬ (0 < ow E ∧ en_s e = r * 8 + c) → ∀ L5, VV g x M 0 0 94 [some (.ref b), some (.int (nI r)), some (.int (nI c)), some (.int v), some (.int (nI E)), L5] [] := by
        intro hz L5
        refine nxt o v hv (en_X_cg (fun e' => ⟨fun ⟨i, a0, a⟩ => ⟨i, by omega, a⟩, fun ⟨i, a0, a1, a2⟩ => ⟨i, ?_, a1, a2⟩⟩) ho) _
        by_cases hi : i = E
        · subst hi
          cases he.symm.trans a1
          exact absurd a2 hz
        · omega
      refine v_iload C 8 dXM_winner_6 rfl rfl ?_
      first | refine v_aload_n C 9 dXM_winner_8 rfl rfl ?_ | refine v_aload_nN C 9 dXM_winner_8 rfl rfl ?_ | refine v_aload_nQ C 9 dXM_winner_8 rfl rfl ?_
      refine gt_XM_85 C 12 dXM_winner_9 rfl h.1 rfl ?_
      refine v_icmp_ge C 15 100 dXM_winner_12 rfl rfl (fun h9 => False.elim (by first | exact h9 (nI_ge (show E < el.length by omega) (by omega)) | exact absurd h9 (nI_ge (show E < el.length by omega) (by omega)))) (fun h9 => ?_)
      refine v_bipush C 17 dXM_winner_15 rfl (nI 7) (by decide) ?_
      refine v_iload C 19 dXM_winner_17 rfl rfl ?_
      refine v_imul C 20 dXM_winner_19 rfl ?_
      refine v_top _ (.int (nI (7 * E))) (congrArg Value.int (pk_mul 7 E)) ?_
      refine v_istore C 22 _ dXM_winner_20 rfl (Nat.lt_of_lt_of_le (Nat.lt_succ_self _) (Nat.le_of_ble_eq_true rfl)) rfl ?_
      first | refine v_aload_n C 23 dXM_winner_22 rfl rfl ?_ | refine v_aload_nN C 23 dXM_winner_22 rfl rfl ?_ | refine v_aload_nQ C 23 dXM_winner_22 rfl rfl ?_
      refine gt_XM_19 C 26 dXM_winner_23 rfl h.1 rfl ?_
      refine v_iload C 28 dXM_winner_26 rfl rfl ?_
      refine v_iald C 29 dXM_winner_28 rfl hA3 E rfl (show E < 520 by omega) (ra_sz_lt 3) ?_
      rw [w1]
      refine v_if_le C 32 94 dXM_winner_29 rfl rfl (fun q0 => ?_) (fun q0 => ?_)
      · refine skip (fun z => ?_) _
        exact absurd q0 (nI_nle z.1 (by omega))
      · have q0' : 0 < ow E := by
          rcases Nat.eq_zero_or_pos (ow E) with z | z
          · rw [z] at q0
            exact absurd (Int32.le_refl _) q0
          · exact z
        first | refine v_aload_n C 33 dXM_winner_32 rfl rfl ?_ | refine v_aload_nN C 33 dXM_winner_32 rfl rfl ?_ | refine v_aload_nQ C 33 dXM_winner_32 rfl rfl ?_
        refine gt_XM_16 C 36 dXM_winner_33 rfl h.1 rfl ?_
        refine v_iload C 38 dXM_winner_36 rfl rfl ?_
        refine v_ri 41 (cl_XM_38 C ((c_M_point g hA2 (ra_sz_lt 2) (show 7 * E < 3640 by omega) hwe ok)) dXM_winner_38 rfl rfl (Nat.le_of_ble_eq_true rfl) (Nat.le_of_ble_eq_true rfl) (Nat.le_of_ble_eq_true rfl) (by omega) (by omega)) rfl (fun w M1 hv1 => ?_)
        obtain ⟨rfl, rfl⟩ := hv1
        refine v_if_eq C 44 94 dXM_winner_41 rfl rfl (fun q1 => ?_) (fun q1 => ?_)
        · rw [bI_0] at q1
          exact skip (fun z => absurd ((slot e ok).mp z.2).1 (of_decide_eq_false q1)) _
        · have q1' : en_k e ≠ 2 := fun z => q1 (bI_0.mpr (decide_eq_false (fun y => y z)))
          first | refine v_aload_n C 45 dXM_winner_44 rfl rfl ?_ | refine v_aload_nN C 45 dXM_winner_44 rfl rfl ?_ | refine v_aload_nQ C 45 dXM_winner_44 rfl rfl ?_
          refine gt_XM_16 C 48 dXM_winner_45 rfl h.1 rfl ?_
          refine v_iload C 50 dXM_winner_48 rfl rfl ?_
          refine v_iconst C 51 dXM_winner_50 rfl (nI 1) (by decide) ?_
          refine v_iadd C 52 dXM_winner_51 rfl ?_
          refine v_iald C 53 dXM_winner_52 rfl hA2 (7 * E + 1) (nI_add (7 * E) 1) (show 7 * E + 1 < 3640 by omega) (ra_sz_lt 2) ?_
          rw [hwe.2.1]
          refine v_iload_n C 54 dXM_winner_53 rfl rfl ?_
          refine v_icmp_ne C 57 94 dXM_winner_54 rfl rfl (fun q2 => ?_) (fun q2 => ?_)
          · exact skip (fun z => absurd (by rw [((slot e ok).mp z.2).2.1]) q2) _
          · rw [nI_eq (by omega) (by omega)] at q2
            first | refine v_aload_n C 58 dXM_winner_57 rfl rfl ?_ | refine v_aload_nN C 58 dXM_winner_57 rfl rfl ?_ | refine v_aload_nQ C 58 dXM_winner_57 rfl rfl ?_
            refine gt_XM_16 C 61 dXM_winner_58 rfl h.1 rfl ?_
            refine v_iload C 63 dXM_winner_61 rfl rfl ?_
            refine v_iconst C 64 dXM_winner_63 rfl (nI 2) (by decide) ?_
            refine v_iadd C 65 dXM_winner_64 rfl ?_
            refine v_iald C 66 dXM_winner_65 rfl hA2 (7 * E + 2) (nI_add (7 * E) 2) (show 7 * E + 2 < 3640 by omega) (ra_sz_lt 2) ?_
            rw [hwe.2.2.1]
            refine v_iload_n C 67 dXM_winner_66 rfl rfl ?_
            refine v_icmp_ne C 70 94 dXM_winner_67 rfl rfl (fun q3 => ?_) (fun q3 => ?_)
            · exact skip (fun z => absurd (by rw [((slot e ok).mp z.2).2.2]) q3) _
            · rw [nI_eq (by omega) (by omega)] at q3
              have hse : en_s e = r * 8 + c := (slot e ok).mpr ⟨q1', q2, q3⟩
              have hX : en_X (fun e => ∃ i, i < E + 1 ∧ el[i]? = some e ∧ 0 < ow i ∧ en_s e = r * 8 + c) (en_m o (some e)) := by
                refine en_X_cg (fun e' => ⟨fun z => ?_, fun ⟨i, a0, a1, a2⟩ => ?_⟩) (en_X_m (b := some e) ho)
                · rcases z with ⟨i, a0, a⟩ | z
                  · exact ⟨i, by omega, a⟩
                  · cases z
                    exact ⟨E, by omega, he, q0', hse⟩
                · by_cases hi : i = E
                  · subst hi
                    exact Or.inr (he.symm.trans a1)
                  · exact Or.inl ⟨i, by omega, a1, a2⟩
              have yes : en_m o (some e) = some e → ∀ L5, L5 = some (.int (nI (7 * E))) → VV g x M 0 0 91 [some (.ref b), some (.int (nI r)), some (.int (nI c)), some (.int v), some (.int (nI E)), L5] [] := by
                intro hz L5 hL5
                subst hL5
                refine v_iload C 93 dXM_winner_91 rfl rfl ?_
                refine v_istore_n C 94 _ dXM_winner_93 rfl (Nat.lt_of_lt_of_le (Nat.lt_succ_self _) (Nat.le_of_ble_eq_true rfl)) rfl ?_
                exact nxt (some e) _ (Or.inr ⟨E, e, he, rfl, rfl⟩) (hz ▸ hX) _
              refine v_iload_n C 71 dXM_winner_70 rfl rfl ?_
              rcases hv with ⟨rfl, rfl⟩ | ⟨i, e2, a1, rfl, rfl⟩
              · refine v_if_lt C 74 91 dXM_winner_71 rfl rfl (fun h9 => ?_) (fun h9 => False.elim (by first | exact h9 ((by decide)) | exact absurd h9 ((by decide))))
                exact yes rfl _ rfl
              · have hi := (List.getElem?_eq_some_iff.mp a1).1
                obtain ⟨hw2, ok2⟩ := R1 i e2 a1
                refine v_if_lt C 74 91 dXM_winner_71 rfl rfl (fun h9 => False.elim (by first | exact h9 (nI_pos (show 7 * i < 2 ^ 31 by omega)) | exact absurd h9 (nI_pos (show 7 * i < 2 ^ 31 by omega)))) (fun h9 => ?_)
                first | refine v_aload_n C 75 dXM_winner_74 rfl rfl ?_ | refine v_aload_nN C 75 dXM_winner_74 rfl rfl ?_ | refine v_aload_nQ C 75 dXM_winner_74 rfl rfl ?_
                refine gt_XM_16 C 78 dXM_winner_75 rfl h.1 rfl ?_
                refine v_iload C 80 dXM_winner_78 rfl rfl ?_
                first | refine v_aload_n C 81 dXM_winner_80 rfl rfl ?_ | refine v_aload_nN C 81 dXM_winner_80 rfl rfl ?_ | refine v_aload_nQ C 81 dXM_winner_80 rfl rfl ?_
                refine gt_XM_16 C 84 dXM_winner_81 rfl h.1 rfl ?_
                refine v_iload_n C 85 dXM_winner_84 rfl rfl ?_
                refine v_ri 88 (cl_XM_49 C ((c_M_wins g hA2 hA2 (ra_sz_lt 2) (ra_sz_lt 2) (show 7 * E + 6 < 3640 by omega) (show 7 * i + 6 < 3640 by omega) hwe hw2 ok ok2 (hse.trans (hoS e2 rfl).1.symm))) dXM_winner_85 rfl rfl (Nat.le_of_ble_eq_true rfl) (Nat.le_of_ble_eq_true rfl) (Nat.le_of_ble_eq_true rfl) (by omega) (by omega)) rfl (fun w M1 hv1 => ?_)
                obtain ⟨rfl, rfl⟩ := hv1
                refine v_if_eq C 91 94 dXM_winner_88 rfl rfl (fun q4 => ?_) (fun q4 => ?_)
                · rw [bI_0] at q4
                  have hz : en_m (some e2) (some e) = some e2 := by
                    simp only [en_m, q4]
                    rfl
                  exact nxt (some e2) _ (Or.inr ⟨i, e2, a1, rfl, rfl⟩) (hz ▸ hX) _
                · have q5 : en_w e e2 = true := by
                    cases hz : en_w e e2 with
                    | true => rfl
                    | false => exact absurd (bI_0.mpr hz) q4
                  exact yes (by simp only [en_m, q5, if_true]) _ rfl
  refine ld_XM_106 C 2 dXM_winner_0 rfl ?_
  refine v_istore_n C 3 _ dXM_winner_2 rfl (Nat.lt_of_lt_of_le (Nat.lt_succ_self _) (Nat.le_of_ble_eq_true rfl)) rfl ?_
  refine v_iconst C 4 dXM_winner_3 rfl (nI 0) (by decide) ?_
  refine v_istore C 6 _ dXM_winner_4 rfl (Nat.lt_of_lt_of_le (Nat.lt_succ_self _) (Nat.le_of_ble_eq_true rfl)) rfl ?_
  exact l1 el.length 0 none (-1000000) (by omega) (Or.inl ⟨rfl, rfl⟩) (fun e z => by obtain ⟨i, a, -⟩ := z; omega) _

