/-! the class's calls that have loops of their own -/
section CL6
variable {S : ex_S} {N : Nat} {sc : Nat → Int32} {ar : Nat → Nat → Int32} {X : xs_T}
def x_lia (L : Nat → List Nat) (a : Int32) : Nat := if x_any (L 0) a = true then 1 else if x_any (L 1) a = true then 2 else if x_any (L 2) a = true then 3 else if x_any (L 3) a = true then 4 else 0
theorem f_list_loop (hr : r_x N sc ar X) (a : Int32) : ∀ d k, 4 - k = d → k ≤ 4 → (∀ j, j < k → ¬ x_any (x_L X j) a = true) → ex_big S 28 2 [.inr 2, .inl a, .inl (nI k)] [] (mk_W N sc ar) 0 0 = some (some (nI (x_lia (x_L X) a)), mk_W N sc ar) := by
  have hL := hr.2.2.2.2.2.2.1
  have z10 : ¬ (1 : Int32) = 0 := by decide
  intro d
  induction d with
  | zero =>
    intro k hd hk hb
    have hk4 : k = 4 := by omega
    subst hk4
    have h3 : nI 4 ≤ nI 4 := by decide
    have q : x_lia (x_L X) a = 0 := by
      unfold x_lia
      rw [if_neg (hb 0 (by omega)), if_neg (hb 1 (by omega)), if_neg (hb 2 (by omega)), if_neg (hb 3 (by omega))]
    rw [e_28_2, q, nI_0]
    simp only [e_28_3, e_28_4, e_28_7, e_28_8, e_28_11, e_28_12, e_28_15, e_28_16, e_28_17, e_28_18, e_28_21, e_28_24, e_28_25, e_28_26, e_28_27, e_28_28, e_28_31, e_28_34, e_28_35, List.length_cons, List.length_nil, Nat.reduceAdd, Nat.reduceLeDiff, Nat.zero_le, Option.bind_some, ck_28_3, rk_28, rl_n, rl_s, wg_0_9, wl_17, if_pos h3]
  | succ d ih =>
    intro k hd hk hb
    have hk4 : k < 4 := by omega
    have h3 : ¬ nI 4 ≤ nI k := nI_ge hk4 (by omega)
    have e1 := sm_has (S := S) (N := N) hk4 (hL k hk4) a
    rw [e_28_2]
    by_cases hx : x_any (x_L X k) a = true
    · have q : x_lia (x_L X) a = k + 1 := by
        unfold x_lia
        rcases (show k = 0 ∨ k = 1 ∨ k = 2 ∨ k = 3 by omega) with rfl | rfl | rfl | rfl
        · rw [if_pos hx]
        · rw [if_neg (hb 0 (by omega)), if_pos hx]
        · rw [if_neg (hb 0 (by omega)), if_neg (hb 1 (by omega)), if_pos hx]
        · rw [if_neg (hb 0 (by omega)), if_neg (hb 1 (by omega)), if_neg (hb 2 (by omega)), if_pos hx]
      rw [if_pos hx] at e1
      rw [q]
      simp only [e_28_3, e_28_4, e_28_7, e_28_8, e_28_11, e_28_12, e_28_15, e_28_16, e_28_17, e_28_18, e_28_21, e_28_24, e_28_25, e_28_26, e_28_27, e_28_28, e_28_31, e_28_34, e_28_35, List.length_cons, List.length_nil, Nat.reduceAdd, Nat.reduceLeDiff, Nat.zero_le, Option.bind_some, ck_28_3, rk_28, rl_n, rl_s, wg_0_9, wl_17, if_neg h3, bl_rq hk4, bl_ob hk4, e1, if_neg z10, nI_1]
    · have ihk := ih (k + 1) (by omega) (by omega) (fun j hj => by
        by_cases hjk : j = k
        · subst hjk; exact hx
        · exact hb j (by omega))
      rw [if_neg hx] at e1
      simp only [e_28_3, e_28_4, e_28_7, e_28_8, e_28_11, e_28_12, e_28_15, e_28_16, e_28_17, e_28_18, e_28_21, e_28_24, e_28_25, e_28_26, e_28_27, e_28_28, e_28_31, e_28_34, e_28_35, List.length_cons, List.length_nil, Nat.reduceAdd, Nat.reduceLeDiff, Nat.zero_le, Option.bind_some, ck_28_3, rk_28, rl_n, rl_s, wg_0_9, wl_17, if_neg h3, bl_rq hk4, bl_ob hk4, e1, if_true, nI_1, ihk]
theorem f_list (hr : r_x N sc ar X) (a1 a2 : Int32) : ex_big S 28 0 [.inr 2, .inl a1, .inr 0] [] (mk_W N sc ar) 0 0 = some (some (x_ans 13 a1 a2 X), mk_W N sc ar) := by
  have hL := hr.2.2.2.2.2.2.1
  have e := f_list_loop (S := S) hr a1 4 0 (by omega) (by omega) (fun j hj => absurd hj (Nat.not_lt_zero j))
  rw [nI_0] at e
  have q : x_ans 13 a1 a2 X = nI (x_lia (x_L X) a1) := by
    unfold x_ans
    cases hb : x_blk a1 with
    | none =>
      have hn := c_notblock (x_blk_none hb)
      have hf : ∀ i, i < 4 → ¬ x_any (x_L X i) a1 = true := by
        intro i hi h
        unfold x_any at h
        rw [List.any_eq_true] at h
        obtain ⟨c, hc, he⟩ := h
        have he : nI c = a1 := by simpa using he
        exact hn c ((hL i hi).2.2.2 c hc) he.symm
      unfold x_lia
      rw [if_neg (hf 0 (by omega)), if_neg (hf 1 (by omega)), if_neg (hf 2 (by omega)), if_neg (hf 3 (by omega)), nI_0]
      rfl
    | some b =>
      obtain ⟨rfl, hb16⟩ := x_blk_some hb
      have h0 := x_any_iff (hL 0 (by omega)).2.2.2 hb16
      have h1 := x_any_iff (hL 1 (by omega)).2.2.2 hb16
      have h2 := x_any_iff (hL 2 (by omega)).2.2.2 hb16
      have h3 := x_any_iff (hL 3 (by omega)).2.2.2 hb16
      unfold x_lia x_li
      simp only [h0, h1, h2, h3]
  rw [q]
  simp only [e_28_0, e_28_1, Nat.reduceAdd, e]
theorem f_member (hr : r_x N sc ar X) (a1 a2 : Int32) : ex_big S 29 0 [.inr 2, .inl a1, .inl a2] [] (mk_W N sc ar) 0 0 = some (some (x_ans 14 a1 a2 X), mk_W N sc ar) := by
  have hL := hr.2.2.2.2.2.2.1
  unfold x_ans
  cases hb : x_lst a1 with
  | none =>
    by_cases h1 : a1 < 1
    · simp only [e_29_0, e_29_1, e_29_2, e_29_5, e_29_6, e_29_7, e_29_10, e_29_11, e_29_14, e_29_15, e_29_16, e_29_17, e_29_20, e_29_21, e_29_22, e_29_23, e_29_24, e_29_25, e_29_28, List.length_cons, List.length_nil, Nat.reduceAdd, Nat.reduceLeDiff, Nat.zero_le, Option.bind_some, ck_29_2, rk_29, rl_n, rl_s, if_pos h1]
    · have h2 : nI 4 < a1 := (x_lst_none hb).resolve_left h1
      have h3 : ¬ a1 ≤ nI 4 := fun q => Int32.lt_irrefl (Int32.lt_of_lt_of_le h2 q)
      simp only [e_29_0, e_29_1, e_29_2, e_29_5, e_29_6, e_29_7, e_29_10, e_29_11, e_29_14, e_29_15, e_29_16, e_29_17, e_29_20, e_29_21, e_29_22, e_29_23, e_29_24, e_29_25, e_29_28, List.length_cons, List.length_nil, Nat.reduceAdd, Nat.reduceLeDiff, Nat.zero_le, Option.bind_some, ck_29_2, rk_29, rl_n, rl_s, if_neg h1, wg_0_9, wl_17, if_neg h3]
  | some i =>
    obtain ⟨rfl, hi⟩ := x_lst_some hb
    have h1 : ¬ nI (i + 1) < 1 := nI_nlt (b := 1) (by omega) (by omega)
    have h3 : nI (i + 1) ≤ nI 4 := nI_le (by omega) (by omega)
    have hl := hL i hi
    have hlen := hl.2.1
    unfold x_at
    by_cases hk : a2 < 0 ∨ nI (x_L X i).length ≤ a2
    · have e1 := sm_at_out (S := S) (N := N) hi hl hk
      simp only [if_pos hk, e_29_0, e_29_1, e_29_2, e_29_5, e_29_6, e_29_7, e_29_10, e_29_11, e_29_14, e_29_15, e_29_16, e_29_17, e_29_20, e_29_21, e_29_22, e_29_23, e_29_24, e_29_25, e_29_28, List.length_cons, List.length_nil, Nat.reduceAdd, Nat.reduceLeDiff, Nat.zero_le, Option.bind_some, ck_29_2, rk_29, rl_n, rl_s, if_neg h1, wg_0_9, wl_17, if_pos h3, nI_pred, bl_rq hi, bl_ob hi, e1]
    · rcases pk_ix a2 (n := (x_L X i).length) (by omega) with g | g | ⟨j, hj, rfl⟩
      · exact absurd (Or.inl g) hk
      · exact absurd (Or.inr g) hk
      · have e1 := sm_at_in (S := S) (N := N) hi hl (k := j) (b := (x_L X i).getD j 0) (by rw [List.getElem?_eq_getElem hj]; simp [hj])
        simp only [if_neg hk, nI_clamp (show j < 2 ^ 31 by omega), e_29_0, e_29_1, e_29_2, e_29_5, e_29_6, e_29_7, e_29_10, e_29_11, e_29_14, e_29_15, e_29_16, e_29_17, e_29_20, e_29_21, e_29_22, e_29_23, e_29_24, e_29_25, e_29_28, List.length_cons, List.length_nil, Nat.reduceAdd, Nat.reduceLeDiff, Nat.zero_le, Option.bind_some, ck_29_2, rk_29, rl_n, rl_s, if_neg h1, wg_0_9, wl_17, if_pos h3, nI_pred, bl_rq hi, bl_ob hi, e1]
def p_fc (X : xs_T) (k : Nat) : Nat := ((List.range k).filter (x_free X)).length
theorem p_fc_s (X : xs_T) (k : Nat) : p_fc X (k + 1) = p_fc X k + (if x_free X k = true then 1 else 0) := by
  unfold p_fc
  rw [List.range_succ, List.filter_append, List.length_append]
  congr 1
  by_cases h : x_free X k = true
  · simp [h]
  · simp [h]
theorem f_free_loop (hr : r_x N sc ar X) : ∀ d k, N - k = d → k ≤ N → ex_big S 31 4 [.inr 2, .inl (nI (p_fc X k)), .inl (nI k)] [] (mk_W N sc ar) 0 0 = some (some (nI (p_fc X N)), mk_W N sc ar) := by
  have hN := r_x_N14 hr
  have z10 : ¬ (1 : Int32) = 0 := by decide
  intro d
  induction d with
  | zero =>
    intro k hd hk
    have h3 : nI N ≤ nI k := nI_le (by omega) (by omega)
    have hkN : k = N := by omega
    subst hkN
    rw [e_31_4]
    simp only [e_31_5, e_31_6, e_31_9, e_31_10, e_31_13, e_31_14, e_31_15, e_31_18, e_31_21, e_31_24, e_31_27, e_31_30, e_31_31, List.length_cons, List.length_nil, Nat.reduceAdd, Nat.reduceLeDiff, Nat.zero_le, Option.bind_some, ck_31_45, rk_31, rl_n, rl_s, wg_0_2, wl_2, if_pos h3]
  | succ d ih =>
    intro k hd hk
    have hlt : k < N := by omega
    have h3 : ¬ nI N ≤ nI k := nI_ge hlt (by omega)
    have ihk := ih (k + 1) (by omega) (by omega)
    rw [p_fc_s] at ihk
    have e1 := c_isFree (S := S) hr hlt
    rw [e_31_4]
    by_cases hg : x_free X k = true
    · rw [if_pos hg] at ihk e1
      simp only [e_31_5, e_31_6, e_31_9, e_31_10, e_31_13, e_31_14, e_31_15, e_31_18, e_31_21, e_31_24, e_31_27, e_31_30, e_31_31, List.length_cons, List.length_nil, Nat.reduceAdd, Nat.reduceLeDiff, Nat.zero_le, Option.bind_some, ck_31_45, rk_31, rl_n, rl_s, wg_0_2, wl_2, wo_0, if_neg h3, e1, if_neg z10, nI_1, ihk]
    · rw [if_neg hg] at e1
      rw [if_neg hg, Nat.add_zero (p_fc X k)] at ihk
      simp only [e_31_5, e_31_6, e_31_9, e_31_10, e_31_13, e_31_14, e_31_15, e_31_18, e_31_21, e_31_24, e_31_27, e_31_30, e_31_31, List.length_cons, List.length_nil, Nat.reduceAdd, Nat.reduceLeDiff, Nat.zero_le, Option.bind_some, ck_31_45, rk_31, rl_n, rl_s, wg_0_2, wl_2, wo_0, if_neg h3, e1, if_true, nI_1, ihk]
theorem f_free (hr : r_x N sc ar X) (a1 a2 : Int32) : ex_big S 31 0 [.inr 2, .inr 0, .inr 0] [] (mk_W N sc ar) 0 0 = some (some (x_ans 16 a1 a2 X), mk_W N sc ar) := by
  have e := f_free_loop (S := S) hr N 0 (by omega) (by omega)
  have e0 : p_fc X 0 = 0 := rfl
  have e1 : nI (p_fc X N) = x_ans 16 a1 a2 X := by
    show nI ((List.range N).filter (x_free X)).length = nI ((List.range (2 * x_C X)).filter (x_free X)).length
    rw [hr.1.1]
  rw [e0, nI_0, e1] at e
  simp only [e_31_0, e_31_1, e_31_2, e_31_3, Nat.reduceAdd, e]
/-- the blocks of the first k slots -/
def x_ofk (k : Nat) (js : Nat → Option Nat) : List Nat := (List.range k).filterMap (fun s => (List.range 16).find? (fun b => js b == some s))
theorem x_ofk_s (k : Nat) (js : Nat → Option Nat) : x_ofk (k + 1) js = x_ofk k js ++ ((List.range 16).find? (fun b => js b == some k)).toList := by
  unfold x_ofk
  rw [List.range_succ (n := k), List.filterMap_append]
  congr 1
theorem f_crash_loop (hi : x_iv X) : ∀ d k sc ar, N - k = d → k ≤ N → r_x N sc ar (x_setL 0 (x_ofk k (x_js X)) (x_noL (x_setP (x_js X) (x_jd X) X))) → ∃ sc' ar', ex_big S 20 17 [.inr 2, .inl (nI k)] [] (mk_W N sc ar) 0 0 = some (some (nI (x_ofk N (x_js X)).length), mk_W N sc' ar') ∧ r_x N sc' ar' (x_setL 0 (x_ofk N (x_js X)) (x_noL (x_setP (x_js X) (x_jd X) X))) ∧ s_M sc ar sc' ar' := by
  intro d
  induction d with
  | zero =>
    intro k sc ar hd hk hr
    have hN := r_x_N14 hr
    have h3 : nI N ≤ nI k := nI_le (by omega) (by omega)
    have hkN : k = N := by omega
    subst hkN
    have hl0 : r_ls (ar 6) (sc 5) (x_ofk k (x_js X)) := hr.2.2.2.2.2.2.1 0 (by omega)
    refine ⟨sc, ar, ?_, hr, s_M_rf⟩
    rw [e_20_17]
    simp only [e_20_18, e_20_19, e_20_22, e_20_25, e_20_26, e_20_29, e_20_30, e_20_33, e_20_36, e_20_37, e_20_38, e_20_39, e_20_42, e_20_43, e_20_46, e_20_47, e_20_50, e_20_53, e_20_54, e_20_55, e_20_58, e_20_61, e_20_64, e_20_65, e_20_68, e_20_71, List.length_cons, List.length_nil, Nat.reduceAdd, Nat.reduceLeDiff, Nat.zero_le, Option.bind_some, ck_20_1, ck_20_4, rk_20, rl_n, rl_s, wg_0_3, wg_3_0, wl_4, if_pos h3, wg_0_5, wo_9, sm_size_0, hl0.1]
  | succ d ih =>
    intro k sc ar hd hk hr
    have hN := r_x_N14 hr
    have hlt : k < N := by omega
    have h3 : ¬ nI N ≤ nI k := nI_ge hlt (by omega)
    have h5 : r_pl N (ar 2) (ar 3) (x_js X) (x_jd X) := hr.2.2.2.2.1
    have hl0 : r_ls (ar 6) (sc 5) (x_ofk k (x_js X)) := hr.2.2.2.2.2.2.1 0 (by omega)
    rw [e_20_17]
    cases hf : (List.range 16).find? (fun b => x_js X b == some k) with
    | none =>
      have hno : ar 2 k = -1 := (h5.2.1 k hlt (fun b hb => by
        have := List.find?_eq_none.mp hf b (List.mem_range.mpr (h5.1 b k hb).1)
        simp [hb] at this)).1
      have hs : x_ofk (k + 1) (x_js X) = x_ofk k (x_js X) := by rw [x_ofk_s, hf]; simp
      obtain ⟨sc2, ar2, e2, r2, m2⟩ := ih (k + 1) sc ar (by omega) (by omega) (by rw [hs]; exact hr)
      refine ⟨sc2, ar2, ?_, r2, m2⟩
      simp only [e_20_18, e_20_19, e_20_22, e_20_25, e_20_26, e_20_29, e_20_30, e_20_33, e_20_36, e_20_37, e_20_38, e_20_39, e_20_42, e_20_43, e_20_46, e_20_47, e_20_50, e_20_53, e_20_54, e_20_55, e_20_58, e_20_61, List.length_cons, List.length_nil, Nat.reduceAdd, Nat.reduceLeDiff, Nat.zero_le, Option.bind_some, ck_20_4, rl_n, rl_s, wg_0_3, wg_3_0, wl_4, if_neg h3, wr_4 hlt hN, if_pos hno, nI_1, e2]
    | some b =>
      have hb : x_js X b = some k := by simpa using List.find?_some hf
      obtain ⟨k1, k2, k3, k4⟩ := h5.1 b k hb
      have hs : x_ofk (k + 1) (x_js X) = x_ofk k (x_js X) ++ [b] := by rw [x_ofk_s, hf]; rfl
      have hnot : b ∉ x_ofk k (x_js X) := by
        intro hm
        obtain ⟨s, hs1, hs2⟩ := List.mem_filterMap.mp hm
        have h1 : x_js X b = some s := by simpa using List.find?_some hs2
        rw [hb] at h1
        have h2 := List.mem_range.mp hs1
        have := Option.some.inj h1
        omega
      have hnd : (x_ofk k (x_js X)).Nodup := by
        have := x_ofslots_nodup (C := x_C X) (js := x_js X)
        refine List.Pairwise.filterMap _ ?_ (List.nodup_range (n := k))
        intro s t hst c hc c2 hc2 e
        subst e
        have e1 : x_js X c = some s := by simpa using List.find?_some hc
        have e2 : x_js X c = some t := by simpa using List.find?_some hc2
        exact hst (Option.some.inj (e1.symm.trans e2))
      have h16 : (x_ofk k (x_js X)).length < 16 := by
        have h1 : (b :: x_ofk k (x_js X)).Nodup := List.nodup_cons.mpr ⟨hnot, hnd⟩
        have h2 := xl_le _ (List.range 16) h1 (fun a ha => by
          rcases List.mem_cons.mp ha with rfl | ha
          · exact List.mem_range.mpr k1
          · exact List.mem_range.mpr (hl0.2.2.2 a ha))
        rw [List.length_range, List.length_cons] at h2
        omega
      obtain ⟨e1, hl2⟩ := sm_add_0 (S := S) (N := N) hl0 k1 h16
      have r1 := r_x_L hr (i := 0) (by omega) hl2
      have q : x_setL 0 (x_ofk k (x_js X) ++ [b]) (x_setL 0 (x_ofk k (x_js X)) (x_noL (x_setP (x_js X) (x_jd X) X))) = x_setL 0 (x_ofk (k + 1) (x_js X)) (x_noL (x_setP (x_js X) (x_jd X) X)) := by
        rw [hs]
        unfold x_setL
        rw [show x_L (x_C (x_noL (x_setP (x_js X) (x_jd X) X)), x_st (x_noL (x_setP (x_js X) (x_jd X) X)), x_nu (x_noL (x_setP (x_js X) (x_jd X) X)), x_sl (x_noL (x_setP (x_js X) (x_jd X) X)), x_dt (x_noL (x_setP (x_js X) (x_jd X) X)), x_js (x_noL (x_setP (x_js X) (x_jd X) X)), x_jd (x_noL (x_setP (x_js X) (x_jd X) X)), x_up (x_L (x_noL (x_setP (x_js X) (x_jd X) X))) 0 (x_ofk k (x_js X)), x_go (x_noL (x_setP (x_js X) (x_jd X) X)), x_ep (x_noL (x_setP (x_js X) (x_jd X) X)), x_dr (x_noL (x_setP (x_js X) (x_jd X) X)), x_hi (x_noL (x_setP (x_js X) (x_jd X) X))) = x_up (x_L (x_noL (x_setP (x_js X) (x_jd X) X))) 0 (x_ofk k (x_js X)) from rfl, xu_u]
        rfl
      rw [q] at r1
      obtain ⟨sc2, ar2, e2, r2, m2⟩ := ih (k + 1) _ _ (by omega) (by omega) r1
      have q3 : ¬ nI b = -1 := nI_ne_m1 (by omega)
      refine ⟨sc2, ar2, ?_, r2, s_M_tr (s_M_sa (by omega) (by omega) _ _) m2⟩
      have e2 : ex_big S 20 17 [.inr 2, .inl (nI (k + 1))] [] (mk_W N (upd sc 5 (nI ((x_ofk k (x_js X)).length + 1))) (x_up ar 6 (upd (ar 6) (x_ofk k (x_js X)).length (nI b)))) 0 0 = some (some (nI (x_ofk N (x_js X)).length), mk_W N sc2 ar2) := e2
      simp only [e_20_18, e_20_19, e_20_22, e_20_25, e_20_26, e_20_29, e_20_30, e_20_33, e_20_36, e_20_37, e_20_38, e_20_39, e_20_42, e_20_43, e_20_46, e_20_47, e_20_50, e_20_53, e_20_54, e_20_55, e_20_58, e_20_61, List.length_cons, List.length_nil, Nat.reduceAdd, Nat.reduceLeDiff, Nat.zero_le, Option.bind_some, ck_20_4, rl_n, rl_s, wg_0_3, wg_3_0, wl_4, if_neg h3, wr_4 hlt hN, k3, if_neg q3, wg_0_5, wo_9, e1, nI_1, e2]
theorem f_crash (hr : r_x N sc ar X) (hi : x_iv X) (a1 a2 : Int32) : ∃ sc' ar', ex_big S 20 0 [.inr 2, .inr 0] [] (mk_W N sc ar) 0 0 = some (some (x_ans 5 a1 a2 X), mk_W N sc' ar') ∧ r_x N sc' ar' (x_nxt 5 a1 a2 X) ∧ s_M sc ar sc' ar' := by
  have hN := r_x_N14 hr
  have h2 : r_pl N (p_cp N (ar 2) (ar 4)) (p_cp N (ar 3) (ar 5)) (x_js X) (x_jd X) := r_pl_cp hr.2.2.2.2.2.1 (fun s hs => if_pos hs) (fun s hs => if_pos hs)
  have r1 := r_x_P0 hr h2
  obtain ⟨sc1, ar1, e1, r1, m1⟩ := c_forgetLists (S := S) r1
  have r2 : r_x N sc1 ar1 (x_setL 0 (x_ofk 0 (x_js X)) (x_noL (x_setP (x_js X) (x_jd X) X))) := by
    refine r_x_Lc (L := x_up (x_L (x_noL (x_setP (x_js X) (x_jd X) X))) 0 (x_ofk 0 (x_js X))) r1 (fun j hj => ?_)
    unfold x_up
    split <;> rfl
  obtain ⟨sc2, ar2, e2, r3, m2⟩ := f_crash_loop (S := S) (N := N) hi N 0 sc1 ar1 (by omega) (by omega) r2
  have hq : x_ofk N (x_js X) = x_ofslots (x_C X) (x_js X) := by
    unfold x_ofk x_ofslots
    rw [hr.1.1]
  rw [hq] at e2 r3
  rw [nI_0] at e2
  have hx : x_nxt 5 a1 a2 X = x_setL 0 (x_ofslots (x_C X) (x_js X)) (x_noL (x_setP (x_js X) (x_jd X) X)) := rfl
  refine ⟨sc2, ar2, ?_, by rw [hx]; exact r3, s_M_tr (s_M_P (by omega) _ _) (s_M_tr m1 m2)⟩
  simp only [e_20_0, e_20_1, e_20_4, e_20_5, e_20_8, e_20_11, e_20_12, e_20_15, e_20_16, List.length_cons, List.length_nil, Nat.reduceAdd, Nat.reduceLeDiff, Nat.zero_le, Option.bind_some, ck_20_10, ck_20_41, rl_n, rl_s, wg_0_3, wg_0_4, wo_0, wo_3, sm_become_hj hN, e1, e2]
  rfl
end CL6
