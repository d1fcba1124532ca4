/-! what each call answers, and the state behind it -/
def x_blk (x : Int32) : Option Nat := if x < 0 ∨ nI 16 ≤ x then none else some x.toNatClampNeg
theorem x_blk_some {x : Int32} {b : Nat} (h : x_blk x = some b) : x = nI b ∧ b < 16 := by
  unfold x_blk at h
  split at h
  · cases h
  · rename_i hc
    rcases pk_ix x (n := 16) (by omega) with h1 | h1 | ⟨j, hj, rfl⟩
    · exact absurd (Or.inl h1) hc
    · exact absurd (Or.inr h1) hc
    · have := Option.some.inj h
      rw [nI_clamp (by omega)] at this
      subst this
      exact ⟨rfl, hj⟩
theorem x_blk_none {x : Int32} (h : x_blk x = none) : x < 0 ∨ nI 16 ≤ x := by
  unfold x_blk at h
  split at h
  · assumption
  · cases h
def x_li (L : Nat → List Nat) (b : Nat) : Nat := if b ∈ L 0 then 1 else if b ∈ L 1 then 2 else if b ∈ L 2 then 3 else if b ∈ L 3 then 4 else 0
def x_lst (x : Int32) : Option Nat := if x < 1 ∨ nI 4 < x then none else some (x.toNatClampNeg - 1)
theorem x_lst_some {x : Int32} {i : Nat} (h : x_lst x = some i) : x = nI (i + 1) ∧ i < 4 := by
  unfold x_lst at h
  split at h
  · cases h
  · rename_i hc
    rcases pk_ix x (n := 5) (by omega) with h1 | h1 | ⟨j, hj, rfl⟩
    · exact absurd (Or.inl (Int32.lt_trans h1 (by decide))) hc
    · refine absurd (Or.inr ?_) hc
      exact Int32.lt_of_lt_of_le (show nI 4 < nI 5 by decide) h1
    · have h2 := Option.some.inj h
      rw [nI_clamp (by omega)] at h2
      have h0 : j ≠ 0 := by
        intro q
        subst q
        exact hc (Or.inl (by decide))
      exact ⟨by rw [← h2, Nat.sub_add_cancel (by omega)], by omega⟩
theorem x_lst_none {x : Int32} (h : x_lst x = none) : x < 1 ∨ nI 4 < x := by
  unfold x_lst at h
  split at h
  · assumption
  · cases h
def x_at (l : List Nat) (k : Int32) : Int32 := if k < 0 ∨ nI l.length ≤ k then -1 else nI (l.getD k.toNatClampNeg 0)
/-- the answers: command, two arguments -/
def x_ans (c : Nat) (a1 a2 : Int32) (X : xs_T) : Int32 := match c with
  | 0 => match x_blk a1 with
    | some b => x_says (x_access b X) b
    | none => 0
  | 1 => match x_blk a1 with
    | some b => nI (x_slot (x_access b X))
    | none => -1
  | 2 => nI (x_ep X + 1)
  | 3 => e_o (x_first (x_dt X) (x_ep X))
  | 4 => nI (x_elig (x_dt X) (x_ep X + 1)).length
  | 5 => nI (x_ofslots (x_C X) (x_js X)).length
  | 6 => nI (x_cnt (x_dt X))
  | 7 => x_b (x_hi X)
  | 8 => match x_blk a1 with
    | some b => x_says X b
    | none => 0
  | 9 => match x_blk a1 with
    | some b => x_st X b
    | none => 0
  | 10 => match x_blk a1 with
    | some b => e_o (x_sl X b)
    | none => -1
  | 11 => match x_blk a1 with
    | some b => e_o (x_js X b)
    | none => -1
  | 12 => match x_blk a1 with
    | some b => e_o (x_dt X b)
    | none => -1
  | 13 => match x_blk a1 with
    | some b => nI (x_li (x_L X) b)
    | none => 0
  | 14 => match x_lst a1 with
    | some i => x_at (x_L X i) a2
    | none => -1
  | 15 => nI (x_go X)
  | 16 => nI (x_frees X).length
  | _ => x_dr X
def x_nxt (c : Nat) (a1 a2 : Int32) (X : xs_T) : xs_T := match c with
  | 0 => match x_blk a1 with
    | some b => x_access b X
    | none => X
  | 1 => match x_blk a1 with
    | some b => x_write b a2 X
    | none => X
  | 2 => x_flush X
  | 3 => x_tick X
  | 4 => x_detach X
  | 5 => x_crash X
  | 6 => x_lose X
  | _ => X
section CL5
variable {S : ex_S} {N : Nat} {sc : Nat → Int32} {ar : Nat → Nat → Int32} {X : xs_T}
theorem f_read (hr : r_x N sc ar X) (hi : x_iv X) (hE : x_ep X < 2 ^ 26) (a1 a2 : Int32) : ∃ sc' ar', ex_big S 15 0 [.inr 2, .inl a1] [] (mk_W N sc ar) 0 0 = some (some (x_ans 0 a1 a2 X), mk_W N sc' ar') ∧ r_x N sc' ar' (x_nxt 0 a1 a2 X) ∧ s_M sc ar sc' ar' := by
  have z10 : ¬ (1 : Int32) = 0 := by decide
  unfold x_ans x_nxt
  cases hb : x_blk a1 with
  | none =>
    refine ⟨sc, ar, ?_, hr, s_M_rf⟩
    simp only [e_15_0, e_15_1, e_15_4, e_15_7, e_15_8, e_15_9, e_15_10, e_15_11, e_15_14, e_15_15, e_15_16, e_15_19, List.length_cons, List.length_nil, Nat.reduceAdd, Nat.reduceLeDiff, Nat.zero_le, Option.bind_some, ck_15_33, ck_15_34, ck_15_35, rk_15, rl_n, rl_s, c_isBlock_f (x_blk_none hb), if_true]
  | some b =>
    obtain ⟨rfl, hb16⟩ := x_blk_some hb
    obtain ⟨sc1, ar1, e1, r1, m1⟩ := c_access (S := S) hr hi hb16 (by omega)
    refine ⟨sc1, ar1, ?_, r1, m1⟩
    simp only [e_15_0, e_15_1, e_15_4, e_15_7, e_15_8, e_15_9, e_15_10, e_15_11, e_15_14, e_15_15, e_15_16, e_15_19, List.length_cons, List.length_nil, Nat.reduceAdd, Nat.reduceLeDiff, Nat.zero_le, Option.bind_some, ck_15_33, ck_15_34, ck_15_35, rk_15, rl_n, rl_s, c_isBlock_t hb16, if_neg z10, wo_0, e1, c_numberOf r1 hb16]
theorem f_write (hr : r_x N sc ar X) (hi : x_iv X) (hE : x_ep X < 2 ^ 26) (a1 a2 : Int32) : ∃ sc' ar', ex_big S 16 0 [.inr 2, .inl a1, .inl a2] [] (mk_W N sc ar) 0 0 = some (some (x_ans 1 a1 a2 X), mk_W N sc' ar') ∧ r_x N sc' ar' (x_nxt 1 a1 a2 X) ∧ s_M sc ar sc' ar' := by
  have z10 : ¬ (1 : Int32) = 0 := by decide
  unfold x_ans x_nxt
  cases hb : x_blk a1 with
  | none =>
    refine ⟨sc, ar, ?_, hr, s_M_rf⟩
    simp only [e_16_0, e_16_1, e_16_4, e_16_7, e_16_8, e_16_9, e_16_10, e_16_11, e_16_14, e_16_15, e_16_16, e_16_17, e_16_18, e_16_21, List.length_cons, List.length_nil, Nat.reduceAdd, Nat.reduceLeDiff, Nat.zero_le, Option.bind_some, ck_16_33, ck_16_35, ck_16_42, rk_16, rl_n, rl_s, c_isBlock_f (x_blk_none hb), if_true]
  | some b =>
    obtain ⟨rfl, hb16⟩ := x_blk_some hb
    obtain ⟨sc1, ar1, e1, r1, m1⟩ := c_access (S := S) hr hi hb16 (by omega)
    obtain ⟨i1, -, i3, i4⟩ := x_access_ok hi hb16
    obtain ⟨sc2, ar2, e2, r2, m2⟩ := c_place (S := S) r1 hb16 a2 true (x_room_ne i1.1.1.1 i1.1.2.1) (by omega)
    have e2 : ex_big S 42 0 [.inr 2, .inl (nI b), .inl a2, .inl 1, .inr 0, .inr 0] [] (mk_W N sc1 ar1) 0 0 = some (some (nI (x_slot (x_access b X))), mk_W N sc2 ar2) := e2
    refine ⟨sc2, ar2, ?_, r2, s_M_tr m1 m2⟩
    simp only [e_16_0, e_16_1, e_16_4, e_16_7, e_16_8, e_16_9, e_16_10, e_16_11, e_16_14, e_16_15, e_16_16, e_16_17, e_16_18, e_16_21, List.length_cons, List.length_nil, Nat.reduceAdd, Nat.reduceLeDiff, Nat.zero_le, Option.bind_some, ck_16_33, ck_16_35, ck_16_42, rk_16, rl_n, rl_s, c_isBlock_t hb16, if_neg z10, wo_0, e1, e2]
theorem f_flush (hr : r_x N sc ar X) (a1 a2 : Int32) : ∃ sc' ar', ex_big S 17 0 [.inr 2] [] (mk_W N sc ar) 0 0 = some (some (x_ans 2 a1 a2 X), mk_W N sc' ar') ∧ r_x N sc' ar' (x_nxt 2 a1 a2 X) ∧ s_M sc ar sc' ar' := by
  obtain ⟨sc1, ar1, e1, r1, m1⟩ := c_endEpoch (S := S) hr
  have hep : sc1 2 = nI (x_ep X + 1) := r1.2.2.2.2.2.2.2.2.1
  refine ⟨sc1, ar1, ?_, r1, m1⟩
  simp only [e_17_0, e_17_1, e_17_4, e_17_5, e_17_8, List.length_cons, List.length_nil, Nat.reduceAdd, Nat.reduceLeDiff, Nat.zero_le, Option.bind_some, ck_17_46, rk_17, rl_n, rl_s, wo_0, e1, wg_0_11, hep]
  rfl
theorem f_tick (hr : r_x N sc ar X) (hE : x_ep X < 2 ^ 26) (a1 a2 : Int32) : ∃ sc' ar', ex_big S 18 0 [.inr 2, .inr 0] [] (mk_W N sc ar) 0 0 = some (some (x_ans 3 a1 a2 X), mk_W N sc' ar') ∧ r_x N sc' ar' (x_nxt 3 a1 a2 X) ∧ s_M sc ar sc' ar' := by
  have hN := r_x_N14 hr
  have h5 := hr.2.2.2.2.1
  have hep : sc 2 = nI (x_ep X) := hr.2.2.2.2.2.2.2.2.1
  have e1 := sm_firstDirty_h (S := S) (sc := sc) hN h5 (e := nI (x_ep X) - 1) (B := x_ep X) (fun d hd => by
    cases hx : x_ep X with
    | zero =>
      constructor
      · intro q
        have h1 : nI d ≤ -1 := q
        have h2 := nI_pos' (n := d) (by omega)
        exact absurd (Int32.le_trans h2 h1) (by decide)
      · intro q; omega
    | succ m =>
      rw [nI_pred, nI_leI (by omega) (by omega)]
      omega)
  show ∃ sc' ar', ex_big S 18 0 [.inr 2, .inr 0] [] (mk_W N sc ar) 0 0 = some (some (e_o (x_first (x_dt X) (x_ep X))), mk_W N sc' ar') ∧ r_x N sc' ar' (x_tick X) ∧ s_M sc ar sc' ar'
  unfold x_tick
  cases hf : x_first (x_dt X) (x_ep X) with
  | none =>
    rw [hf] at e1
    have e1 : ex_big S 13 0 [.inr 5, .inl (nI (x_ep X) - 1), .inr 0, .inr 0] [] (mk_W N sc ar) 0 0 = some (some (-1), mk_W N sc ar) := e1
    refine ⟨sc, ar, ?_, hr, s_M_rf⟩
    simp only [e_18_0, e_18_1, e_18_4, e_18_5, e_18_8, e_18_9, e_18_10, e_18_13, e_18_14, e_18_15, e_18_16, e_18_19, e_18_20, e_18_21, e_18_22, e_18_23, e_18_26, e_18_27, e_18_30, e_18_33, e_18_34, e_18_35, List.length_cons, List.length_nil, Nat.reduceAdd, Nat.reduceLeDiff, Nat.zero_le, Option.bind_some, ck_18_13, ck_18_48, rk_18, rl_n, rl_s, wg_0_3, wg_0_11, hep, wo_3, e1, if_true]
    rfl
  | some b =>
    obtain ⟨-, d, g1, g2⟩ := x_elig_mem.mp (x_first_mem hf)
    obtain ⟨-, s, hs⟩ := h5.2.2 b d g1
    rw [hf, Option.bind_some, hs] at e1
    have e1 : ex_big S 13 0 [.inr 5, .inl (nI (x_ep X) - 1), .inr 0, .inr 0] [] (mk_W N sc ar) 0 0 = some (some (nI s), mk_W N sc ar) := e1
    obtain ⟨sc1, ar1, e2, r2, m2⟩ := c_drain (S := S) hr hs
    obtain ⟨k1, k2, k3, k4⟩ := r2.2.2.2.2.1.1 b s hs
    have q2 : ¬ nI s = -1 := nI_ne_m1 (by omega)
    refine ⟨sc1, ar1, ?_, r2, m2⟩
    simp only [e_18_0, e_18_1, e_18_4, e_18_5, e_18_8, e_18_9, e_18_10, e_18_13, e_18_14, e_18_15, e_18_16, e_18_19, e_18_20, e_18_21, e_18_22, e_18_23, e_18_26, e_18_27, e_18_30, e_18_33, e_18_34, e_18_35, List.length_cons, List.length_nil, Nat.reduceAdd, Nat.reduceLeDiff, Nat.zero_le, Option.bind_some, ck_18_13, ck_18_48, rk_18, rl_n, rl_s, wg_0_3, wg_0_11, wg_3_0, hep, wo_3, wo_0, e1, if_neg q2, e2, wr_4 k2 hN, k3]
    rfl
theorem f_detach (hr : r_x N sc ar X) (hE : x_ep X < 2 ^ 26) (a1 a2 : Int32) : ∃ sc' ar', ex_big S 19 0 [.inr 2, .inr 0] [] (mk_W N sc ar) 0 0 = some (some (x_ans 4 a1 a2 X), mk_W N sc' ar') ∧ r_x N sc' ar' (x_nxt 4 a1 a2 X) ∧ s_M sc ar sc' ar' := by
  have hN := r_x_N14 hr
  have hep : sc 2 = nI (x_ep X) := hr.2.2.2.2.2.2.2.2.1
  obtain ⟨sc1, ar1, e1, r1, m1⟩ := c_drains (S := S) hr (d := x_ep X) (by omega)
  have r2 := r_x_P0 r1 (r_pl_clr (N := N) (f := ar1 2) (g := ar1 3))
  obtain ⟨sc3, ar3, e3, r3, m3⟩ := c_forgetLists (S := S) r2
  have h2 : r_pl N (p_cp N (ar3 4) (ar3 2)) (p_cp N (ar3 5) (ar3 3)) (fun _ => none) (fun _ => none) := r_pl_cp r3.2.2.2.2.1 (fun s hs => if_pos hs) (fun s hs => if_pos hs)
  have r4 := r_x_P1 r3 h2
  refine ⟨sc3, _, ?_, r4, s_M_tr m1 (s_M_tr (s_M_P (by omega) _ _) (s_M_tr m3 (s_M_P (by omega) _ _)))⟩
  simp only [e_19_0, e_19_1, e_19_2, e_19_5, e_19_8, e_19_9, e_19_10, e_19_13, e_19_16, e_19_17, e_19_20, e_19_21, e_19_24, e_19_25, e_19_28, e_19_31, e_19_32, List.length_cons, List.length_nil, Nat.reduceAdd, Nat.reduceLeDiff, Nat.zero_le, Option.bind_some, ck_19_10, ck_19_41, ck_19_47, ck_19_9, rk_19, rl_n, rl_s, wg_0_11, wg_0_3, wg_0_4, hep, wo_0, wo_3, wo_6, e1, sm_pclear_h hN, e3, sm_become_jh hN]
  rfl
theorem f_lose (hr : r_x N sc ar X) (a1 a2 : Int32) : ∃ sc' ar', ex_big S 21 0 [.inr 2, .inr 0] [] (mk_W N sc ar) 0 0 = some (some (x_ans 6 a1 a2 X), mk_W N sc' ar') ∧ r_x N sc' ar' (x_nxt 6 a1 a2 X) ∧ s_M sc ar sc' ar' := by
  have hN := r_x_N14 hr
  have h5 := hr.2.2.2.2.1
  have e1 := sm_dirtyCount_h (S := S) (sc := sc) hN h5
  have r1 := r_x_P0 hr (r_pl_clr (N := N) (f := ar 2) (g := ar 3))
  have r2 := r_x_P1 r1 (r_pl_clr (N := N) (f := (mk_P 0 ar (p_cl N (ar 2)) (p_cl N (ar 3))) 4) (g := (mk_P 0 ar (p_cl N (ar 2)) (p_cl N (ar 3))) 5))
  obtain ⟨sc3, ar3, e3, r3, m3⟩ := c_forgetLists (S := S) r2
  have r4 := r_x_ep r3 0
  rw [nI_0] at r4
  refine ⟨upd sc3 2 0, ar3, ?_, r4, s_M_tr (s_M_P (by omega) _ _) (s_M_tr (s_M_P (by omega) _ _) (s_M_tr m3 (s_M_sc (by omega) _)))⟩
  simp only [e_21_0, e_21_1, e_21_4, e_21_7, e_21_8, e_21_9, e_21_12, e_21_15, e_21_16, e_21_19, e_21_22, e_21_23, e_21_26, e_21_27, e_21_28, e_21_31, e_21_32, List.length_cons, List.length_nil, Nat.reduceAdd, Nat.reduceLeDiff, Nat.zero_le, Option.bind_some, ck_21_12, ck_21_41, ck_21_9, ft_0, ft_10, ft_11, rk_21, rl_n, rl_s, wg_0_3, wg_0_4, wo_0, wo_3, wo_6, e1, sm_pclear_h hN, sm_pclear_j hN, e3, wp_0_11, if_true]
  rfl
theorem f_hit (hr : r_x N sc ar X) (a1 a2 : Int32) : ex_big S 22 0 [.inr 2] [] (mk_W N sc ar) 0 0 = some (some (x_ans 7 a1 a2 X), mk_W N sc ar) := by
  have h : sc 4 = x_b (x_hi X) := hr.2.2.2.2.2.2.2.2.2.2
  have h2 : x_b (x_hi X) = 0 ∨ x_b (x_hi X) = 1 := by
    cases x_hi X
    · exact Or.inl rfl
    · exact Or.inr rfl
  simp only [e_22_0, e_22_1, e_22_4, Nat.reduceAdd, Option.bind_some, false_or, or_false, or_true, rk_22, true_or, wg_0_13, h, h2]
  rfl
theorem f_says (hr : r_x N sc ar X) (a1 a2 : Int32) : ex_big S 23 0 [.inr 2, .inl a1] [] (mk_W N sc ar) 0 0 = some (some (x_ans 8 a1 a2 X), mk_W N sc ar) := by
  have z10 : ¬ (1 : Int32) = 0 := by decide
  unfold x_ans
  cases hb : x_blk a1 with
  | none => simp only [e_23_0, e_23_1, e_23_4, e_23_7, e_23_8, e_23_9, e_23_12, e_23_15, e_23_16, List.length_cons, List.length_nil, Nat.reduceAdd, Nat.reduceLeDiff, Nat.zero_le, Option.bind_some, ck_23_33, ck_23_34, rk_23, rl_n, rl_s, c_isBlock_f (x_blk_none hb), if_true]
  | some b =>
    obtain ⟨rfl, hb16⟩ := x_blk_some hb
    simp only [e_23_0, e_23_1, e_23_4, e_23_7, e_23_8, e_23_9, e_23_12, e_23_15, e_23_16, List.length_cons, List.length_nil, Nat.reduceAdd, Nat.reduceLeDiff, Nat.zero_le, Option.bind_some, ck_23_33, ck_23_34, rk_23, rl_n, rl_s, c_isBlock_t hb16, if_neg z10, wo_0, c_numberOf hr hb16]
theorem f_stored (hr : r_x N sc ar X) (a1 a2 : Int32) : ex_big S 24 0 [.inr 2, .inl a1] [] (mk_W N sc ar) 0 0 = some (some (x_ans 9 a1 a2 X), mk_W N sc ar) := by
  have z10 : ¬ (1 : Int32) = 0 := by decide
  unfold x_ans
  cases hb : x_blk a1 with
  | none => simp only [e_24_0, e_24_1, e_24_4, e_24_7, e_24_8, e_24_11, e_24_12, e_24_13, e_24_16, e_24_17, List.length_cons, List.length_nil, Nat.reduceAdd, Nat.reduceLeDiff, Nat.zero_le, Option.bind_some, ck_24_33, rk_24, rl_n, rl_s, c_isBlock_f (x_blk_none hb), if_true]
  | some b =>
    obtain ⟨rfl, hb16⟩ := x_blk_some hb
    simp only [e_24_0, e_24_1, e_24_4, e_24_7, e_24_8, e_24_11, e_24_12, e_24_13, e_24_16, e_24_17, List.length_cons, List.length_nil, Nat.reduceAdd, Nat.reduceLeDiff, Nat.zero_le, Option.bind_some, ck_24_33, rk_24, rl_n, rl_s, c_isBlock_t hb16, if_neg z10, wg_0_1, wr_1 hb16, hr.2.2.1 b hb16]
theorem f_slot (hr : r_x N sc ar X) (a1 a2 : Int32) : ex_big S 25 0 [.inr 2, .inl a1] [] (mk_W N sc ar) 0 0 = some (some (x_ans 10 a1 a2 X), mk_W N sc ar) := by
  have hN := r_x_N14 hr
  unfold x_ans
  cases hb : x_blk a1 with
  | none => simp only [e_25_0, e_25_1, e_25_4, e_25_5, e_25_8, List.length_cons, List.length_nil, Nat.reduceAdd, Nat.reduceLeDiff, Nat.zero_le, Option.bind_some, ck_25_11, rk_25, rl_n, rl_s, wg_0_3, wo_3, sm_slotOf_ho hN hr.2.2.2.2.1 (c_notblock (x_blk_none hb))]
  | some b =>
    obtain ⟨rfl, hb16⟩ := x_blk_some hb
    simp only [e_25_0, e_25_1, e_25_4, e_25_5, e_25_8, List.length_cons, List.length_nil, Nat.reduceAdd, Nat.reduceLeDiff, Nat.zero_le, Option.bind_some, ck_25_11, rk_25, rl_n, rl_s, wg_0_3, wo_3, sm_slotOf_h hN hr.2.2.2.2.1 hb16]
theorem f_named (hr : r_x N sc ar X) (a1 a2 : Int32) : ex_big S 26 0 [.inr 2, .inl a1] [] (mk_W N sc ar) 0 0 = some (some (x_ans 11 a1 a2 X), mk_W N sc ar) := by
  have hN := r_x_N14 hr
  unfold x_ans
  cases hb : x_blk a1 with
  | none => simp only [e_26_0, e_26_1, e_26_4, e_26_5, e_26_8, List.length_cons, List.length_nil, Nat.reduceAdd, Nat.reduceLeDiff, Nat.zero_le, Option.bind_some, ck_26_11, rk_26, rl_n, rl_s, wg_0_4, wo_6, sm_slotOf_jo hN hr.2.2.2.2.2.1 (c_notblock (x_blk_none hb))]
  | some b =>
    obtain ⟨rfl, hb16⟩ := x_blk_some hb
    simp only [e_26_0, e_26_1, e_26_4, e_26_5, e_26_8, List.length_cons, List.length_nil, Nat.reduceAdd, Nat.reduceLeDiff, Nat.zero_le, Option.bind_some, ck_26_11, rk_26, rl_n, rl_s, wg_0_4, wo_6, sm_slotOf_j hN hr.2.2.2.2.2.1 hb16]
theorem f_epoch (hr : r_x N sc ar X) (a1 a2 : Int32) : ex_big S 27 0 [.inr 2, .inl a1, .inr 0] [] (mk_W N sc ar) 0 0 = some (some (x_ans 12 a1 a2 X), mk_W N sc ar) := by
  have hN := r_x_N14 hr
  have h5 := hr.2.2.2.2.1
  unfold x_ans
  cases hb : x_blk a1 with
  | none => simp only [e_27_0, e_27_1, e_27_4, e_27_5, e_27_8, e_27_9, e_27_10, e_27_11, e_27_14, e_27_15, e_27_18, e_27_19, e_27_22, e_27_25, e_27_26, e_27_27, List.length_cons, List.length_nil, Nat.reduceAdd, Nat.reduceLeDiff, Nat.zero_le, Option.bind_some, ck_27_11, rk_27, rl_n, rl_s, wg_0_3, wo_3, sm_slotOf_ho hN h5 (c_notblock (x_blk_none hb)), if_true]
  | some b =>
    obtain ⟨rfl, hb16⟩ := x_blk_some hb
    have e1 := sm_slotOf_h (S := S) (sc := sc) hN h5 hb16
    cases hs : x_sl X b with
    | none =>
      rw [hs] at e1
      have e1 : ex_big S 11 0 [.inr 5, .inl (nI b), .inr 0] [] (mk_W N sc ar) 0 0 = some (some (-1), mk_W N sc ar) := e1
      have hd : x_dt X b = none := by
        cases hq : x_dt X b with
        | none => rfl
        | some d =>
          obtain ⟨-, s, h⟩ := h5.2.2 b d hq
          rw [hs] at h; cases h
      simp only [e_27_0, e_27_1, e_27_4, e_27_5, e_27_8, e_27_9, e_27_10, e_27_11, e_27_14, e_27_15, e_27_18, e_27_19, e_27_22, e_27_25, e_27_26, e_27_27, List.length_cons, List.length_nil, Nat.reduceAdd, Nat.reduceLeDiff, Nat.zero_le, Option.bind_some, ck_27_11, rk_27, rl_n, rl_s, wg_0_3, wo_3, e1, if_true, hd]
      rfl
    | some s =>
      rw [hs] at e1
      have e1 : ex_big S 11 0 [.inr 5, .inl (nI b), .inr 0] [] (mk_W N sc ar) 0 0 = some (some (nI s), mk_W N sc ar) := e1
      obtain ⟨k1, k2, k3, k4⟩ := h5.1 b s hs
      have q2 : ¬ nI s = -1 := nI_ne_m1 (by omega)
      simp only [e_27_0, e_27_1, e_27_4, e_27_5, e_27_8, e_27_9, e_27_10, e_27_11, e_27_14, e_27_15, e_27_18, e_27_19, e_27_22, e_27_25, e_27_26, e_27_27, List.length_cons, List.length_nil, Nat.reduceAdd, Nat.reduceLeDiff, Nat.zero_le, Option.bind_some, ck_27_11, rk_27, rl_n, rl_s, wg_0_3, wg_3_1, wo_3, e1, if_neg q2, wr_5 k2 hN, k4]
theorem f_target (hr : r_x N sc ar X) (a1 a2 : Int32) : ex_big S 30 0 [.inr 2] [] (mk_W N sc ar) 0 0 = some (some (x_ans 15 a1 a2 X), mk_W N sc ar) := by
  have h : sc 1 = nI (x_go X) := hr.2.2.2.2.2.2.2.1
  simp only [e_30_0, e_30_1, e_30_4, Nat.reduceAdd, Option.bind_some, rk_30, wg_0_10, h]
  rfl
theorem f_drained (hr : r_x N sc ar X) (a1 a2 : Int32) : ex_big S 32 0 [.inr 2] [] (mk_W N sc ar) 0 0 = some (some (x_ans 17 a1 a2 X), mk_W N sc ar) := by
  have h : sc 3 = x_dr X := hr.2.2.2.2.2.2.2.2.2.1
  simp only [e_32_0, e_32_1, e_32_4, Nat.reduceAdd, Option.bind_some, rk_32, wg_0_12, h]
  rfl
end CL5
