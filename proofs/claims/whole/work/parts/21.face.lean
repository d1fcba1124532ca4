/-! an access, and the class's face -/
section CL4
variable {S : ex_S} {N : Nat} {sc : Nat → Int32} {ar : Nat → Nat → Int32} {X : xs_T}
theorem x_room_ne (hC : 1 ≤ x_C X) (h : x_pl (x_C X) (x_ep X) (x_sl X) (x_dt X)) : x_frees (x_room X) ≠ [] := by
  unfold x_room
  split
  · exact x_frees_flush hC h
  · assumption
theorem c_tail (hr : r_x N sc ar X) {b : Nat} (hb : b < 16) (hf : x_frees (x_room X) ≠ []) (hE : x_ep X < 2 ^ 29) : ∃ sc' ar', ex_big S 35 181 [.inr 2, .inl (nI b)] [] (mk_W N sc ar) 0 0 = some (none, mk_W N sc' ar') ∧ r_x N sc' ar' (x_place b (x_st X b) false X) ∧ s_M sc ar sc' ar' := by
  obtain ⟨sc1, ar1, e1, r1, m1⟩ := c_place (S := S) hr hb (x_st X b) false hf hE
  have e1 : ex_big S 42 0 [.inr 2, .inl (nI b), .inl (x_st X b), .inl 0, .inr 0, .inr 0] [] (mk_W N sc ar) 0 0 = some (some (nI (x_slot X)), mk_W N sc1 ar1) := e1
  have h3 := hr.2.2.1 b hb
  refine ⟨sc1, ar1, ?_, r1, m1⟩
  simp only [e_35_181, e_35_182, e_35_183, e_35_184, e_35_187, e_35_188, e_35_189, e_35_190, e_35_193, e_35_194, List.length_cons, List.length_nil, Nat.reduceAdd, Nat.reduceLeDiff, Nat.zero_le, Option.bind_some, ck_35_42, rk_35, rl_n, rl_s, wg_0_1, wr_1 hb, h3, wo_0, e1]
theorem x_step_sub {g t : Nat} (hg : g < 2 ^ 29) (ht : t < 2 ^ 29) : (if (0 : Int32) < nI g - nI t then nI g - nI t else 0) = nI (g - t) := by
  by_cases h : t ≤ g
  · rw [pk_sub h]
    by_cases h0 : g - t = 0
    · rw [h0]; decide
    · rw [if_pos (show (0 : Int32) < nI (g - t) from nI_lt (a := 0) (by omega) (by omega))]
  · have h1 : nI g - nI t < 0 := pk_sneg (by omega) (by omega)
    have h2 : ¬ (0 : Int32) < nI g - nI t := by
      intro q
      exact Int32.lt_irrefl (Int32.lt_trans q h1)
    rw [if_neg h2, show g - t = 0 by omega]
    rfl
theorem x_min_nI {a b : Nat} (ha : a < 2 ^ 30) (hb : b < 2 ^ 30) : (if nI b < nI a then nI b else nI a) = nI (min a b) := by
  by_cases h : b < a
  · rw [if_pos (nI_lt h (by omega)), Nat.min_eq_right (by omega)]
  · rw [if_neg (nI_nlt (by omega) (by omega)), Nat.min_eq_left (by omega)]
theorem c_miss (hr : r_x N sc ar X) (hi : x_iv X) {b : Nat} (hb : b < 16) (h0 : b ∉ x_L X 0) (h1 : b ∉ x_L X 1) (hE : x_ep X < 2 ^ 27) : ∃ sc' ar', ex_big S 35 48 [.inr 2, .inl (nI b)] [] (mk_W N sc ar) 0 0 = some (none, mk_W N sc' ar') ∧ r_x N sc' ar' (x_place b (x_st (x_miss b X) b) false (x_miss b X)) ∧ s_M sc ar sc' ar' := by
  have hms := x_miss_ok hi hb h0 h1
  have hne := x_room_ne hms.1.1 hms.2.2.1
  have hEm := hms.2.2.2.2.2.2.2.2.2.2
  obtain ⟨hw, hz⟩ := hi
  have hC := hw.1
  have hls := hw.2.2.2.1
  have hgo := hw.2.2.2.2.2
  have hL := hr.2.2.2.2.2.2.1
  have hl2 : r_ls (ar 8) (sc 7) (x_L X 2) := hL 2 (by omega)
  have hl3 : r_ls (ar 9) (sc 8) (x_L X 3) := hL 3 (by omega)
  have s2 : sc 7 = nI (x_L X 2).length := hl2.1
  have s3 : sc 8 = nI (x_L X 3).length := hl3.1
  have b2 := hl2.2.1
  have b3 := hl3.2.1
  have hcap : sc 0 = nI (x_C X) := hr.2.1
  have hgl : sc 1 = nI (x_go X) := hr.2.2.2.2.2.2.2.1
  have e2 := sm_has_2 (S := S) (N := N) hl2 hb
  have e3 := sm_has_3 (S := S) (N := N) hl3 hb
  have z10 : ¬ (1 : Int32) = 0 := by decide
  by_cases g1 : b ∈ x_L X 2
  · have hp := List.length_pos_of_mem g1
    have hmx : x_miss b X = x_comes b 1 (x_replace b (x_goal (min (x_C X) (x_go X + max 1 ((x_L X 3).length / (x_L X 2).length))) X)) := if_pos g1
    rw [hmx] at hne hEm ⊢
    have hst := c_step (S := S) (w := mk_W N sc ar) (a := (x_L X 3).length) (o := (x_L X 2).length) (by omega) hp (by omega)
    have hdl : (x_L X 3).length / (x_L X 2).length ≤ (x_L X 3).length := Nat.div_le_self _ _
    generalize hst0 : max 1 ((x_L X 3).length / (x_L X 2).length) = t at hst hne hEm ⊢
    have ht : t ≤ 16 := by omega
    have hmin := x_min_nI (a := x_C X) (b := x_go X + t) (by omega) (by omega)
    generalize hg0 : min (x_C X) (x_go X + t) = g at hmin hne hEm ⊢
    have hgC : g ≤ x_C X := by omega
    have hwg := x_wk_goal hw hgC
    have r1 := r_x_go hr g
    obtain ⟨sc2, ar2, e4, r4, m4⟩ := c_replaceFor (S := S) r1 hwg.2.2.2.1 hwg.2.2.2.2.1 hb (by rw [x_goal_ep]; omega) (by rw [x_goal_go]; omega)
    have hwr := x_replace_wk hwg b
    obtain ⟨sc3, ar3, e5, r5, m5⟩ := c_bringInto (S := S) r4 (i := 1) (by omega) hb (hwr.2.2.2.1.1 1)
    have e5 : ex_big S 40 0 [.inr 2, .inr 13, .inl (nI b), .inr 0] [] (mk_W N sc2 ar2) 0 0 = some (none, mk_W N sc3 ar3) := e5
    obtain ⟨sc4, ar4, e6, r6, m6⟩ := c_tail (S := S) r5 hb hne (by omega)
    rw [if_pos g1] at e2
    refine ⟨sc4, ar4, ?_, r6, s_M_tr (s_M_sc (j := 1) (by omega) _) (s_M_tr m4 (s_M_tr m5 m6))⟩
    simp only [e_35_48, e_35_49, e_35_52, e_35_53, e_35_56, e_35_59, e_35_60, e_35_61, e_35_64, e_35_65, e_35_68, e_35_69, e_35_72, e_35_75, e_35_76, e_35_79, e_35_82, e_35_85, e_35_86, e_35_89, e_35_92, e_35_93, e_35_94, e_35_97, e_35_98, e_35_99, e_35_102, e_35_103, e_35_106, List.length_cons, List.length_nil, Nat.reduceAdd, Nat.reduceLeDiff, Nat.zero_le, Option.bind_some, ck_35_1, ck_35_3, ck_35_36, ck_35_38, ck_35_40, ft_0, ft_10, ft_11, rk_35, rl_n, rl_s, wg_0_0, wg_0_6, wg_0_7, wg_0_8, wg_0_10, wo_0, wo_13, wo_15, e2, if_neg z10, sm_size_2, sm_size_3, s2, s3, hst, hcap, hgl, nI_add, hmin, wp_0_10, e4, e5, e6, if_true]
  · by_cases g2 : b ∈ x_L X 3
    · have hp := List.length_pos_of_mem g2
      have hmx : x_miss b X = x_comes b 1 (x_replace b (x_goal (x_go X - max 1 ((x_L X 2).length / (x_L X 3).length)) X)) := (if_neg g1).trans (if_pos g2)
      rw [hmx] at hne hEm ⊢
      have hst := c_step (S := S) (w := mk_W N sc ar) (a := (x_L X 2).length) (o := (x_L X 3).length) (by omega) hp (by omega)
      have hdl : (x_L X 2).length / (x_L X 3).length ≤ (x_L X 2).length := Nat.div_le_self _ _
      generalize hst0 : max 1 ((x_L X 2).length / (x_L X 3).length) = t at hst hne hEm ⊢
      have ht : t ≤ 16 := by omega
      have hmin := x_step_sub (g := x_go X) (t := t) (by omega) (by omega)
      generalize hg0 : x_go X - t = g at hmin hne hEm ⊢
      have hgC : g ≤ x_C X := by omega
      have hwg := x_wk_goal hw hgC
      have r1 := r_x_go hr g
      obtain ⟨sc2, ar2, e4, r4, m4⟩ := c_replaceFor (S := S) r1 hwg.2.2.2.1 hwg.2.2.2.2.1 hb (by rw [x_goal_ep]; omega) (by rw [x_goal_go]; omega)
      have hwr := x_replace_wk hwg b
      obtain ⟨sc3, ar3, e5, r5, m5⟩ := c_bringInto (S := S) r4 (i := 1) (by omega) hb (hwr.2.2.2.1.1 1)
      have e5 : ex_big S 40 0 [.inr 2, .inr 13, .inl (nI b), .inr 0] [] (mk_W N sc2 ar2) 0 0 = some (none, mk_W N sc3 ar3) := e5
      obtain ⟨sc4, ar4, e6, r6, m6⟩ := c_tail (S := S) r5 hb hne (by omega)
      rw [if_neg g1] at e2
      rw [if_pos g2] at e3
      refine ⟨sc4, ar4, ?_, r6, s_M_tr (s_M_sc (j := 1) (by omega) _) (s_M_tr m4 (s_M_tr m5 m6))⟩
      simp only [e_35_48, e_35_49, e_35_52, e_35_53, e_35_56, e_35_59, e_35_60, e_35_61, e_35_64, e_35_65, e_35_68, e_35_69, e_35_72, e_35_75, e_35_76, e_35_79, e_35_82, e_35_85, e_35_86, e_35_89, e_35_92, e_35_93, e_35_94, e_35_97, e_35_98, e_35_99, e_35_102, e_35_103, e_35_106, e_35_109, e_35_110, e_35_113, e_35_114, e_35_117, e_35_120, e_35_121, e_35_122, e_35_123, e_35_126, e_35_127, e_35_130, e_35_133, e_35_134, e_35_137, e_35_140, e_35_143, e_35_144, e_35_147, e_35_150, e_35_151, e_35_152, e_35_155, e_35_156, e_35_157, e_35_160, e_35_161, e_35_164, List.length_cons, List.length_nil, Nat.reduceAdd, Nat.reduceLeDiff, Nat.zero_le, Option.bind_some, ck_35_1, ck_35_3, ck_35_36, ck_35_38, ck_35_40, ft_0, ft_10, ft_11, rk_35, rl_n, rl_s, wg_0_0, wg_0_6, wg_0_7, wg_0_8, wg_0_10, wo_0, wo_13, wo_15, e2, e3, if_neg z10, sm_size_2, sm_size_3, s2, s3, hst, hcap, hgl, hmin, wp_0_10, e4, e5, e6, if_true]
    · have hmx : x_miss b X = x_comes b 0 (x_stranger b X) := (if_neg g1).trans (if_neg g2)
      rw [hmx] at hne hEm ⊢
      obtain ⟨sc2, ar2, e4, r4, m4⟩ := c_stranger (S := S) hr hw hz hb (by omega)
      have hnd : (x_L (x_stranger b X) 0).Nodup := by
        have q := hms.2.2.2.2.1.1 0
        rw [hmx] at q
        have q : (if (0 : Nat) = 0 then x_rm b (x_L (x_stranger b X) 0) ++ [b] else x_rm b (x_L (x_stranger b X) 0)).Nodup := q
        unfold x_stranger
        split
        · split
          · rename_i hc2
            exact (x_replace_wk (x_wk_forget hw (x_head_mem hc2) (Nat.le_refl 2)) b).2.2.2.1.1 0
          · exact (x_wk_gone hw).2.2.2.1.1 0
        · split
          · split
            · rename_i hc1 hc2 hc3
              have hp3 : 0 < (x_L X 3).length := by
                obtain ⟨z1, z2, z3, z4⟩ := hz
                omega
              exact (x_replace_wk (x_wk_forget hw (x_head_mem hp3) (by omega)) b).2.2.2.1.1 0
            · exact (x_replace_wk hw b).2.2.2.1.1 0
          · exact hls.1 0
      obtain ⟨sc3, ar3, e5, r5, m5⟩ := c_bringInto (S := S) r4 (i := 0) (by omega) hb hnd
      have e5 : ex_big S 40 0 [.inr 2, .inr 11, .inl (nI b), .inr 0] [] (mk_W N sc2 ar2) 0 0 = some (none, mk_W N sc3 ar3) := e5
      obtain ⟨sc4, ar4, e6, r6, m6⟩ := c_tail (S := S) r5 hb hne (by omega)
      rw [if_neg g1] at e2
      rw [if_neg g2] at e3
      refine ⟨sc4, ar4, ?_, r6, s_M_tr m4 (s_M_tr m5 m6)⟩
      simp only [e_35_48, e_35_49, e_35_52, e_35_53, List.length_cons, List.length_nil, Nat.reduceAdd, Nat.reduceLeDiff, Nat.zero_le, Option.bind_some, ck_35_3, rl_n, rl_s, e_35_56, Nat.reduceAdd, e_35_109, e_35_110, e_35_113, e_35_114, e_35_117, List.length_cons, List.length_nil, Nat.reduceAdd, Nat.reduceLeDiff, Nat.zero_le, Option.bind_some, ck_35_3, rl_n, rl_s, e_35_167, e_35_168, e_35_169, e_35_172, e_35_173, e_35_174, e_35_177, e_35_178, List.length_cons, List.length_nil, Nat.reduceAdd, Nat.reduceLeDiff, Nat.zero_le, Option.bind_some, ck_35_37, ck_35_40, rl_n, rl_s, wg_0_5, wg_0_7, wg_0_8, wo_0, wo_13, wo_15, e2, e3, e4, e5, e6, if_true]
theorem c_access (hr : r_x N sc ar X) (hi : x_iv X) {b : Nat} (hb : b < 16) (hE : x_ep X < 2 ^ 27) : ∃ sc' ar', ex_big S 35 0 [.inr 2, .inl (nI b)] [] (mk_W N sc ar) 0 0 = some (none, mk_W N sc' ar') ∧ r_x N sc' ar' (x_access b X) ∧ s_M sc ar sc' ar' := by
  have hL := hr.2.2.2.2.2.2.1
  have hl0 : r_ls (ar 6) (sc 5) (x_L X 0) := hL 0 (by omega)
  have hl1 : r_ls (ar 7) (sc 6) (x_L X 1) := hL 1 (by omega)
  have e0 := sm_has_0 (S := S) (N := N) hl0 hb
  have e1 := sm_has_1 (S := S) (N := N) hl1 hb
  have z10 : ¬ (1 : Int32) = 0 := by decide
  have hhit : (b ∈ x_L X 0 ∨ b ∈ x_L X 1) → ∃ sc' ar', ex_big S 35 31 [.inr 2, .inl (nI b)] [] (mk_W N (upd sc 4 1) ar) 0 0 = some (none, mk_W N sc' ar') ∧ r_x N sc' ar' (x_access b X) ∧ s_M sc ar sc' ar' := by
    intro hm
    have r1 := r_x_hi hr true
    have r1 : r_x N (upd sc 4 1) ar (x_hit true X) := r1
    obtain ⟨sc3, ar3, e5, r5, m5⟩ := c_bringInto (S := S) r1 (i := 1) (by omega) hb (hi.1.2.2.2.1.1 1)
    have e5 : ex_big S 40 0 [.inr 2, .inr 13, .inl (nI b), .inr 0] [] (mk_W N (upd sc 4 1) ar) 0 0 = some (none, mk_W N sc3 ar3) := e5
    have hx : x_access b X = x_comes b 1 (x_hit true X) := if_pos hm
    refine ⟨sc3, ar3, ?_, by rw [hx]; exact r5, s_M_tr (s_M_sc (j := 4) (by omega) 1) m5⟩
    simp only [e_35_31, e_35_32, e_35_35, e_35_38, e_35_39, e_35_40, e_35_43, e_35_44, e_35_47, List.length_cons, List.length_nil, Nat.reduceAdd, Nat.reduceLeDiff, Nat.zero_le, Option.bind_some, ck_35_40, rk_35, rl_n, rl_s, wg_0_6, wg_0_13, pk_us, if_neg z10, wo_0, e5]
  by_cases h0 : b ∈ x_L X 0
  · obtain ⟨sc3, ar3, e5, r5, m5⟩ := hhit (Or.inl h0)
    rw [if_pos h0] at e0
    refine ⟨sc3, ar3, ?_, r5, m5⟩
    simp only [e_35_0, e_35_1, e_35_2, e_35_5, e_35_6, e_35_9, e_35_12, e_35_13, e_35_16, e_35_17, e_35_20, e_35_23, e_35_24, e_35_27, e_35_28, List.length_cons, List.length_nil, Nat.reduceAdd, Nat.reduceLeDiff, Nat.zero_le, Option.bind_some, ck_35_3, ft_0, ft_10, ft_11, rl_n, rl_s, wg_0_5, wo_9, e0, if_neg z10, wp_0_13, e5, if_true]
  · by_cases h1 : b ∈ x_L X 1
    · obtain ⟨sc3, ar3, e5, r5, m5⟩ := hhit (Or.inr h1)
      rw [if_neg h0] at e0
      rw [if_pos h1] at e1
      refine ⟨sc3, ar3, ?_, r5, m5⟩
      simp only [e_35_0, e_35_1, e_35_2, e_35_5, e_35_6, e_35_9, e_35_12, e_35_13, e_35_16, e_35_17, e_35_20, e_35_23, e_35_24, e_35_27, e_35_28, List.length_cons, List.length_nil, Nat.reduceAdd, Nat.reduceLeDiff, Nat.zero_le, Option.bind_some, ck_35_3, ft_0, ft_10, ft_11, rl_n, rl_s, wg_0_5, wg_0_6, wo_9, wo_11, e0, e1, if_neg z10, wp_0_13, e5, if_true]
    · have r1 := r_x_hi hr false
      have r1 : r_x N (upd sc 4 0) ar (x_hit false X) := r1
      have hi2 : x_iv (x_hit false X) := hi
      obtain ⟨sc3, ar3, e5, r5, m5⟩ := c_miss (S := S) r1 hi2 hb h0 h1 hE
      have hx : x_access b X = x_place b (x_st (x_miss b (x_hit false X)) b) false (x_miss b (x_hit false X)) := if_neg (fun z => by
        rcases z with z | z
        · exact h0 z
        · exact h1 z)
      rw [if_neg h0] at e0
      rw [if_neg h1] at e1
      refine ⟨sc3, ar3, ?_, by rw [hx]; exact r5, s_M_tr (s_M_sc (j := 4) (by omega) 0) m5⟩
      simp only [e_35_0, e_35_1, e_35_2, e_35_5, e_35_6, e_35_9, e_35_12, e_35_13, e_35_16, e_35_17, e_35_20, e_35_23, e_35_24, e_35_27, e_35_28, e_35_31, e_35_32, e_35_35, List.length_cons, List.length_nil, Nat.reduceAdd, Nat.reduceLeDiff, Nat.zero_le, Option.bind_some, ck_35_3, ft_0, ft_10, ft_11, rl_n, rl_s, wg_0_5, wg_0_6, wg_0_13, pk_us, wo_9, wo_11, e0, e1, wp_0_13, e5, if_true]
end CL4
