/-! the reference's accesses -/
section RM4
variable {K N : Nat} {sc : Nat → Int32} {ar : Nat → Nat → Int32} {X : xs_T} {S : ex_S}
theorem r_bd_wk (h : x_wk X) (hE : x_ep X < 2 ^ 29) : r_bd X := r_bd_of h.2.1 h.2.2.1 hE
theorem m_giveUp_c (hr : r_m K sc ar X) (hw : x_wk X) (hK : K < 2 ^ 30) (hE : x_ep X < 2 ^ 29) {i j : Nat} (hi : i < 2) (hj : j < 4) (hp : 0 < (x_L X i).length) : ∃ sc' ar', ex_big S 62 0 [.inr 20, .inl (nI (i + 1)), .inl (nI (j + 1)), .inr 0, .inr 0] [] (mk_W N sc ar) 0 0 = some (none, mk_W N sc' ar') ∧ r_m (K + 1) sc' ar' (x_comes ((x_L X i).headD 0) j (x_give ((x_L X i).headD 0) X)) ∧ s_X sc ar sc' ar' := by
  have hls := hw.2.2.2.1
  have hm := x_head_mem hp
  have e1 := m_nth (S := S) (N := N) hr hls hK (i := i) (by omega) 0
  rw [x_at_0 hp (x_len16 hls i)] at e1
  generalize (x_L X i).headD 0 = o at hm e1 ⊢
  have ho16 := (hls.2.1 i o hm).1
  obtain ⟨s, hs⟩ := (hw.2.2.2.2.1 o).mpr (by
    rcases (show i = 0 ∨ i = 1 by omega) with rfl | rfl
    · exact Or.inl hm
    · exact Or.inr hm)
  have hbd := r_bd_wk hw hE
  have q : (0 : Int32) ≤ nI o := nI_pos' (by omega)
  obtain ⟨sc1, ar1, r1, m1, l4, k1⟩ := m_give (S := S) (N := N) hr hbd hs hE (.inl (nI (i + 1))) (.inl (nI (j + 1)))
  obtain ⟨sc2, ar2, e2, r2, m2⟩ := m_comes (S := S) (N := N) r1 (by rw [x_give_L]; exact hls) ho16 hj
  refine ⟨sc2, ar2, ?_, r2, s_X_tr m1 m2⟩
  simp only [e_62_0, e_62_1, e_62_2, e_62_3, e_62_6, e_62_7, e_62_8, List.length_cons, List.length_nil, Nat.reduceAdd, Nat.reduceLeDiff, Nat.zero_le, Option.bind_some, ck_62_61, rl_n, rl_s, wo_18, e1, if_pos q]
  rw [k1]
  simp only [e_62_70, e_62_71, e_62_72, e_62_73, e_62_76, List.length_cons, List.length_nil, Nat.reduceAdd, Nat.reduceLeDiff, Nat.zero_le, Option.bind_some, ck_62_59, rk_62, rl_n, rl_s, wo_18, e2]
theorem m_giveUp_0 (hr : r_m K sc ar X) (hw : x_wk X) (hK : K < 2 ^ 30) (hE : x_ep X < 2 ^ 29) (hp : 0 < (x_L X 0).length) : ∃ sc' ar', ex_big S 62 0 [.inr 20, .inl 1, .inl 0, .inr 0, .inr 0] [] (mk_W N sc ar) 0 0 = some (none, mk_W N sc' ar') ∧ r_m (K + 1) sc' ar' (x_forget ((x_L X 0).headD 0) (x_give ((x_L X 0).headD 0) X)) ∧ s_X sc ar sc' ar' := by
  have hls := hw.2.2.2.1
  have hm := x_head_mem hp
  have e1 := m_nth (S := S) (N := N) hr hls hK (i := 0) (by omega) 0
  rw [x_at_0 hp (x_len16 hls 0)] at e1
  generalize (x_L X 0).headD 0 = o at hm e1 ⊢
  have e1 : ex_big S 61 0 [.inr 20, .inl 1, .inl 0, .inr 0, .inr 0, .inr 0] [] (mk_W N sc ar) 0 0 = some (some (nI o), mk_W N sc ar) := e1
  have ho16 := (hls.2.1 0 o hm).1
  obtain ⟨s, hs⟩ := (hw.2.2.2.2.1 o).mpr (Or.inl hm)
  have hbd := r_bd_wk hw hE
  have q : (0 : Int32) ≤ nI o := nI_pos' (by omega)
  obtain ⟨sc1, ar1, r1, m1, l4, k1⟩ := m_give (S := S) (N := N) hr hbd hs hE (.inl 1) (.inl 0)
  obtain ⟨sc2, ar2, e2, r2, m2⟩ := m_comes0 (S := S) (N := N) r1 ho16
  refine ⟨sc2, ar2, ?_, r2, s_X_tr m1 m2⟩
  simp only [e_62_0, e_62_1, e_62_2, e_62_3, e_62_6, e_62_7, e_62_8, List.length_cons, List.length_nil, Nat.reduceAdd, Nat.reduceLeDiff, Nat.zero_le, Option.bind_some, ck_62_61, rl_n, rl_s, wo_18, e1, if_pos q]
  rw [k1]
  simp only [e_62_70, e_62_71, e_62_72, e_62_73, e_62_76, List.length_cons, List.length_nil, Nat.reduceAdd, Nat.reduceLeDiff, Nat.zero_le, Option.bind_some, ck_62_59, rk_62, rl_n, rl_s, wo_18, e2]
theorem m_giveUp_n (hr : r_m K sc ar X) (hls : x_ls (x_L X)) (hK : K < 2 ^ 30) (hp : x_L X 1 = []) : ex_big S 62 0 [.inr 20, .inl 2, .inl 4, .inr 0, .inr 0] [] (mk_W N sc ar) 0 0 = some (none, mk_W N sc ar) := by
  have e1 := m_nth (S := S) (N := N) hr hls hK (i := 1) (by omega) 0
  rw [hp, x_at_0n] at e1
  have e1 : ex_big S 61 0 [.inr 20, .inl 2, .inl 0, .inr 0, .inr 0, .inr 0] [] (mk_W N sc ar) 0 0 = some (some (-1), mk_W N sc ar) := e1
  have q : ¬ (0 : Int32) ≤ -1 := by decide
  simp only [e_62_0, e_62_1, e_62_2, e_62_3, e_62_6, e_62_7, e_62_8, e_62_11, List.length_cons, List.length_nil, Nat.reduceAdd, Nat.reduceLeDiff, Nat.zero_le, Option.bind_some, ck_62_61, rk_62, rl_n, rl_s, wo_18, e1, if_neg q]
theorem m_li (hr : r_m K sc ar X) {b : Nat} (hb : b < 16) : ar 15 b = nI (x_li (x_L X) b) := by
  obtain ⟨t, h1, -, -⟩ := hr.2.2.2.2.2.2.2.1
  exact h1 b hb
theorem m_replaceFor (hr : r_m K sc ar X) (hw : x_wk X) (hK : K < 2 ^ 30) (hE : x_ep X < 2 ^ 29) {b : Nat} (hb : b < 16) : ∃ K' sc' ar', (K ≤ K' ∧ K' ≤ K + 1) ∧ ex_big S 63 0 [.inr 20, .inl (nI b), .inr 0] [] (mk_W N sc ar) 0 0 = some (none, mk_W N sc' ar') ∧ r_m K' sc' ar' (x_replace b X) ∧ s_X sc ar sc' ar' := by
  have hC := hw.1
  have hls := hw.2.2.2.1
  have hgo := hw.2.2.2.2.2
  have h0 := x_len16 hls 0
  have hli := m_li hr hb
  have hag : sc 11 = nI (x_go X) := hr.2.2.2.2.2.2.2.2.2.1
  have e0 : ex_big S 60 0 [.inr 20, .inl 1, .inr 0, .inr 0] [] (mk_W N sc ar) 0 0 = some (some (nI (x_L X 0).length), mk_W N sc ar) := m_sizeOf (S := S) (N := N) hr hls (i := 0) (by omega)
  have c4 : nI (x_li (x_L X) b) = 4 ↔ b ∈ x_L X 3 := x_li_eqI hls (i := 3) (by omega)
  have goR2 : ∃ K' sc' ar', (K ≤ K' ∧ K' ≤ K + 1) ∧ ex_big S 62 0 [.inr 20, .inl 2, .inl 4, .inr 0, .inr 0] [] (mk_W N sc ar) 0 0 = some (none, mk_W N sc' ar') ∧ r_m K' sc' ar' (if 0 < (x_L X 1).length then x_comes ((x_L X 1).headD 0) 3 (x_give ((x_L X 1).headD 0) X) else X) ∧ s_X sc ar sc' ar' := by
    by_cases hp : 0 < (x_L X 1).length
    · rw [if_pos hp]
      obtain ⟨sc1, ar1, e1, r1, m1⟩ := m_giveUp_c (S := S) (N := N) hr hw hK hE (i := 1) (j := 3) (by omega) (by omega) hp
      exact ⟨K + 1, sc1, ar1, by omega, e1, r1, m1⟩
    · rw [if_neg hp]
      exact ⟨K, sc, ar, by omega, m_giveUp_n hr hls hK (List.length_eq_zero_iff.mp (by omega)), hr, s_X_rf⟩
  obtain ⟨K2, sc2, ar2, k2, e2, r2, m2⟩ := goR2
  unfold x_replace
  by_cases hp : 0 < (x_L X 0).length
  · have q0 : ¬ nI (x_L X 0).length ≤ 0 := nI_nle hp (by omega)
    obtain ⟨sc1, ar1, e1, r1, m1⟩ := m_giveUp_c (S := S) (N := N) hr hw hK hE (i := 0) (j := 2) (by omega) (by omega) hp
    have e1 : ex_big S 62 0 [.inr 20, .inl 1, .inl 3, .inr 0, .inr 0] [] (mk_W N sc ar) 0 0 = some (none, mk_W N sc1 ar1) := e1
    by_cases hc1 : x_go X < (x_L X 0).length
    · have c1 : nI (x_go X) < nI (x_L X 0).length := nI_lt hc1 (by omega)
      rw [if_pos ⟨hp, Or.inl hc1⟩]
      refine ⟨K + 1, sc1, ar1, by omega, ?_, r1, m1⟩
      simp only [e_63_0, e_63_1, e_63_2, e_63_5, e_63_6, e_63_7, e_63_10, e_63_11, e_63_12, e_63_15, e_63_18, e_63_19, e_63_20, e_63_23, e_63_26, e_63_27, e_63_30, e_63_31, e_63_32, e_63_33, e_63_36, e_63_37, e_63_38, e_63_39, e_63_42, e_63_45, e_63_46, e_63_47, e_63_48, e_63_51, List.length_cons, List.length_nil, Nat.reduceAdd, Nat.reduceLeDiff, Nat.zero_le, Option.bind_some, ck_63_60, ck_63_62, rk_63, rl_n, rl_s, wo_18, e0, if_neg q0, wg_18_9, hag, if_pos c1, e1]
    · have c1 : ¬ nI (x_go X) < nI (x_L X 0).length := nI_nlt (by omega) (by omega)
      by_cases d1 : (x_L X 0).length = x_go X
      · have c2 : nI (x_L X 0).length = nI (x_go X) := by rw [d1]
        by_cases d2 : b ∈ x_L X 3
        · have c3 : nI (x_li (x_L X) b) = 4 := c4.mpr d2
          rw [if_pos ⟨hp, Or.inr ⟨d1, d2⟩⟩]
          refine ⟨K + 1, sc1, ar1, by omega, ?_, r1, m1⟩
          simp only [e_63_0, e_63_1, e_63_2, e_63_5, e_63_6, e_63_7, e_63_10, e_63_11, e_63_12, e_63_15, e_63_18, e_63_19, e_63_20, e_63_23, e_63_26, e_63_27, e_63_30, e_63_31, e_63_32, e_63_33, e_63_36, e_63_37, e_63_38, e_63_39, e_63_42, e_63_45, e_63_46, e_63_47, e_63_48, e_63_51, List.length_cons, List.length_nil, Nat.reduceAdd, Nat.reduceLeDiff, Nat.zero_le, Option.bind_some, ck_63_60, ck_63_62, rk_63, rl_n, rl_s, wo_18, e0, if_neg q0, wg_18_9, hag, if_neg c1, if_pos c2, wg_18_6, wr_24 hb, hli, if_pos c3, e1]
        · have c3 : ¬ nI (x_li (x_L X) b) = 4 := fun z => d2 (c4.mp z)
          rw [if_neg (fun z => by
            rcases z.2 with z | z
            · exact hc1 z
            · exact d2 z.2)]
          refine ⟨K2, sc2, ar2, k2, ?_, r2, m2⟩
          simp only [e_63_0, e_63_1, e_63_2, e_63_5, e_63_6, e_63_7, e_63_10, e_63_11, e_63_12, e_63_15, e_63_18, e_63_19, e_63_20, e_63_23, e_63_26, e_63_27, e_63_30, e_63_31, e_63_32, e_63_33, e_63_36, e_63_37, e_63_38, e_63_39, e_63_42, e_63_45, e_63_46, e_63_47, e_63_48, e_63_51, List.length_cons, List.length_nil, Nat.reduceAdd, Nat.reduceLeDiff, Nat.zero_le, Option.bind_some, ck_63_60, ck_63_62, rk_63, rl_n, rl_s, wo_18, e0, if_neg q0, wg_18_9, hag, if_neg c1, if_pos c2, wg_18_6, wr_24 hb, hli, if_neg c3, e2]
      · have c2 : ¬ nI (x_L X 0).length = nI (x_go X) := fun z => d1 ((nI_eq (by omega) (by omega)).mp z)
        rw [if_neg (fun z => by
          rcases z.2 with z | z
          · exact hc1 z
          · exact d1 z.1)]
        refine ⟨K2, sc2, ar2, k2, ?_, r2, m2⟩
        simp only [e_63_0, e_63_1, e_63_2, e_63_5, e_63_6, e_63_7, e_63_10, e_63_11, e_63_12, e_63_15, e_63_18, e_63_19, e_63_20, e_63_23, e_63_26, e_63_27, e_63_30, e_63_31, e_63_32, e_63_33, e_63_36, e_63_37, e_63_38, e_63_39, e_63_42, e_63_45, e_63_46, e_63_47, e_63_48, e_63_51, List.length_cons, List.length_nil, Nat.reduceAdd, Nat.reduceLeDiff, Nat.zero_le, Option.bind_some, ck_63_60, ck_63_62, rk_63, rl_n, rl_s, wo_18, e0, if_neg q0, wg_18_9, hag, if_neg c1, if_neg c2, e2]
  · have hz : (x_L X 0).length = 0 := by omega
    have q0 : nI (x_L X 0).length ≤ 0 := by rw [hz]; decide
    rw [if_neg (fun z => hp z.1)]
    refine ⟨K2, sc2, ar2, k2, ?_, r2, m2⟩
    simp only [e_63_0, e_63_1, e_63_2, e_63_5, e_63_6, e_63_7, e_63_10, e_63_11, e_63_12, e_63_15, e_63_18, e_63_19, e_63_20, e_63_23, e_63_26, e_63_27, e_63_30, e_63_31, e_63_32, e_63_33, e_63_36, e_63_37, e_63_38, e_63_39, e_63_42, e_63_45, e_63_46, e_63_47, e_63_48, e_63_51, List.length_cons, List.length_nil, Nat.reduceAdd, Nat.reduceLeDiff, Nat.zero_le, Option.bind_some, ck_63_60, ck_63_62, rk_63, rl_n, rl_s, wo_18, e0, if_pos q0, e2]
theorem r_m_go (hr : r_m K sc ar X) (g : Nat) : r_m K (upd sc 11 (nI g)) ar (x_goal g X) := by
  obtain ⟨h0, h1, h2, h3, h4, h5, h6, h7, h8, h9, h10⟩ := hr
  exact ⟨h0, h1, h2, h3, h4, h5, h6, h7, h8, rfl, h10⟩
theorem r_m_forget (hr : r_m K sc ar X) (b : Nat) : r_m K sc (x_up ar 15 (upd (ar 15) b 0)) (x_forget b X) := by
  obtain ⟨h0, h1, h2, h3, h4, h5, h6, h7, h8, h9, h10⟩ := hr
  exact ⟨h0, h1, h2, h3, h4, h5, h6, r_sn_forget h7, h8, h9, h10⟩
theorem x_max_nI {a : Nat} (ha : a < 2 ^ 30) : (if nI a ≤ 1 then (1 : Int32) else nI a) = nI (max 1 a) := by
  by_cases h : a ≤ 1
  · rw [if_pos (show nI a ≤ 1 from nI_le (b := 1) h (by omega)), Nat.max_eq_left h]; rfl
  · rw [if_neg (show ¬ nI a ≤ 1 from nI_ge (a := 1) (by omega) (by omega)), Nat.max_eq_right (by omega)]
theorem m_missed (hr : r_m K sc ar X) (hi : x_iv X) (hK : K < 2 ^ 29) (hE : x_ep X < 2 ^ 28) {b : Nat} (hb : b < 16) : ∃ K' sc' ar', (K ≤ K' ∧ K' ≤ K + 2) ∧ ex_big S 64 0 [.inr 20, .inl (nI b), .inr 0, .inr 0, .inr 0, .inr 0, .inr 0] [] (mk_W N sc ar) 0 0 = some (none, mk_W N sc' ar') ∧ r_m K' sc' ar' (x_miss b X) ∧ s_X sc ar sc' ar' := by
  obtain ⟨hw, hz⟩ := hi
  have hC := hw.1
  have hls := hw.2.2.2.1
  have hgo := hw.2.2.2.2.2
  have l0 := x_len16 hls 0
  have l1 := x_len16 hls 1
  have l2 := x_len16 hls 2
  have l3 := x_len16 hls 3
  have hli := m_li hr hb
  have hmo : sc 9 = nI (x_C X) := hr.2.1
  have hag : sc 11 = nI (x_go X) := hr.2.2.2.2.2.2.2.2.2.1
  have e0 : ex_big S 60 0 [.inr 20, .inl 1, .inr 0, .inr 0] [] (mk_W N sc ar) 0 0 = some (some (nI (x_L X 0).length), mk_W N sc ar) := m_sizeOf (S := S) (N := N) hr hls (i := 0) (by omega)
  have e1 : ex_big S 60 0 [.inr 20, .inl 2, .inr 0, .inr 0] [] (mk_W N sc ar) 0 0 = some (some (nI (x_L X 1).length), mk_W N sc ar) := m_sizeOf (S := S) (N := N) hr hls (i := 1) (by omega)
  have e2 : ex_big S 60 0 [.inr 20, .inl 3, .inr 0, .inr 0] [] (mk_W N sc ar) 0 0 = some (some (nI (x_L X 2).length), mk_W N sc ar) := m_sizeOf (S := S) (N := N) hr hls (i := 2) (by omega)
  have e3 : ex_big S 60 0 [.inr 20, .inl 4, .inr 0, .inr 0] [] (mk_W N sc ar) 0 0 = some (some (nI (x_L X 3).length), mk_W N sc ar) := m_sizeOf (S := S) (N := N) hr hls (i := 3) (by omega)
  have c3 : nI (x_li (x_L X) b) = 3 ↔ b ∈ x_L X 2 := x_li_eqI hls (i := 2) (by omega)
  have c4 : nI (x_li (x_L X) b) = 4 ↔ b ∈ x_L X 3 := x_li_eqI hls (i := 3) (by omega)
  obtain ⟨z1, z2, z3, z4⟩ := hz
  have h2C : (2 : Int32) * nI (x_C X) = nI (2 * x_C X) := pk_mul 2 (x_C X)
  unfold x_miss
  by_cases g1 : b ∈ x_L X 2
  · rw [if_pos g1]
    have q1 : nI (x_li (x_L X) b) = 3 := c3.mpr g1
    have hp := List.length_pos_of_mem g1
    have hne : ¬ nI (x_L X 2).length = 0 := nI_ne0 hp (by omega)
    have hdv := pk_div (a := (x_L X 3).length) (d := (x_L X 2).length) (by omega) hp (by omega)
    have hdl : (x_L X 3).length / (x_L X 2).length ≤ (x_L X 3).length := Nat.div_le_self _ _
    generalize (x_L X 3).length / (x_L X 2).length = dv at hdv hdl ⊢
    generalize ht0 : max 1 dv = t
    have htt : (dv ≤ 1 → t = 1) ∧ (1 < dv → t = dv) := by omega
    have ht : t ≤ 16 := by omega
    generalize hg0 : min (x_C X) (x_go X + t) = g
    have hgC : g ≤ x_C X := by omega
    have hwg := x_wk_goal hw hgC
    have r1 := r_m_go hr g
    obtain ⟨K4, sc4, ar4, k4, e4, r4, m4⟩ := m_replaceFor (S := S) (N := N) r1 hwg (by omega) (by rw [x_goal_ep]; omega) hb
    have hwr := x_replace_wk hwg b
    obtain ⟨sc5, ar5, e5, r5, m5⟩ := m_comes (S := S) (N := N) r4 hwr.2.2.2.1 hb (i := 1) (by omega)
    have e5 : ex_big S 59 0 [.inr 20, .inl (nI b), .inl 2] [] (mk_W N sc4 ar4) 0 0 = some (none, mk_W N sc5 ar5) := e5
    refine ⟨K4 + 1, sc5, ar5, by omega, ?_, r5, s_X_tr (s_X_sc (j := 11) (by omega) _) (s_X_tr m4 m5)⟩
    have tail : ex_big S 64 61 [.inr 20, .inl (nI b), .inl (nI (x_L X 0).length), .inl (nI (x_L X 2).length), .inl (nI (x_L X 3).length), .inl (nI ((x_L X 0).length + (x_L X 2).length + (x_L X 3).length + (x_L X 1).length)), .inl (nI t)] [] (mk_W N sc ar) 0 0 = some (none, mk_W N sc5 ar5) := by
      by_cases hmn : x_go X + t ≤ x_C X
      · have q5 : nI g ≤ nI (x_C X) := nI_le (by omega) (by omega)
        have hgg : x_go X + t = g := by omega
        simp only [e_64_61, e_64_62, e_64_63, e_64_66, e_64_68, e_64_69, e_64_70, e_64_73, e_64_76, e_64_77, e_64_80, e_64_83, e_64_84, e_64_87, e_64_89, e_64_90, e_64_93, e_64_94, e_64_95, e_64_98, e_64_99, e_64_100, e_64_101, e_64_104, List.length_cons, List.length_nil, Nat.reduceAdd, Nat.reduceLeDiff, Nat.zero_le, Option.bind_some, ck_64_59, ck_64_63, ft_0, ft_10, ft_11, rl_n, rl_s, e_64_270, Nat.reduceAdd, rk_64, wg_18_0, wg_18_9, hag, hmo, nI_add, if_pos q5, hgg, wp_18_9, wo_18, e4, e5, if_true]
      · have q5 : ¬ nI (x_go X + t) ≤ nI (x_C X) := nI_ge (by omega) (by omega)
        have hgg : x_C X = g := by omega
        simp only [e_64_61, e_64_62, e_64_63, e_64_66, e_64_68, e_64_69, e_64_70, e_64_73, e_64_76, e_64_77, e_64_80, e_64_83, e_64_84, e_64_87, e_64_89, e_64_90, e_64_93, e_64_94, e_64_95, e_64_98, e_64_99, e_64_100, e_64_101, e_64_104, List.length_cons, List.length_nil, Nat.reduceAdd, Nat.reduceLeDiff, Nat.zero_le, Option.bind_some, ck_64_59, ck_64_63, ft_0, ft_10, ft_11, rl_n, rl_s, e_64_270, Nat.reduceAdd, rk_64, wg_18_0, wg_18_9, hag, hmo, nI_add, if_neg q5, wp_18_9, wo_18, if_true]
        rw [hgg]
        simp only [e_64_93, e_64_94, e_64_95, e_64_98, e_64_99, e_64_100, e_64_101, e_64_104, List.length_cons, List.length_nil, Nat.reduceAdd, Nat.reduceLeDiff, Nat.zero_le, Option.bind_some, ck_64_59, ck_64_63, rl_n, rl_s, e_64_270, Nat.reduceAdd, rk_64, wo_18, e4, e5]
    by_cases hd1 : dv ≤ 1
    · have q4 : nI dv ≤ 1 := nI_le (b := 1) hd1 (by omega)
      have htv : (1 : Int32) = nI t := by rw [htt.1 hd1]; rfl
      simp only [e_64_0, e_64_1, e_64_2, e_64_5, e_64_6, e_64_7, e_64_8, e_64_11, e_64_12, e_64_13, e_64_14, e_64_17, e_64_19, e_64_20, e_64_21, e_64_22, e_64_24, e_64_25, e_64_26, e_64_27, e_64_30, e_64_31, e_64_33, e_64_34, e_64_37, e_64_38, e_64_39, e_64_40, e_64_43, e_64_45, e_64_46, e_64_47, e_64_48, e_64_51, e_64_53, e_64_54, e_64_55, e_64_58, e_64_59, List.length_cons, List.length_nil, Nat.reduceAdd, Nat.reduceLeDiff, Nat.zero_le, Option.bind_some, ck_64_60, rl_n, rl_s, wo_18, e0, e1, e2, e3, nI_add, wg_18_6, wr_24 hb, hli, if_pos q1, if_neg hne, hdv, if_pos q4]
      rw [htv]
      exact tail
    · have q4 : ¬ nI dv ≤ 1 := nI_ge (a := 1) (by omega) (by omega)
      have htv : dv = t := (htt.2 (by omega)).symm
      simp only [e_64_0, e_64_1, e_64_2, e_64_5, e_64_6, e_64_7, e_64_8, e_64_11, e_64_12, e_64_13, e_64_14, e_64_17, e_64_19, e_64_20, e_64_21, e_64_22, e_64_24, e_64_25, e_64_26, e_64_27, e_64_30, e_64_31, e_64_33, e_64_34, e_64_37, e_64_38, e_64_39, e_64_40, e_64_43, e_64_45, e_64_46, e_64_47, e_64_48, e_64_51, e_64_53, e_64_54, e_64_55, e_64_58, e_64_59, List.length_cons, List.length_nil, Nat.reduceAdd, Nat.reduceLeDiff, Nat.zero_le, Option.bind_some, ck_64_60, rl_n, rl_s, wo_18, e0, e1, e2, e3, nI_add, wg_18_6, wr_24 hb, hli, if_pos q1, if_neg hne, hdv, if_neg q4]
      rw [htv]
      exact tail
  · rw [if_neg g1]
    have q1 : ¬ nI (x_li (x_L X) b) = 3 := fun z => g1 (c3.mp z)
    by_cases g2 : b ∈ x_L X 3
    · rw [if_pos g2]
      have q2 : nI (x_li (x_L X) b) = 4 := c4.mpr g2
      have q1' : ¬ (4 : Int32) = 3 := by decide
      have hp := List.length_pos_of_mem g2
      have hne : ¬ nI (x_L X 3).length = 0 := nI_ne0 hp (by omega)
      have hdv := pk_div (a := (x_L X 2).length) (d := (x_L X 3).length) (by omega) hp (by omega)
      have hdl : (x_L X 2).length / (x_L X 3).length ≤ (x_L X 2).length := Nat.div_le_self _ _
      generalize (x_L X 2).length / (x_L X 3).length = dv at hdv hdl ⊢
      generalize ht0 : max 1 dv = t
      have htt : (dv ≤ 1 → t = 1) ∧ (1 < dv → t = dv) := by omega
      have ht : t ≤ 16 := by omega
      generalize hg0 : x_go X - t = g
      have hgC : g ≤ x_C X := by omega
      have hwg := x_wk_goal hw hgC
      have r1 := r_m_go hr g
      obtain ⟨K4, sc4, ar4, k4, e4, r4, m4⟩ := m_replaceFor (S := S) (N := N) r1 hwg (by omega) (by rw [x_goal_ep]; omega) hb
      have hwr := x_replace_wk hwg b
      obtain ⟨sc5, ar5, e5, r5, m5⟩ := m_comes (S := S) (N := N) r4 hwr.2.2.2.1 hb (i := 1) (by omega)
      have e5 : ex_big S 59 0 [.inr 20, .inl (nI b), .inl 2] [] (mk_W N sc4 ar4) 0 0 = some (none, mk_W N sc5 ar5) := e5
      refine ⟨K4 + 1, sc5, ar5, by omega, ?_, r5, s_X_tr (s_X_sc (j := 11) (by omega) _) (s_X_tr m4 m5)⟩
      have tail : ex_big S 64 135 [.inr 20, .inl (nI b), .inl (nI (x_L X 0).length), .inl (nI (x_L X 2).length), .inl (nI (x_L X 3).length), .inl (nI ((x_L X 0).length + (x_L X 2).length + (x_L X 3).length + (x_L X 1).length)), .inl (nI t)] [] (mk_W N sc ar) 0 0 = some (none, mk_W N sc5 ar5) := by
        by_cases hmn : t ≤ x_go X
        · have q5 : (0 : Int32) ≤ nI g := nI_pos' (by omega)
          simp only [e_64_135, e_64_136, e_64_137, e_64_140, e_64_142, e_64_143, e_64_146, e_64_147, e_64_150, e_64_151, e_64_154, e_64_156, e_64_157, e_64_160, e_64_161, e_64_162, e_64_165, e_64_166, e_64_167, e_64_168, e_64_171, List.length_cons, List.length_nil, Nat.reduceAdd, Nat.reduceLeDiff, Nat.zero_le, Option.bind_some, ck_64_59, ck_64_63, ft_0, ft_10, ft_11, rl_n, rl_s, e_64_270, Nat.reduceAdd, rk_64, wg_18_9, hag, pk_sub hmn, if_pos q5, hg0, wp_18_9, wo_18, e4, e5, if_true]
        · have q6 : nI (x_go X) - nI t < 0 := pk_sneg (by omega) (by omega)
          have q5 : ¬ (0 : Int32) ≤ nI (x_go X) - nI t := fun z => Int32.lt_irrefl (Int32.lt_of_lt_of_le q6 z)
          have hg00 : (0 : Int32) = nI g := by rw [show g = 0 by omega]; rfl
          simp only [e_64_135, e_64_136, e_64_137, e_64_140, e_64_142, e_64_143, e_64_146, e_64_147, e_64_150, e_64_151, e_64_154, e_64_156, e_64_157, Nat.reduceAdd, Option.bind_some, ft_0, ft_10, ft_11, wg_18_9, hag, if_neg q5, wp_18_9, if_true]
          rw [hg00]
          simp only [e_64_160, e_64_161, e_64_162, e_64_165, e_64_166, e_64_167, e_64_168, e_64_171, List.length_cons, List.length_nil, Nat.reduceAdd, Nat.reduceLeDiff, Nat.zero_le, Option.bind_some, ck_64_59, ck_64_63, rl_n, rl_s, e_64_270, Nat.reduceAdd, rk_64, wo_18, e4, e5]
      by_cases hd1 : dv ≤ 1
      · have q4 : nI dv ≤ 1 := nI_le (b := 1) hd1 (by omega)
        have htv : (1 : Int32) = nI t := by rw [htt.1 hd1]; rfl
        simp only [e_64_0, e_64_1, e_64_2, e_64_5, e_64_6, e_64_7, e_64_8, e_64_11, e_64_12, e_64_13, e_64_14, e_64_17, e_64_19, e_64_20, e_64_21, e_64_22, e_64_24, e_64_25, e_64_26, e_64_27, e_64_30, e_64_31, e_64_33, e_64_34, e_64_37, e_64_38, e_64_39, e_64_40, List.length_cons, List.length_nil, Nat.reduceAdd, Nat.reduceLeDiff, Nat.zero_le, Option.bind_some, ck_64_60, rl_n, rl_s, e_64_107, e_64_108, e_64_111, e_64_112, e_64_113, e_64_114, e_64_117, e_64_118, e_64_120, e_64_121, e_64_122, e_64_125, e_64_126, e_64_128, e_64_129, e_64_132, e_64_133, Nat.reduceAdd, Option.bind_some, wo_18, e0, e1, e2, e3, nI_add, wg_18_6, wr_24 hb, hli, if_neg q1, if_pos q2, if_neg hne, hdv, if_pos q4]
        rw [htv]
        exact tail
      · have q4 : ¬ nI dv ≤ 1 := nI_ge (a := 1) (by omega) (by omega)
        have htv : dv = t := (htt.2 (by omega)).symm
        simp only [e_64_0, e_64_1, e_64_2, e_64_5, e_64_6, e_64_7, e_64_8, e_64_11, e_64_12, e_64_13, e_64_14, e_64_17, e_64_19, e_64_20, e_64_21, e_64_22, e_64_24, e_64_25, e_64_26, e_64_27, e_64_30, e_64_31, e_64_33, e_64_34, e_64_37, e_64_38, e_64_39, e_64_40, List.length_cons, List.length_nil, Nat.reduceAdd, Nat.reduceLeDiff, Nat.zero_le, Option.bind_some, ck_64_60, rl_n, rl_s, e_64_107, e_64_108, e_64_111, e_64_112, e_64_113, e_64_114, e_64_117, e_64_118, e_64_120, e_64_121, e_64_122, e_64_125, e_64_126, e_64_128, e_64_129, e_64_132, e_64_133, Nat.reduceAdd, Option.bind_some, wo_18, e0, e1, e2, e3, nI_add, wg_18_6, wr_24 hb, hli, if_neg q1, if_pos q2, if_neg hne, hdv, if_neg q4]
        rw [htv]
        exact tail
    · rw [if_neg g2]
      have q2 : ¬ nI (x_li (x_L X) b) = 4 := fun z => g2 (c4.mp z)
      -- the tail: b comes into R1
      have key : ∀ (K1 : Nat) (sc1 : Nat → Int32) (ar1 : Nat → Nat → Int32) (Y : xs_T) (l2 l3 l4 l5 : ex_V), r_m K1 sc1 ar1 Y → x_ls (x_L Y) → ∃ sc' ar', ex_big S 64 264 [.inr 20, .inl (nI b), l2, l3, l4, l5, .inr 0] [] (mk_W N sc1 ar1) 0 0 = some (none, mk_W N sc' ar') ∧ r_m (K1 + 1) sc' ar' (x_comes b 0 Y) ∧ s_X sc1 ar1 sc' ar' := by
        intro K1 sc1 ar1 Y a2 a3 a4 a5 hY hYl
        obtain ⟨sc5, ar5, e5, r5, m5⟩ := m_comes (S := S) (N := N) hY hYl hb (i := 0) (by omega)
        have e5 : ex_big S 59 0 [.inr 20, .inl (nI b), .inl 1] [] (mk_W N sc1 ar1) 0 0 = some (none, mk_W N sc5 ar5) := e5
        refine ⟨sc5, ar5, ?_, r5, m5⟩
        simp only [e_64_264, e_64_265, e_64_266, e_64_267, e_64_270, List.length_cons, List.length_nil, Nat.reduceAdd, Nat.reduceLeDiff, Nat.zero_le, Option.bind_some, ck_64_59, rk_64, rl_n, rl_s, wo_18, e5]
      unfold x_stranger
      by_cases c1 : (x_L X 0).length + (x_L X 2).length = x_C X
      · rw [if_pos c1]
        have p1 : nI ((x_L X 0).length + (x_L X 2).length) = nI (x_C X) := by rw [c1]
        by_cases c2 : 0 < (x_L X 2).length
        · rw [if_pos c2]
          have p2 : ¬ nI (x_L X 2).length ≤ 0 := nI_nle c2 (by omega)
          have f1 := m_nth (S := S) (N := N) hr hls (by omega) (i := 2) (by omega) 0
          rw [x_at_0 c2 l2] at f1
          have hm := x_head_mem c2
          generalize (x_L X 2).headD 0 = o at f1 hm ⊢
          have f1 : ex_big S 61 0 [.inr 20, .inl 3, .inl 0, .inr 0, .inr 0, .inr 0] [] (mk_W N sc ar) 0 0 = some (some (nI o), mk_W N sc ar) := f1
          have ho16 := (hls.2.1 2 o hm).1
          have hw2 := x_wk_forget hw hm (Nat.le_refl 2)
          obtain ⟨K4, sc4, ar4, k4, e4, r4, m4⟩ := m_replaceFor (S := S) (N := N) (r_m_forget hr o) hw2 (by omega) (by rw [x_forget_ep]; omega) hb
          obtain ⟨sc5, ar5, e5, r5, m5⟩ := key K4 sc4 ar4 _ (.inl (nI (x_L X 0).length)) (.inl (nI (x_L X 2).length)) (.inl (nI (x_L X 3).length)) (.inl (nI ((x_L X 0).length + (x_L X 2).length + (x_L X 3).length + (x_L X 1).length))) r4 (x_replace_wk hw2 b).2.2.2.1
          refine ⟨K4 + 1, sc5, ar5, by omega, ?_, r5, s_X_tr (s_X_ar (by omega) _) (s_X_tr m4 m5)⟩
          simp only [e_64_0, e_64_1, e_64_2, e_64_5, e_64_6, e_64_7, e_64_8, e_64_11, e_64_12, e_64_13, e_64_14, e_64_17, e_64_19, e_64_20, e_64_21, e_64_22, e_64_24, e_64_25, e_64_26, e_64_27, e_64_30, e_64_31, e_64_33, e_64_34, e_64_37, e_64_38, e_64_39, e_64_40, List.length_cons, List.length_nil, Nat.reduceAdd, Nat.reduceLeDiff, Nat.zero_le, Option.bind_some, ck_64_60, rl_n, rl_s, e_64_107, e_64_108, e_64_111, e_64_112, e_64_113, e_64_114, Nat.reduceAdd, Option.bind_some, e_64_174, e_64_175, e_64_176, e_64_177, e_64_178, e_64_181, e_64_184, e_64_185, e_64_188, e_64_189, e_64_192, e_64_193, e_64_194, e_64_195, e_64_198, e_64_199, e_64_200, e_64_201, e_64_202, e_64_205, List.length_cons, List.length_nil, Nat.reduceAdd, Nat.reduceLeDiff, Nat.zero_le, Option.bind_some, ck_64_61, ck_64_63, rl_n, rl_s, wo_18, e0, e1, e2, e3, nI_add, wg_18_0, wg_18_6, wr_24 hb, hli, hmo, if_neg q1, if_neg q2, if_pos p1, if_neg p2, f1, ww_24 ho16, e4, e5]
        · rw [if_neg c2]
          have hz0 : (x_L X 2).length = 0 := by omega
          have p2 : nI (x_L X 2).length ≤ 0 := by rw [hz0]; decide
          have hp : 0 < (x_L X 0).length := by omega
          obtain ⟨sc4, ar4, e4, r4, m4⟩ := m_giveUp_0 (S := S) (N := N) hr hw (by omega) (by omega) hp
          obtain ⟨sc5, ar5, e5, r5, m5⟩ := key (K + 1) sc4 ar4 _ (.inl (nI (x_L X 0).length)) (.inl (nI (x_L X 2).length)) (.inl (nI (x_L X 3).length)) (.inl (nI ((x_L X 0).length + (x_L X 2).length + (x_L X 3).length + (x_L X 1).length))) r4 (x_wk_gone hw).2.2.2.1
          refine ⟨K + 1 + 1, sc5, ar5, by omega, ?_, r5, s_X_tr m4 m5⟩
          simp only [e_64_0, e_64_1, e_64_2, e_64_5, e_64_6, e_64_7, e_64_8, e_64_11, e_64_12, e_64_13, e_64_14, e_64_17, e_64_19, e_64_20, e_64_21, e_64_22, e_64_24, e_64_25, e_64_26, e_64_27, e_64_30, e_64_31, e_64_33, e_64_34, e_64_37, e_64_38, e_64_39, e_64_40, List.length_cons, List.length_nil, Nat.reduceAdd, Nat.reduceLeDiff, Nat.zero_le, Option.bind_some, ck_64_60, rl_n, rl_s, e_64_107, e_64_108, e_64_111, e_64_112, e_64_113, e_64_114, Nat.reduceAdd, Option.bind_some, e_64_174, e_64_175, e_64_176, e_64_177, e_64_178, e_64_181, e_64_184, e_64_185, Nat.reduceAdd, Option.bind_some, e_64_208, e_64_209, e_64_210, e_64_211, e_64_212, e_64_215, e_64_218, e_64_219, e_64_220, e_64_221, e_64_224, List.length_cons, List.length_nil, Nat.reduceAdd, Nat.reduceLeDiff, Nat.zero_le, Option.bind_some, ck_64_62, rl_n, rl_s, wo_18, e0, e1, e2, e3, nI_add, wg_18_0, wg_18_6, wr_24 hb, hli, hmo, if_neg q1, if_neg q2, if_pos p1, if_pos p2, e4, e5]
      · rw [if_neg c1]
        have p1 : ¬ nI ((x_L X 0).length + (x_L X 2).length) = nI (x_C X) := fun z => c1 ((nI_eq (by omega) (by omega)).mp z)
        have hsum : (x_L X 0).length + (x_L X 2).length + (x_L X 1).length + (x_L X 3).length = (x_L X 0).length + (x_L X 2).length + (x_L X 3).length + (x_L X 1).length := by omega
        rw [hsum]
        by_cases c2 : x_C X ≤ (x_L X 0).length + (x_L X 2).length + (x_L X 3).length + (x_L X 1).length
        · rw [if_pos c2]
          have p2 : ¬ nI ((x_L X 0).length + (x_L X 2).length + (x_L X 3).length + (x_L X 1).length) < nI (x_C X) := nI_nlt c2 (by omega)
          by_cases c3 : (x_L X 0).length + (x_L X 2).length + (x_L X 3).length + (x_L X 1).length = 2 * x_C X
          · rw [if_pos c3]
            have p3 : nI ((x_L X 0).length + (x_L X 2).length + (x_L X 3).length + (x_L X 1).length) = nI (2 * x_C X) := by rw [c3]
            have hp : 0 < (x_L X 3).length := by omega
            have f1 := m_nth (S := S) (N := N) hr hls (by omega) (i := 3) (by omega) 0
            rw [x_at_0 hp l3] at f1
            have hm := x_head_mem hp
            generalize (x_L X 3).headD 0 = o at f1 hm ⊢
            have f1 : ex_big S 61 0 [.inr 20, .inl 4, .inl 0, .inr 0, .inr 0, .inr 0] [] (mk_W N sc ar) 0 0 = some (some (nI o), mk_W N sc ar) := f1
            have ho16 := (hls.2.1 3 o hm).1
            have hw2 := x_wk_forget hw hm (by omega)
            obtain ⟨K4, sc4, ar4, k4, e4, r4, m4⟩ := m_replaceFor (S := S) (N := N) (r_m_forget hr o) hw2 (by omega) (by rw [x_forget_ep]; omega) hb
            obtain ⟨sc5, ar5, e5, r5, m5⟩ := key K4 sc4 ar4 _ (.inl (nI (x_L X 0).length)) (.inl (nI (x_L X 2).length)) (.inl (nI (x_L X 3).length)) (.inl (nI ((x_L X 0).length + (x_L X 2).length + (x_L X 3).length + (x_L X 1).length))) r4 (x_replace_wk hw2 b).2.2.2.1
            refine ⟨K4 + 1, sc5, ar5, by omega, ?_, r5, s_X_tr (s_X_ar (by omega) _) (s_X_tr m4 m5)⟩
            simp only [e_64_0, e_64_1, e_64_2, e_64_5, e_64_6, e_64_7, e_64_8, e_64_11, e_64_12, e_64_13, e_64_14, e_64_17, e_64_19, e_64_20, e_64_21, e_64_22, e_64_24, e_64_25, e_64_26, e_64_27, e_64_30, e_64_31, e_64_33, e_64_34, e_64_37, e_64_38, e_64_39, e_64_40, List.length_cons, List.length_nil, Nat.reduceAdd, Nat.reduceLeDiff, Nat.zero_le, Option.bind_some, ck_64_60, rl_n, rl_s, e_64_107, e_64_108, e_64_111, e_64_112, e_64_113, e_64_114, Nat.reduceAdd, Option.bind_some, e_64_174, e_64_175, e_64_176, e_64_177, e_64_178, e_64_181, Nat.reduceAdd, Option.bind_some, e_64_208, e_64_209, e_64_210, e_64_211, e_64_212, e_64_215, Nat.reduceAdd, Option.bind_some, e_64_227, e_64_229, e_64_230, e_64_233, e_64_236, e_64_238, e_64_239, e_64_240, e_64_243, e_64_244, e_64_247, e_64_248, e_64_251, e_64_252, e_64_253, e_64_254, e_64_257, e_64_258, e_64_259, e_64_260, e_64_261, List.length_cons, List.length_nil, Nat.reduceAdd, Nat.reduceLeDiff, Nat.zero_le, Option.bind_some, ck_64_61, ck_64_63, rl_n, rl_s, wo_18, e0, e1, e2, e3, nI_add, wg_18_0, wg_18_6, wr_24 hb, hli, hmo, if_neg q1, if_neg q2, if_neg p1, if_neg p2, h2C, if_pos p3, f1, ww_24 ho16, e4, e5]
          · rw [if_neg c3]
            have p3 : ¬ nI ((x_L X 0).length + (x_L X 2).length + (x_L X 3).length + (x_L X 1).length) = nI (2 * x_C X) := fun z => c3 ((nI_eq (by omega) (by omega)).mp z)
            obtain ⟨K4, sc4, ar4, k4, e4, r4, m4⟩ := m_replaceFor (S := S) (N := N) hr hw (by omega) (by omega) hb
            obtain ⟨sc5, ar5, e5, r5, m5⟩ := key K4 sc4 ar4 _ (.inl (nI (x_L X 0).length)) (.inl (nI (x_L X 2).length)) (.inl (nI (x_L X 3).length)) (.inl (nI ((x_L X 0).length + (x_L X 2).length + (x_L X 3).length + (x_L X 1).length))) r4 (x_replace_wk hw b).2.2.2.1
            refine ⟨K4 + 1, sc5, ar5, by omega, ?_, r5, s_X_tr m4 m5⟩
            simp only [e_64_0, e_64_1, e_64_2, e_64_5, e_64_6, e_64_7, e_64_8, e_64_11, e_64_12, e_64_13, e_64_14, e_64_17, e_64_19, e_64_20, e_64_21, e_64_22, e_64_24, e_64_25, e_64_26, e_64_27, e_64_30, e_64_31, e_64_33, e_64_34, e_64_37, e_64_38, e_64_39, e_64_40, List.length_cons, List.length_nil, Nat.reduceAdd, Nat.reduceLeDiff, Nat.zero_le, Option.bind_some, ck_64_60, rl_n, rl_s, e_64_107, e_64_108, e_64_111, e_64_112, e_64_113, e_64_114, Nat.reduceAdd, Option.bind_some, e_64_174, e_64_175, e_64_176, e_64_177, e_64_178, e_64_181, Nat.reduceAdd, Option.bind_some, e_64_208, e_64_209, e_64_210, e_64_211, e_64_212, e_64_215, Nat.reduceAdd, Option.bind_some, e_64_227, e_64_229, e_64_230, e_64_233, e_64_236, e_64_238, e_64_239, e_64_240, e_64_243, e_64_244, e_64_247, e_64_248, e_64_251, e_64_252, e_64_253, e_64_254, e_64_257, e_64_258, e_64_259, e_64_260, e_64_261, List.length_cons, List.length_nil, Nat.reduceAdd, Nat.reduceLeDiff, Nat.zero_le, Option.bind_some, ck_64_61, ck_64_63, rl_n, rl_s, wo_18, e0, e1, e2, e3, nI_add, wg_18_0, wg_18_6, wr_24 hb, hli, hmo, if_neg q1, if_neg q2, if_neg p1, if_neg p2, h2C, if_neg p3, e4, e5]
        · rw [if_neg c2]
          have p2 : nI ((x_L X 0).length + (x_L X 2).length + (x_L X 3).length + (x_L X 1).length) < nI (x_C X) := nI_lt (by omega) (by omega)
          obtain ⟨sc5, ar5, e5, r5, m5⟩ := key K sc ar X (.inl (nI (x_L X 0).length)) (.inl (nI (x_L X 2).length)) (.inl (nI (x_L X 3).length)) (.inl (nI ((x_L X 0).length + (x_L X 2).length + (x_L X 3).length + (x_L X 1).length))) hr hls
          refine ⟨K + 1, sc5, ar5, by omega, ?_, r5, m5⟩
          simp only [e_64_0, e_64_1, e_64_2, e_64_5, e_64_6, e_64_7, e_64_8, e_64_11, e_64_12, e_64_13, e_64_14, e_64_17, e_64_19, e_64_20, e_64_21, e_64_22, e_64_24, e_64_25, e_64_26, e_64_27, e_64_30, e_64_31, e_64_33, e_64_34, e_64_37, e_64_38, e_64_39, e_64_40, List.length_cons, List.length_nil, Nat.reduceAdd, Nat.reduceLeDiff, Nat.zero_le, Option.bind_some, ck_64_60, rl_n, rl_s, e_64_107, e_64_108, e_64_111, e_64_112, e_64_113, e_64_114, Nat.reduceAdd, Option.bind_some, e_64_174, e_64_175, e_64_176, e_64_177, e_64_178, e_64_181, Nat.reduceAdd, Option.bind_some, e_64_208, e_64_209, e_64_210, e_64_211, e_64_212, e_64_215, Nat.reduceAdd, Option.bind_some, e_64_227, e_64_229, e_64_230, e_64_233, Nat.reduceAdd, Option.bind_some, wo_18, e0, e1, e2, e3, nI_add, wg_18_0, wg_18_6, wr_24 hb, hli, hmo, if_neg q1, if_neg q2, if_neg p1, if_pos p2, e5]
end RM4
