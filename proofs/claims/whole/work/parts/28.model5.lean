/-! the reference's calls -/
section RM5
variable {K N : Nat} {sc : Nat → Int32} {ar : Nat → Nat → Int32} {X : xs_T} {S : ex_S}
theorem r_m_put0 (hr : r_m K sc ar X) {b s : Nat} (n : Int32) : r_m K sc (x_up (x_up (x_up ar 12 (upd (ar 12) b (nI s))) 13 (upd (ar 13) b 0)) 11 (upd (ar 11) s n)) (x_put b s n none X) := by
  obtain ⟨h0, h1, h2, h3, h4, h5, h6, h7, h8, h9, h10, h11, h12, h13, h14, h15⟩ := hr
  refine ⟨h0, h1, h2, fun c hc => ?_, fun c hc => ?_, fun c hc => ?_, fun c d hc hd => ?_, h7, h8, h9, h10, h11, h12, h13, h14, h15⟩
  · show upd (ar 11) s n c = x_up (x_nu X) s n c
    by_cases hcb : c = s
    · subst hcb
      rw [pk_us, xu_s]
    · rw [pk_un hcb, xu_n hcb]; exact h3 c hc
  · show upd (ar 12) b (nI s) c = e_o (x_up (x_sl X) b (some s) c)
    by_cases hcb : c = b
    · subst hcb
      rw [pk_us, xu_s]; rfl
    · rw [pk_un hcb, xu_n hcb]; exact h4 c hc
  · show upd (ar 13) b 0 c = x_b (x_up (x_dt X) b none c).isSome
    by_cases hcb : c = b
    · subst hcb
      rw [pk_us, xu_s]; rfl
    · rw [pk_un hcb, xu_n hcb]; exact h5 c hc
  · have hd : x_up (x_dt X) b none c = some d := hd
    unfold x_up at hd
    split at hd
    · cases hd
    · exact h6 c d hc hd
theorem r_m_put1 (hr : r_m K sc ar X) {b s e : Nat} (n : Int32) : r_m K sc (x_up (x_up (x_up (x_up ar 12 (upd (ar 12) b (nI s))) 11 (upd (ar 11) s n)) 13 (upd (ar 13) b 1)) 14 (upd (ar 14) b (nI e))) (x_put b s n (some e) X) := by
  obtain ⟨h0, h1, h2, h3, h4, h5, h6, h7, h8, h9, h10, h11, h12, h13, h14, h15⟩ := hr
  refine ⟨h0, h1, h2, fun c hc => ?_, fun c hc => ?_, fun c hc => ?_, fun c d hc hd => ?_, h7, h8, h9, h10, h11, h12, h13, h14, h15⟩
  · show upd (ar 11) s n c = x_up (x_nu X) s n c
    by_cases hcb : c = s
    · subst hcb
      rw [pk_us, xu_s]
    · rw [pk_un hcb, xu_n hcb]; exact h3 c hc
  · show upd (ar 12) b (nI s) c = e_o (x_up (x_sl X) b (some s) c)
    by_cases hcb : c = b
    · subst hcb
      rw [pk_us, xu_s]; rfl
    · rw [pk_un hcb, xu_n hcb]; exact h4 c hc
  · show upd (ar 13) b 1 c = x_b (x_up (x_dt X) b (some e) c).isSome
    by_cases hcb : c = b
    · subst hcb
      rw [pk_us, xu_s]; rfl
    · rw [pk_un hcb, xu_n hcb]; exact h5 c hc
  · show upd (ar 14) b (nI e) c = nI d
    have hd : x_up (x_dt X) b (some e) c = some d := hd
    by_cases hcb : c = b
    · subst hcb
      rw [xu_s] at hd
      rw [pk_us, Option.some.inj hd]
    · rw [xu_n hcb] at hd
      rw [pk_un hcb]; exact h6 c d hc hd
theorem r_m_hi (hr : r_m K sc ar X) (h : Bool) : r_m K (upd sc 13 (x_b h)) ar (x_hit h X) := by
  obtain ⟨h0, h1, h2, h3, h4, h5, h6, h7, h8, h9, h10, h11, h12⟩ := hr
  exact ⟨h0, h1, h2, h3, h4, h5, h6, h7, h8, h9, h10, rfl, h12⟩
theorem x_slot_lt (hC : 1 ≤ x_C X) (h : x_pl (x_C X) (x_ep X) (x_sl X) (x_dt X)) : x_slot X < 2 * x_C X := by
  have := (x_frees_mem.mp (x_slot_mem hC h)).1
  rw [x_room_C] at this
  exact this
theorem x_room_st (X : xs_T) : x_st (x_room X) = x_st X := by
  unfold x_room
  split <;> rfl
theorem m_access (hr : r_m K sc ar X) (hi : x_iv X) (hK : K < 2 ^ 28) (hE : x_ep X < 2 ^ 27) {b : Nat} (hb : b < 16) : ∃ K' sc' ar', (K ≤ K' ∧ K' ≤ K + 2) ∧ ex_big S 65 0 [.inr 20, .inl (nI b), .inr 0] [] (mk_W N sc ar) 0 0 = some (none, mk_W N sc' ar') ∧ r_m K' sc' ar' (x_access b X) ∧ s_X sc ar sc' ar' := by
  have hls := hi.1.2.2.2.1
  have hli := m_li hr hb
  have c1 : nI (x_li (x_L X) b) = 1 ↔ b ∈ x_L X 0 := x_li_eqI hls (i := 0) (by omega)
  have c2 : nI (x_li (x_L X) b) = 2 ↔ b ∈ x_L X 1 := x_li_eqI hls (i := 1) (by omega)
  have z10 : ¬ (1 : Int32) = 0 := by decide
  have hhit : (b ∈ x_L X 0 ∨ b ∈ x_L X 1) → ∃ K' sc' ar', (K ≤ K' ∧ K' ≤ K + 2) ∧ ex_big S 65 29 [.inr 20, .inl (nI b), .inr 0] [] (mk_W N (upd sc 13 1) ar) 0 0 = some (none, mk_W N sc' ar') ∧ r_m K' sc' ar' (x_access b X) ∧ s_X sc ar sc' ar' := by
    intro hm
    have r1 : r_m K (upd sc 13 1) ar (x_hit true X) := r_m_hi hr true
    obtain ⟨sc5, ar5, e5, r5, m5⟩ := m_comes (S := S) (N := N) r1 hls hb (i := 1) (by omega)
    have e5 : ex_big S 59 0 [.inr 20, .inl (nI b), .inl 2] [] (mk_W N (upd sc 13 1) ar) 0 0 = some (none, mk_W N sc5 ar5) := e5
    have hx : x_access b X = x_comes b 1 (x_hit true X) := if_pos hm
    refine ⟨K + 1, sc5, ar5, by omega, ?_, by rw [hx]; exact r5, s_X_tr (s_X_sc (j := 13) (by omega) 1) m5⟩
    simp only [e_65_29, e_65_30, e_65_33, e_65_36, e_65_37, e_65_38, e_65_39, e_65_42, List.length_cons, List.length_nil, Nat.reduceAdd, Nat.reduceLeDiff, Nat.zero_le, Option.bind_some, ck_65_59, rk_65, rl_n, rl_s, wg_18_11, pk_us, if_neg z10, wo_18, e5]
  by_cases h0 : b ∈ x_L X 0
  · obtain ⟨K5, sc5, ar5, k5, e5, r5, m5⟩ := hhit (Or.inl h0)
    have q1 := c1.mpr h0
    refine ⟨K5, sc5, ar5, k5, ?_, r5, m5⟩
    simp only [e_65_0, e_65_1, e_65_2, e_65_5, e_65_6, e_65_7, e_65_8, e_65_11, e_65_12, e_65_15, e_65_16, e_65_17, e_65_18, e_65_21, e_65_22, e_65_25, e_65_26, Nat.reduceAdd, Option.bind_some, ft_0, ft_10, ft_11, wg_18_6, wr_24 hb, hli, if_pos q1, wp_18_11, e5, if_true]
  · have q1 : ¬ nI (x_li (x_L X) b) = 1 := fun z => h0 (c1.mp z)
    by_cases h1 : b ∈ x_L X 1
    · obtain ⟨K5, sc5, ar5, k5, e5, r5, m5⟩ := hhit (Or.inr h1)
      have q2 := c2.mpr h1
      have q1' : ¬ (2 : Int32) = 1 := by decide
      refine ⟨K5, sc5, ar5, k5, ?_, r5, m5⟩
      simp only [e_65_0, e_65_1, e_65_2, e_65_5, e_65_6, e_65_7, e_65_8, e_65_11, e_65_12, e_65_15, e_65_16, e_65_17, e_65_18, e_65_21, e_65_22, e_65_25, e_65_26, Nat.reduceAdd, Option.bind_some, ft_0, ft_10, ft_11, wg_18_6, wr_24 hb, hli, if_neg q1, if_pos q2, wp_18_11, e5, if_true]
    · have q2 : ¬ nI (x_li (x_L X) b) = 2 := fun z => h1 (c2.mp z)
      have r1 : r_m K (upd sc 13 0) ar (x_hit false X) := r_m_hi hr false
      have hi2 : x_iv (x_hit false X) := hi
      have hE2 : x_ep (x_hit false X) < 2 ^ 27 := hE
      obtain ⟨K4, sc4, ar4, k4, e4, r4, m4⟩ := m_missed (S := S) (N := N) r1 hi2 (by omega) (by omega) hb
      have hms := x_miss_ok hi2 hb h0 h1
      have hx : x_access b X = x_place b (x_st (x_miss b (x_hit false X)) b) false (x_miss b (x_hit false X)) := if_neg (fun z => by
        rcases z with z | z
        · exact h0 z
        · exact h1 z)
      rw [hx]
      generalize x_miss b (x_hit false X) = Y at r4 hms ⊢
      obtain ⟨mm1, mm2, mm3, mm4, mm5, mm6, mm7, mm8, mm9, mm10, mm11⟩ := hms
      have hbd : r_bd Y := r_bd_of mm3 mm4 (by omega)
      obtain ⟨sc5, ar5, e5, r5, m5⟩ := m_newSlot (S := S) (N := N) r4 hbd (x_room_ne mm1.1 mm3)
      have hsl := x_slot_lt mm1.1 mm3
      have hs14 : x_slot Y < 14 := by omega
      have hst : ar5 10 b = x_st Y b := by rw [r5.2.2.1 b hb, x_room_st]
      have r6 := r_m_put0 r5 (b := b) (s := x_slot Y) (x_st Y b)
      refine ⟨K4, sc5, _, k4, ?_, r6, s_X_tr (s_X_sc (j := 13) (by omega) 0) (s_X_tr m4 (s_X_tr m5 (s_X_tr (s_X_ar (by omega) _) (s_X_tr (s_X_ar (by omega) _) (s_X_ar (by omega) _)))))⟩
      have n13 : x_up ar5 12 (upd (ar5 12) b (nI (x_slot Y))) 13 = ar5 13 := rfl
      have n11 : ∀ f g, x_up (x_up ar5 12 f) 13 g 11 = ar5 11 := fun _ _ => rfl
      have n10 : ∀ f g, x_up (x_up ar5 12 f) 13 g 10 = ar5 10 := fun _ _ => rfl
      simp only [e_65_0, e_65_1, e_65_2, e_65_5, e_65_6, e_65_7, e_65_8, e_65_11, e_65_12, e_65_15, e_65_16, e_65_17, e_65_18, e_65_21, e_65_22, e_65_25, e_65_26, e_65_29, e_65_30, e_65_33, Nat.reduceAdd, Option.bind_some, ft_0, ft_10, ft_11, e_65_43, e_65_44, e_65_45, e_65_48, e_65_49, e_65_52, e_65_53, e_65_54, e_65_57, e_65_58, e_65_59, e_65_60, e_65_61, e_65_64, e_65_65, e_65_66, e_65_67, e_65_68, e_65_71, e_65_72, e_65_73, e_65_76, e_65_77, e_65_78, e_65_79, List.length_cons, List.length_nil, Nat.reduceAdd, Nat.reduceLeDiff, Nat.zero_le, Option.bind_some, ck_65_55, ck_65_64, rk_65, rl_n, rl_s, wg_18_6, wr_24 hb, hli, if_neg q1, if_neg q2, wp_18_11, wg_18_11, pk_us, if_true, wo_18, e4, e5, wg_18_3, ww_21 hb, wg_18_4, ww_22 hb, vn0, n13, wg_18_2, wg_18_1, wr_19 hb, n10, hst, ww_20 hs14, n11]
theorem g_read (hr : r_m K sc ar X) (hi : x_iv X) (hK : K < 2 ^ 28) (hE : x_ep X < 2 ^ 26) (a1 a2 : Int32) : ∃ K' sc' ar', (K ≤ K' ∧ K' ≤ K + 14) ∧ ex_big S 66 0 [.inr 20, .inl a1] [] (mk_W N sc ar) 0 0 = some (some (x_ans 0 a1 a2 X), mk_W N sc' ar') ∧ r_m K' sc' ar' (x_nxt 0 a1 a2 X) ∧ s_X sc ar sc' ar' := by
  have z10 : ¬ (1 : Int32) = 0 := by decide
  unfold x_ans x_nxt
  cases hb : x_blk a1 with
  | none =>
    refine ⟨K, sc, ar, by omega, ?_, hr, s_X_rf⟩
    simp only [e_66_0, e_66_1, e_66_4, e_66_7, e_66_8, e_66_9, e_66_10, e_66_11, e_66_14, e_66_15, e_66_18, e_66_19, e_66_22, e_66_23, e_66_24, e_66_25, List.length_cons, List.length_nil, Nat.reduceAdd, Nat.reduceLeDiff, Nat.zero_le, Option.bind_some, ck_66_50, ck_66_65, rk_66, rl_n, rl_s, m_isBlock_f (x_blk_none hb), if_true]
  | some b =>
    obtain ⟨rfl, hb16⟩ := x_blk_some hb
    obtain ⟨K1, sc1, ar1, k1, e1, r1, m1⟩ := m_access (S := S) (N := N) hr hi hK (by omega) hb16
    obtain ⟨i1, ⟨s, hs⟩, i3, i4⟩ := x_access_ok hi hb16
    have hsC := (i1.1.2.1.1 b s hs).2
    have hC := i1.1.1
    have q1 : ar1 12 b = nI s := by rw [r1.2.2.2.2.1 b hb16, hs]; rfl
    have q2 : ar1 11 s = x_says (x_access b X) b := by
      rw [r1.2.2.2.1 s hsC]
      unfold x_says
      rw [hs]
    refine ⟨K1, sc1, ar1, by omega, ?_, r1, m1⟩
    simp only [e_66_0, e_66_1, e_66_4, e_66_7, e_66_8, e_66_9, e_66_10, e_66_11, e_66_14, e_66_15, e_66_18, e_66_19, e_66_22, e_66_23, e_66_24, e_66_25, List.length_cons, List.length_nil, Nat.reduceAdd, Nat.reduceLeDiff, Nat.zero_le, Option.bind_some, ck_66_50, ck_66_65, rk_66, rl_n, rl_s, m_isBlock_t hb16, if_neg z10, wo_18, e1, wg_18_2, wg_18_3, wr_21 hb16, q1, wr_20 (show s < 14 by omega), q2]
theorem g_write (hr : r_m K sc ar X) (hi : x_iv X) (hK : K < 2 ^ 28) (hE : x_ep X < 2 ^ 26) (a1 a2 : Int32) : ∃ K' sc' ar', (K ≤ K' ∧ K' ≤ K + 14) ∧ ex_big S 67 0 [.inr 20, .inl a1, .inl a2, .inr 0] [] (mk_W N sc ar) 0 0 = some (some (x_ans 1 a1 a2 X), mk_W N sc' ar') ∧ r_m K' sc' ar' (x_nxt 1 a1 a2 X) ∧ s_X sc ar sc' ar' := by
  have z10 : ¬ (1 : Int32) = 0 := by decide
  unfold x_ans x_nxt
  cases hb : x_blk a1 with
  | none =>
    refine ⟨K, sc, ar, by omega, ?_, hr, s_X_rf⟩
    simp only [e_67_0, e_67_1, e_67_4, e_67_7, e_67_8, e_67_9, e_67_10, e_67_11, e_67_14, e_67_15, e_67_18, e_67_19, e_67_20, e_67_23, e_67_24, e_67_25, e_67_26, e_67_27, e_67_30, e_67_31, e_67_32, e_67_33, e_67_34, e_67_37, e_67_38, e_67_39, e_67_40, e_67_41, e_67_44, e_67_45, e_67_46, e_67_49, e_67_50, e_67_51, List.length_cons, List.length_nil, Nat.reduceAdd, Nat.reduceLeDiff, Nat.zero_le, Option.bind_some, ck_67_50, ck_67_55, ck_67_65, rk_67, rl_n, rl_s, m_isBlock_f (x_blk_none hb), if_true]
  | some b =>
    obtain ⟨rfl, hb16⟩ := x_blk_some hb
    obtain ⟨K1, sc1, ar1, k1, e1, r1, m1⟩ := m_access (S := S) (N := N) hr hi hK (by omega) hb16
    obtain ⟨i1, -, i3, i4⟩ := x_access_ok hi hb16
    have hC := i1.1.1
    show ∃ K' sc' ar', (K ≤ K' ∧ K' ≤ K + 14) ∧ ex_big S 67 0 [.inr 20, .inl (nI b), .inl a2, .inr 0] [] (mk_W N sc ar) 0 0 = some (some (nI (x_slot (x_access b X))), mk_W N sc' ar') ∧ r_m K' sc' ar' (x_put b (x_slot (x_access b X)) a2 (some (x_ep (x_room (x_access b X)))) (x_room (x_access b X))) ∧ s_X sc ar sc' ar'
    generalize x_access b X = Y at e1 r1 i1 i3 i4 hC ⊢
    obtain ⟨sc5, ar5, e5, r5, m5⟩ := m_newSlot (S := S) (N := N) r1 (r_bd_wk i1.1 (by omega)) (x_room_ne hC.1 i1.1.2.1)
    have hsl := x_slot_lt hC.1 i1.1.2.1
    have hs14 : x_slot Y < 14 := by omega
    have hep : sc5 12 = nI (x_ep (x_room Y)) := r5.2.2.2.2.2.2.2.2.2.2.1
    have r6 := r_m_put1 r5 (b := b) (s := x_slot Y) (e := x_ep (x_room Y)) a2
    refine ⟨K1, sc5, _, by omega, ?_, r6, s_X_tr m1 (s_X_tr m5 (s_X_tr (s_X_ar (j := 12) (by omega) _) (s_X_tr (s_X_ar (j := 11) (by omega) _) (s_X_tr (s_X_ar (j := 13) (by omega) _) (s_X_ar (j := 14) (by omega) _)))))⟩
    have n11 : ∀ f, x_up ar5 12 f 11 = ar5 11 := fun _ => rfl
    have n13 : ∀ f g, x_up (x_up ar5 12 f) 11 g 13 = ar5 13 := fun _ _ => rfl
    have n14 : ∀ f g h, x_up (x_up (x_up ar5 12 f) 11 g) 13 h 14 = ar5 14 := fun _ _ _ => rfl
    simp only [e_67_0, e_67_1, e_67_4, e_67_7, e_67_8, e_67_9, e_67_10, e_67_11, e_67_14, e_67_15, e_67_18, e_67_19, e_67_20, e_67_23, e_67_24, e_67_25, e_67_26, e_67_27, e_67_30, e_67_31, e_67_32, e_67_33, e_67_34, e_67_37, e_67_38, e_67_39, e_67_40, e_67_41, e_67_44, e_67_45, e_67_46, e_67_49, e_67_50, e_67_51, List.length_cons, List.length_nil, Nat.reduceAdd, Nat.reduceLeDiff, Nat.zero_le, Option.bind_some, ck_67_50, ck_67_55, ck_67_65, rk_67, rl_n, rl_s, m_isBlock_t hb16, if_neg z10, wo_18, e1, e5, wg_18_3, ww_21 hb16, wg_18_2, ww_20 hs14, n11, wg_18_4, ww_22 hb16, vn1, n13, wg_18_5, wg_18_10, hep, ww_23 hb16, n14]
theorem g_flush (hr : r_m K sc ar X) (a1 a2 : Int32) : ∃ K' sc' ar', (K ≤ K' ∧ K' ≤ K + 14) ∧ ex_big S 68 0 [.inr 20] [] (mk_W N sc ar) 0 0 = some (some (x_ans 2 a1 a2 X), mk_W N sc' ar') ∧ r_m K' sc' ar' (x_nxt 2 a1 a2 X) ∧ s_X sc ar sc' ar' := by
  obtain ⟨sc1, ar1, e1, r1, m1⟩ := m_flushed (S := S) (N := N) hr
  refine ⟨K, sc1, ar1, by omega, ?_, r1, m1⟩
  simp only [e_68_0, e_68_1, e_68_4, List.length_cons, List.length_nil, Nat.reduceAdd, Nat.reduceLeDiff, Nat.zero_le, Option.bind_some, ck_68_54, rk_68, rl_n, rl_s, wo_18, e1]
  rfl
theorem m_tick_loop (hr : r_m K sc ar X) (hbd : r_bd X) (hep0 : ∀ b d, x_dt X b = some d → d ≤ x_ep X) (hE : x_ep X < 2 ^ 29) {R : Option ex_R} (hR : ex_big S 69 59 [.inr 20, .inl (e_o (x_first (x_dt X) (x_ep X))), .inl (nI 16)] [] (mk_W N sc ar) 0 0 = R) : ∀ d k o, 16 - k = d → k ≤ 16 → p_bk (x_dt X) (x_ep X) k o → ex_big S 69 4 [.inr 20, .inl (e_o o), .inl (nI k)] [] (mk_W N sc ar) 0 0 = R := by
  have h13 := hr.2.2.2.2.2.1
  have h14 := hr.2.2.2.2.2.2.1
  have hpr : sc 12 = nI (x_ep X) := hr.2.2.2.2.2.2.2.2.2.2.1
  have z10 : ¬ (1 : Int32) = 0 := by decide
  intro d
  induction d with
  | zero =>
    intro k o hd hk ho
    have hk16 : k = 16 := by omega
    subst hk16
    have h3 : (16 : Int32) ≤ nI 16 := by decide
    rw [p_bk_end ho] at hR
    rw [e_69_4]
    simp only [e_69_5, e_69_7, Nat.reduceAdd, if_pos h3, hR]
  | succ d ih =>
    intro k o hd hk ho
    have hlt : k < 16 := by omega
    have h3 : ¬ (16 : Int32) ≤ nI k := nI_ge (a := k) (b := 16) hlt (by omega)
    rw [e_69_4]
    cases hdk : x_dt X k with
    | none =>
      have g1 : ar 13 k = 0 := by rw [h13 k hlt, hdk]; rfl
      have ihk := ih (k + 1) o (by omega) (by omega) (p_bk_keep ho (fun hel => by
        obtain ⟨-, dd, q, -⟩ := x_elig_mem.mp hel
        rw [hdk] at q; cases q))
      simp only [e_69_5, e_69_7, e_69_10, e_69_11, e_69_14, e_69_15, e_69_16, e_69_19, e_69_20, e_69_23, e_69_24, e_69_25, e_69_26, e_69_29, e_69_32, e_69_33, e_69_36, e_69_37, e_69_40, e_69_41, e_69_42, e_69_43, e_69_46, e_69_47, e_69_48, e_69_51, e_69_52, e_69_53, e_69_56, Nat.reduceAdd, Option.bind_some, if_neg h3, wg_18_4, wr_22 hlt, g1, if_true, nI_1, ihk]
    | some dk =>
      have g1 : ar 13 k = 1 := by rw [h13 k hlt, hdk]; rfl
      have g2 : ar 14 k = nI dk := h14 k dk hlt hdk
      have hdle := hep0 k dk hdk
      by_cases hlB : dk < x_ep X
      · have hel : k ∈ x_elig (x_dt X) (x_ep X) := x_elig_mem.mpr ⟨hlt, dk, hdk, hlB⟩
        have g3 : ¬ nI dk = nI (x_ep X) := fun q => by have := (nI_eq (by omega) (by omega)).mp q; omega
        cases o with
        | none =>
          have ihk := ih (k + 1) (some k) (by omega) (by omega) (p_bk_take ho hel (fun b0 q => by cases q))
          have ihk : ex_big S 69 4 [.inr 20, .inl (nI k), .inl (nI (k + 1))] [] (mk_W N sc ar) 0 0 = R := ihk
          have q : e_o none < 0 := by decide
          simp only [e_69_5, e_69_7, e_69_10, e_69_11, e_69_14, e_69_15, e_69_16, e_69_19, e_69_20, e_69_23, e_69_24, e_69_25, e_69_26, e_69_29, e_69_32, e_69_33, e_69_36, e_69_37, e_69_40, e_69_41, e_69_42, e_69_43, e_69_46, e_69_47, e_69_48, e_69_51, e_69_52, e_69_53, e_69_56, Nat.reduceAdd, Option.bind_some, if_neg h3, wg_18_4, wg_18_5, wg_18_10, hpr, wr_22 hlt, wr_23 hlt, g1, g2, if_neg z10, if_neg g3, if_pos q, nI_1, ihk]
        | some b0 =>
          obtain ⟨c1, c2, c3⟩ := ho
          obtain ⟨-, d0, c4, c5⟩ := x_elig_mem.mp c2
          have hb0 : b0 < 16 := by omega
          have g4 : ar 14 b0 = nI d0 := h14 b0 d0 hb0 c4
          have q : ¬ nI b0 < 0 := nI_pos (by omega)
          have q2 : e_o (some b0) = nI b0 := rfl
          by_cases hdd : dk < d0
          · have g5 : ¬ nI d0 ≤ nI dk := nI_ge hdd (by omega)
            have ihk := ih (k + 1) (some k) (by omega) (by omega) (p_bk_take (o := some b0) ⟨c1, c2, c3⟩ hel (fun b1 z => by
              cases z
              exact (x_before_iff hdk c4).mpr (Or.inl hdd)))
            have ihk : ex_big S 69 4 [.inr 20, .inl (nI k), .inl (nI (k + 1))] [] (mk_W N sc ar) 0 0 = R := ihk
            simp only [e_69_5, e_69_7, e_69_10, e_69_11, e_69_14, e_69_15, e_69_16, e_69_19, e_69_20, e_69_23, e_69_24, e_69_25, e_69_26, e_69_29, e_69_32, e_69_33, e_69_36, e_69_37, e_69_40, e_69_41, e_69_42, e_69_43, e_69_46, e_69_47, e_69_48, e_69_51, e_69_52, e_69_53, e_69_56, Nat.reduceAdd, Option.bind_some, if_neg h3, wg_18_4, wg_18_5, wg_18_10, hpr, wr_22 hlt, wr_23 hlt, g1, g2, if_neg z10, if_neg g3, if_neg q, q2, wr_23 hb0, g4, if_neg g5, nI_1, ihk]
          · have g5 : nI d0 ≤ nI dk := nI_le (by omega) (by omega)
            have ihk := ih (k + 1) (some b0) (by omega) (by omega) (p_bk_keep (o := some b0) ⟨c1, c2, c3⟩ (fun _ => ⟨b0, rfl, (x_before_iff c4 hdk).mpr (by omega)⟩))
            rw [q2] at ihk
            simp only [e_69_5, e_69_7, e_69_10, e_69_11, e_69_14, e_69_15, e_69_16, e_69_19, e_69_20, e_69_23, e_69_24, e_69_25, e_69_26, e_69_29, e_69_32, e_69_33, e_69_36, e_69_37, e_69_40, e_69_41, e_69_42, e_69_43, e_69_46, e_69_47, e_69_48, e_69_51, e_69_52, e_69_53, e_69_56, Nat.reduceAdd, Option.bind_some, if_neg h3, wg_18_4, wg_18_5, wg_18_10, hpr, wr_22 hlt, wr_23 hlt, g1, g2, if_neg z10, if_neg g3, if_neg q, q2, wr_23 hb0, g4, if_pos g5, nI_1, ihk]
      · have g3 : nI dk = nI (x_ep X) := by rw [show dk = x_ep X by omega]
        have ihk := ih (k + 1) o (by omega) (by omega) (p_bk_keep ho (fun hel => by
          obtain ⟨-, dd, z, z2⟩ := x_elig_mem.mp hel
          rw [hdk] at z
          cases z
          exact absurd z2 hlB))
        simp only [e_69_5, e_69_7, e_69_10, e_69_11, e_69_14, e_69_15, e_69_16, e_69_19, e_69_20, e_69_23, e_69_24, e_69_25, e_69_26, e_69_29, e_69_32, e_69_33, e_69_36, e_69_37, e_69_40, e_69_41, e_69_42, e_69_43, e_69_46, e_69_47, e_69_48, e_69_51, e_69_52, e_69_53, e_69_56, Nat.reduceAdd, Option.bind_some, if_neg h3, wg_18_4, wg_18_5, wg_18_10, hpr, wr_22 hlt, wr_23 hlt, g1, g2, if_neg z10, if_pos g3, nI_1, ihk]
theorem g_tick (hr : r_m K sc ar X) (hi : x_iv X) (hE : x_ep X < 2 ^ 26) (a1 a2 : Int32) : ∃ K' sc' ar', (K ≤ K' ∧ K' ≤ K + 14) ∧ ex_big S 69 0 [.inr 20, .inr 0, .inr 0] [] (mk_W N sc ar) 0 0 = some (some (x_ans 3 a1 a2 X), mk_W N sc' ar') ∧ r_m K' sc' ar' (x_nxt 3 a1 a2 X) ∧ s_X sc ar sc' ar' := by
  have hbd := r_bd_wk hi.1 (show x_ep X < 2 ^ 29 by omega)
  have loop := fun R hR => m_tick_loop (S := S) (N := N) hr hbd (fun b d h => (hi.1.2.1.2.2.1 b d h).1) (by omega) (R := R) hR 16 0 none (by omega) (by omega) (fun b q => absurd q (Nat.not_lt_zero b))
  show ∃ K' sc' ar', (K ≤ K' ∧ K' ≤ K + 14) ∧ ex_big S 69 0 [.inr 20, .inr 0, .inr 0] [] (mk_W N sc ar) 0 0 = some (some (e_o (x_first (x_dt X) (x_ep X))), mk_W N sc' ar') ∧ r_m K' sc' ar' (x_tick X) ∧ s_X sc ar sc' ar'
  unfold x_tick
  cases hf : x_first (x_dt X) (x_ep X) with
  | none =>
    rw [hf] at loop
    have q : e_o none < 0 := by decide
    have e1 := loop (some (some (e_o none), mk_W N sc ar)) (by simp only [e_69_59, e_69_60, e_69_63, e_69_64, e_69_65, e_69_68, e_69_69, List.length_cons, List.length_nil, Nat.reduceAdd, Nat.reduceLeDiff, Nat.zero_le, Option.bind_some, ck_69_57, rk_69, rl_n, rl_s, if_pos q])
    rw [nI_0] at e1
    have e1 : ex_big S 69 4 [.inr 20, .inl (-1), .inl 0] [] (mk_W N sc ar) 0 0 = some (some (e_o none), mk_W N sc ar) := e1
    refine ⟨K, sc, ar, by omega, ?_, hr, s_X_rf⟩
    simp only [e_69_0, e_69_1, e_69_2, e_69_3, Nat.reduceAdd, e1]
  | some b =>
    rw [hf] at loop
    obtain ⟨hb16, d, g1, g2⟩ := x_elig_mem.mp (x_first_mem hf)
    obtain ⟨-, s, hs⟩ := hbd.2.2.1 b d g1
    obtain ⟨sc1, ar1, e2, r2, m2⟩ := m_drain (S := S) (N := N) hr hbd hs
    have q : ¬ nI b < 0 := nI_pos (by omega)
    have q2 : e_o (some b) = nI b := rfl
    have e1 := loop (some (some (e_o (some b)), mk_W N sc1 ar1)) (by simp only [e_69_59, e_69_60, e_69_63, e_69_64, e_69_65, e_69_68, e_69_69, List.length_cons, List.length_nil, Nat.reduceAdd, Nat.reduceLeDiff, Nat.zero_le, Option.bind_some, ck_69_57, rk_69, rl_n, rl_s, q2, if_neg q, wo_18, e2])
    rw [nI_0] at e1
    have e1 : ex_big S 69 4 [.inr 20, .inl (-1), .inl 0] [] (mk_W N sc ar) 0 0 = some (some (e_o (some b)), mk_W N sc1 ar1) := e1
    refine ⟨K, sc1, ar1, by omega, ?_, r2, m2⟩
    simp only [e_69_0, e_69_1, e_69_2, e_69_3, Nat.reduceAdd, e1]
theorem g_hit (hr : r_m K sc ar X) (a1 a2 : Int32) : ex_big S 75 0 [.inr 20] [] (mk_W N sc ar) 0 0 = some (some (x_ans 7 a1 a2 X), mk_W N sc ar) := by
  have h : sc 13 = x_b (x_hi X) := hr.2.2.2.2.2.2.2.2.2.2.2.1
  have h2 : x_b (x_hi X) = 0 ∨ x_b (x_hi X) = 1 := by
    cases x_hi X
    · exact Or.inl rfl
    · exact Or.inr rfl
  simp only [e_75_0, e_75_1, e_75_4, Nat.reduceAdd, Option.bind_some, false_or, or_false, or_true, rk_75, true_or, wg_18_11, h, h2]
  rfl
theorem g_says (hr : r_m K sc ar X) (hbd : r_bd X) (a1 a2 : Int32) : ex_big S 76 0 [.inr 20, .inl a1] [] (mk_W N sc ar) 0 0 = some (some (x_ans 8 a1 a2 X), mk_W N sc ar) := by
  have z10 : ¬ (1 : Int32) = 0 := by decide
  have hC := hr.1
  unfold x_ans
  cases hb : x_blk a1 with
  | none => simp only [e_76_0, e_76_1, e_76_4, e_76_7, e_76_8, e_76_11, e_76_12, e_76_15, e_76_16, e_76_17, e_76_20, e_76_21, e_76_24, e_76_25, e_76_28, e_76_29, e_76_30, e_76_31, e_76_34, e_76_35, e_76_38, e_76_39, e_76_40, List.length_cons, List.length_nil, Nat.reduceAdd, Nat.reduceLeDiff, Nat.zero_le, Option.bind_some, ck_76_50, rk_76, rl_n, rl_s, m_isBlock_f (x_blk_none hb), if_true]
  | some b =>
    obtain ⟨rfl, hb16⟩ := x_blk_some hb
    unfold x_says
    cases hs : x_sl X b with
    | none =>
      have q1 : ar 12 b = -1 := by rw [hr.2.2.2.2.1 b hb16, hs]; rfl
      have q2 : (-1 : Int32) < 0 := by decide
      simp only [e_76_0, e_76_1, e_76_4, e_76_7, e_76_8, e_76_11, e_76_12, e_76_15, e_76_16, e_76_17, e_76_20, e_76_21, e_76_24, e_76_25, e_76_28, e_76_29, e_76_30, e_76_31, e_76_34, e_76_35, e_76_38, e_76_39, e_76_40, List.length_cons, List.length_nil, Nat.reduceAdd, Nat.reduceLeDiff, Nat.zero_le, Option.bind_some, ck_76_50, rk_76, rl_n, rl_s, m_isBlock_t hb16, if_neg z10, wg_18_3, wr_21 hb16, q1, if_pos q2, wg_18_1, wr_19 hb16, hr.2.2.1 b hb16, hs]
    | some s =>
      have hsC := (hbd.1 b s hs).2
      have q1 : ar 12 b = nI s := by rw [hr.2.2.2.2.1 b hb16, hs]; rfl
      have q2 : ¬ nI s < 0 := nI_pos (by omega)
      simp only [e_76_0, e_76_1, e_76_4, e_76_7, e_76_8, e_76_11, e_76_12, e_76_15, e_76_16, e_76_17, e_76_20, e_76_21, e_76_24, e_76_25, e_76_28, e_76_29, e_76_30, e_76_31, e_76_34, e_76_35, e_76_38, e_76_39, e_76_40, List.length_cons, List.length_nil, Nat.reduceAdd, Nat.reduceLeDiff, Nat.zero_le, Option.bind_some, ck_76_50, rk_76, rl_n, rl_s, m_isBlock_t hb16, if_neg z10, wg_18_3, wr_21 hb16, q1, if_neg q2, wg_18_2, wr_20 (show s < 14 by omega), hr.2.2.2.1 s hsC, hs]
theorem g_stored (hr : r_m K sc ar X) (a1 a2 : Int32) : ex_big S 77 0 [.inr 20, .inl a1] [] (mk_W N sc ar) 0 0 = some (some (x_ans 9 a1 a2 X), mk_W N sc ar) := by
  have z10 : ¬ (1 : Int32) = 0 := by decide
  unfold x_ans
  cases hb : x_blk a1 with
  | none => simp only [e_77_0, e_77_1, e_77_4, e_77_7, e_77_8, e_77_11, e_77_12, e_77_13, e_77_16, e_77_17, List.length_cons, List.length_nil, Nat.reduceAdd, Nat.reduceLeDiff, Nat.zero_le, Option.bind_some, ck_77_50, rk_77, rl_n, rl_s, m_isBlock_f (x_blk_none hb), if_true]
  | some b =>
    obtain ⟨rfl, hb16⟩ := x_blk_some hb
    simp only [e_77_0, e_77_1, e_77_4, e_77_7, e_77_8, e_77_11, e_77_12, e_77_13, e_77_16, e_77_17, List.length_cons, List.length_nil, Nat.reduceAdd, Nat.reduceLeDiff, Nat.zero_le, Option.bind_some, ck_77_50, rk_77, rl_n, rl_s, m_isBlock_t hb16, if_neg z10, wg_18_1, wr_19 hb16, hr.2.2.1 b hb16]
theorem g_slot (hr : r_m K sc ar X) (a1 a2 : Int32) : ex_big S 78 0 [.inr 20, .inl a1] [] (mk_W N sc ar) 0 0 = some (some (x_ans 10 a1 a2 X), mk_W N sc ar) := by
  have z10 : ¬ (1 : Int32) = 0 := by decide
  unfold x_ans
  cases hb : x_blk a1 with
  | none => simp only [e_78_0, e_78_1, e_78_4, e_78_7, e_78_8, e_78_11, e_78_12, e_78_13, e_78_16, e_78_17, List.length_cons, List.length_nil, Nat.reduceAdd, Nat.reduceLeDiff, Nat.zero_le, Option.bind_some, ck_78_50, rk_78, rl_n, rl_s, m_isBlock_f (x_blk_none hb), if_true]
  | some b =>
    obtain ⟨rfl, hb16⟩ := x_blk_some hb
    simp only [e_78_0, e_78_1, e_78_4, e_78_7, e_78_8, e_78_11, e_78_12, e_78_13, e_78_16, e_78_17, List.length_cons, List.length_nil, Nat.reduceAdd, Nat.reduceLeDiff, Nat.zero_le, Option.bind_some, ck_78_50, rk_78, rl_n, rl_s, m_isBlock_t hb16, if_neg z10, wg_18_3, wr_21 hb16, hr.2.2.2.2.1 b hb16]
theorem g_named (hr : r_m K sc ar X) (a1 a2 : Int32) : ex_big S 79 0 [.inr 20, .inl a1] [] (mk_W N sc ar) 0 0 = some (some (x_ans 11 a1 a2 X), mk_W N sc ar) := by
  have z10 : ¬ (1 : Int32) = 0 := by decide
  unfold x_ans
  cases hb : x_blk a1 with
  | none => simp only [e_79_0, e_79_1, e_79_4, e_79_7, e_79_8, e_79_11, e_79_12, e_79_13, e_79_16, e_79_17, List.length_cons, List.length_nil, Nat.reduceAdd, Nat.reduceLeDiff, Nat.zero_le, Option.bind_some, ck_79_50, rk_79, rl_n, rl_s, m_isBlock_f (x_blk_none hb), if_true]
  | some b =>
    obtain ⟨rfl, hb16⟩ := x_blk_some hb
    simp only [e_79_0, e_79_1, e_79_4, e_79_7, e_79_8, e_79_11, e_79_12, e_79_13, e_79_16, e_79_17, List.length_cons, List.length_nil, Nat.reduceAdd, Nat.reduceLeDiff, Nat.zero_le, Option.bind_some, ck_79_50, rk_79, rl_n, rl_s, m_isBlock_t hb16, if_neg z10, wg_18_13, wr_26 hb16, hr.2.2.2.2.2.2.2.2.2.2.2.2.2.1 b hb16]
theorem g_epoch (hr : r_m K sc ar X) (a1 a2 : Int32) : ex_big S 80 0 [.inr 20, .inl a1] [] (mk_W N sc ar) 0 0 = some (some (x_ans 12 a1 a2 X), mk_W N sc ar) := by
  have z10 : ¬ (1 : Int32) = 0 := by decide
  unfold x_ans
  cases hb : x_blk a1 with
  | none => simp only [e_80_0, e_80_1, e_80_4, e_80_7, e_80_8, e_80_11, e_80_12, e_80_13, e_80_16, e_80_17, e_80_20, e_80_21, e_80_22, e_80_25, e_80_26, List.length_cons, List.length_nil, Nat.reduceAdd, Nat.reduceLeDiff, Nat.zero_le, Option.bind_some, ck_80_50, rk_80, rl_n, rl_s, m_isBlock_f (x_blk_none hb), if_true]
  | some b =>
    obtain ⟨rfl, hb16⟩ := x_blk_some hb
    cases hd : x_dt X b with
    | none =>
      have q1 : ar 13 b = 0 := by rw [hr.2.2.2.2.2.1 b hb16, hd]; rfl
      simp only [e_80_0, e_80_1, e_80_4, e_80_7, e_80_8, e_80_11, e_80_12, e_80_13, e_80_16, e_80_17, e_80_20, e_80_21, e_80_22, e_80_25, e_80_26, List.length_cons, List.length_nil, Nat.reduceAdd, Nat.reduceLeDiff, Nat.zero_le, Option.bind_some, ck_80_50, rk_80, rl_n, rl_s, m_isBlock_t hb16, if_neg z10, wg_18_4, wr_22 hb16, q1, if_true, hd]
      rfl
    | some d =>
      have q1 : ar 13 b = 1 := by rw [hr.2.2.2.2.2.1 b hb16, hd]; rfl
      simp only [e_80_0, e_80_1, e_80_4, e_80_7, e_80_8, e_80_11, e_80_12, e_80_13, e_80_16, e_80_17, e_80_20, e_80_21, e_80_22, e_80_25, e_80_26, List.length_cons, List.length_nil, Nat.reduceAdd, Nat.reduceLeDiff, Nat.zero_le, Option.bind_some, ck_80_50, rk_80, rl_n, rl_s, m_isBlock_t hb16, if_neg z10, wg_18_4, wr_22 hb16, q1, wg_18_5, wr_23 hb16, hr.2.2.2.2.2.2.1 b d hb16 hd, hd]
      rfl
theorem g_list (hr : r_m K sc ar X) (a1 a2 : Int32) : ex_big S 81 0 [.inr 20, .inl a1] [] (mk_W N sc ar) 0 0 = some (some (x_ans 13 a1 a2 X), mk_W N sc ar) := by
  have z10 : ¬ (1 : Int32) = 0 := by decide
  unfold x_ans
  cases hb : x_blk a1 with
  | none => simp only [e_81_0, e_81_1, e_81_4, e_81_7, e_81_8, e_81_11, e_81_12, e_81_13, e_81_16, e_81_17, List.length_cons, List.length_nil, Nat.reduceAdd, Nat.reduceLeDiff, Nat.zero_le, Option.bind_some, ck_81_50, rk_81, rl_n, rl_s, m_isBlock_f (x_blk_none hb), if_true]
  | some b =>
    obtain ⟨rfl, hb16⟩ := x_blk_some hb
    simp only [e_81_0, e_81_1, e_81_4, e_81_7, e_81_8, e_81_11, e_81_12, e_81_13, e_81_16, e_81_17, List.length_cons, List.length_nil, Nat.reduceAdd, Nat.reduceLeDiff, Nat.zero_le, Option.bind_some, ck_81_50, rk_81, rl_n, rl_s, m_isBlock_t hb16, if_neg z10, wg_18_6, wr_24 hb16, m_li hr hb16]
theorem g_member (hr : r_m K sc ar X) (hls : x_ls (x_L X)) (hK : K < 2 ^ 30) (a1 a2 : Int32) : ex_big S 82 0 [.inr 20, .inl a1, .inl a2] [] (mk_W N sc ar) 0 0 = some (some (x_ans 14 a1 a2 X), mk_W N sc ar) := by
  unfold x_ans
  cases hb : x_lst a1 with
  | none =>
    by_cases h1 : a1 < 1
    · simp only [e_82_0, e_82_1, e_82_2, e_82_5, e_82_6, e_82_7, e_82_10, e_82_11, e_82_14, e_82_15, e_82_18, e_82_19, e_82_20, e_82_21, e_82_24, List.length_cons, List.length_nil, Nat.reduceAdd, Nat.reduceLeDiff, Nat.zero_le, Option.bind_some, ck_82_61, rk_82, rl_n, rl_s, if_pos h1]
    · have h2 : (4 : Int32) < a1 := (x_lst_none hb).resolve_left h1
      simp only [e_82_0, e_82_1, e_82_2, e_82_5, e_82_6, e_82_7, e_82_10, e_82_11, e_82_14, e_82_15, e_82_18, e_82_19, e_82_20, e_82_21, e_82_24, List.length_cons, List.length_nil, Nat.reduceAdd, Nat.reduceLeDiff, Nat.zero_le, Option.bind_some, ck_82_61, rk_82, rl_n, rl_s, if_neg h1, if_pos h2]
  | some i =>
    obtain ⟨rfl, hi⟩ := x_lst_some hb
    have h1 : ¬ nI (i + 1) < 1 := nI_nlt (b := 1) (by omega) (by omega)
    have h2 : ¬ (4 : Int32) < nI (i + 1) := nI_nlt (a := 4) (by omega) (by omega)
    by_cases h3 : (0 : Int32) ≤ a2
    · have e1 := m_nth (S := S) (N := N) hr hls hK hi a2
      simp only [e_82_0, e_82_1, e_82_2, e_82_5, e_82_6, e_82_7, e_82_10, e_82_11, e_82_14, e_82_15, e_82_18, e_82_19, e_82_20, e_82_21, e_82_24, List.length_cons, List.length_nil, Nat.reduceAdd, Nat.reduceLeDiff, Nat.zero_le, Option.bind_some, ck_82_61, rk_82, rl_n, rl_s, if_neg h1, if_neg h2, if_pos h3, wo_18, e1]
    · have h4 : a2 < 0 := Int32.not_le.mp h3
      have q : x_at (x_L X i) a2 = -1 := if_pos (Or.inl h4)
      simp only [e_82_0, e_82_1, e_82_2, e_82_5, e_82_6, e_82_7, e_82_10, e_82_11, e_82_14, e_82_15, e_82_18, e_82_19, e_82_20, e_82_21, e_82_24, List.length_cons, List.length_nil, Nat.reduceAdd, Nat.reduceLeDiff, Nat.zero_le, Option.bind_some, ck_82_61, rk_82, rl_n, rl_s, if_neg h1, if_neg h2, if_neg h3, q]
theorem g_target (hr : r_m K sc ar X) (a1 a2 : Int32) : ex_big S 83 0 [.inr 20] [] (mk_W N sc ar) 0 0 = some (some (x_ans 15 a1 a2 X), mk_W N sc ar) := by
  have h : sc 11 = nI (x_go X) := hr.2.2.2.2.2.2.2.2.2.1
  simp only [e_83_0, e_83_1, e_83_4, Nat.reduceAdd, Option.bind_some, rk_83, wg_18_9, h]
  rfl
theorem g_drained (hr : r_m K sc ar X) (a1 a2 : Int32) : ex_big S 85 0 [.inr 20] [] (mk_W N sc ar) 0 0 = some (some (x_ans 17 a1 a2 X), mk_W N sc ar) := by
  have h : sc 14 = x_dr X := hr.2.2.2.2.2.2.2.2.2.2.2.2.1
  simp only [e_85_0, e_85_1, e_85_4, Nat.reduceAdd, Option.bind_some, rk_85, wg_18_12, h]
  rfl
theorem g_free_loop (hr : r_m K sc ar X) (hbd : r_bd X) : ∀ d k, 2 * x_C X - k = d → k ≤ 2 * x_C X → ex_big S 84 4 [.inr 20, .inl (nI (p_fc X k)), .inl (nI k)] [] (mk_W N sc ar) 0 0 = some (some (nI (p_fc X (2 * x_C X))), mk_W N sc ar) := by
  have hC := hr.1
  have hm : sc 9 = nI (x_C X) := hr.2.1
  have h2C : (2 : Int32) * nI (x_C X) = nI (2 * x_C X) := pk_mul 2 (x_C X)
  have z10 : ¬ (1 : Int32) = 0 := by decide
  intro d
  induction d with
  | zero =>
    intro k hd hk
    have h3 : nI (2 * x_C X) ≤ nI k := nI_le (by omega) (by omega)
    have hkN : k = 2 * x_C X := by omega
    rw [e_84_4]
    simp only [e_84_5, e_84_6, e_84_7, e_84_10, e_84_11, e_84_14, e_84_15, e_84_16, e_84_19, e_84_22, e_84_23, e_84_24, e_84_25, e_84_28, e_84_29, e_84_30, e_84_33, e_84_36, e_84_37, List.length_cons, List.length_nil, Nat.reduceAdd, Nat.reduceLeDiff, Nat.zero_le, Option.bind_some, ck_84_51, rk_84, rl_n, rl_s, wg_18_0, hm, h2C, if_pos h3]
    rw [hkN]
  | succ d ih =>
    intro k hd hk
    have hlt : k < 2 * x_C X := by omega
    have h3 : ¬ nI (2 * x_C X) ≤ nI k := nI_ge hlt (by omega)
    have ihk := ih (k + 1) (by omega) (by omega)
    rw [p_fc_s] at ihk
    have e1 := m_isFree (S := S) (N := N) hr hbd hlt
    rw [e_84_4]
    by_cases hg : x_free X k = true
    · rw [if_pos hg] at ihk e1
      simp only [e_84_5, e_84_6, e_84_7, e_84_10, e_84_11, e_84_14, e_84_15, e_84_16, e_84_19, e_84_22, e_84_23, e_84_24, e_84_25, e_84_28, e_84_29, e_84_30, e_84_33, List.length_cons, List.length_nil, Nat.reduceAdd, Nat.reduceLeDiff, Nat.zero_le, Option.bind_some, ck_84_51, rl_n, rl_s, wg_18_0, hm, h2C, wo_18, if_neg h3, e1, if_neg z10, nI_1, ihk]
    · rw [if_neg hg] at e1
      rw [if_neg hg, Nat.add_zero (p_fc X k)] at ihk
      simp only [e_84_5, e_84_6, e_84_7, e_84_10, e_84_11, e_84_14, e_84_15, e_84_16, e_84_19, e_84_22, e_84_23, e_84_24, e_84_25, e_84_28, e_84_29, e_84_30, e_84_33, List.length_cons, List.length_nil, Nat.reduceAdd, Nat.reduceLeDiff, Nat.zero_le, Option.bind_some, ck_84_51, rl_n, rl_s, wg_18_0, hm, h2C, wo_18, if_neg h3, e1, if_true, nI_1, ihk]
theorem g_free (hr : r_m K sc ar X) (hbd : r_bd X) (a1 a2 : Int32) : ex_big S 84 0 [.inr 20, .inr 0, .inr 0] [] (mk_W N sc ar) 0 0 = some (some (x_ans 16 a1 a2 X), mk_W N sc ar) := by
  have e := g_free_loop (S := S) (N := N) hr hbd (2 * x_C X) 0 (by omega) (by omega)
  have e0 : p_fc X 0 = 0 := rfl
  rw [e0, nI_0] at e
  have e : ex_big S 84 4 [.inr 20, .inl 0, .inl 0] [] (mk_W N sc ar) 0 0 = some (some (x_ans 16 a1 a2 X), mk_W N sc ar) := e
  simp only [e_84_0, e_84_1, e_84_2, e_84_3, Nat.reduceAdd, e]
end RM5
