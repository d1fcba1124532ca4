/-! the class's accesses -/
section CL3
variable {S : ex_S} {N : Nat} {sc : Nat → Int32} {ar : Nat → Nat → Int32} {X : xs_T}
theorem mp_up2 {ar : Nat → Nat → Int32} {f g : Nat → Int32} : x_up (x_up ar 2 f) 3 g = mk_P 0 ar f g := rfl
theorem x_nofree {s : Nat} (hr : r_x N sc ar X) (h : s ∈ x_frees X) : ∀ c, x_sl X c ≠ some s := by
  intro c hc
  have h5 := hr.2.2.2.2.1
  exact ((x_frees_mem.mp h).2 c (h5.1 c s hc).1).1 hc
theorem c_place (hr : r_x N sc ar X) {b : Nat} (hb : b < 16) (n : Int32) (dirty : Bool) (hf : x_frees (x_room X) ≠ []) (hE : x_ep X < 2 ^ 29) : ∃ sc' ar', ex_big S 42 0 [.inr 2, .inl (nI b), .inl n, .inl (x_b dirty), .inr 0, .inr 0] [] (mk_W N sc ar) 0 0 = some (some (nI (x_slot X)), mk_W N sc' ar') ∧ r_x N sc' ar' (x_place b n dirty X) ∧ s_M sc ar sc' ar' := by
  have hN := r_x_N14 hr
  have hC := hr.1
  obtain ⟨sc1, ar1, e1, r1, m1⟩ := c_newSlot (S := S) hr hf
  have hmem : x_slot X ∈ x_frees (x_room X) := by
    unfold x_slot
    exact x_head_mem (List.length_pos_iff.mpr hf)
  have hsN : x_slot X < N := by
    have := (x_frees_mem.mp hmem).1
    rw [x_room_C] at this
    omega
  have hno := x_nofree r1 hmem
  have hep := x_room_ep X
  unfold x_place
  generalize x_slot X = s at e1 hmem hsN hno ⊢
  generalize x_room X = Y at r1 hmem hno hep ⊢
  have h5 := r1.2.2.2.2.1
  have hep1 : sc1 2 = nI (x_ep Y) := r1.2.2.2.2.2.2.2.2.1
  have q2 : ¬ nI s = -1 := nI_ne_m1 (by omega)
  have e2 := sm_slotOf_h (S := S) (sc := sc1) hN h5 hb
  have hd30 : ∀ e, (if dirty = true then some (x_ep Y) else none) = some e → e < 2 ^ 30 := by
    intro e he
    split at he
    · have := Option.some.inj he; omega
    · cases he
  have key : ∀ (Z : xs_T) (ar2 : Nat → Nat → Int32), r_x N sc1 ar2 Z → x_sl Z b = none → (∀ c, x_sl Z c ≠ some s) → x_ep Z = x_ep Y → ∃ ar', ex_big S 42 39 [.inr 2, .inl (nI b), .inl n, .inl (x_b dirty), .inl (nI s), .inl (e_o (x_sl Y b))] [] (mk_W N sc1 ar2) 0 0 = some (some (nI s), mk_W N sc1 ar') ∧ r_x N sc1 ar' (x_put b s n (if dirty = true then some (x_ep Y) else none) Z) ∧ s_M sc1 ar2 sc1 ar' := by
    intro Z ar2 hZ hZb hZs hZe
    have hp := r_pl_put hZ.2.2.2.2.1 hb hsN hZb hZs hd30
    have r3 := r_x_N (r_x_P0 hZ hp) (s := s) n
    refine ⟨x_up (mk_P 0 ar2 (upd (ar2 2) s (nI b)) (upd (ar2 3) s (e_o (if dirty = true then some (x_ep Y) else none)))) 1 (upd (ar2 1) s n), ?_, r3, s_M_tr (s_M_P (by omega) _ _) (s_M_ar (by omega) _)⟩
    have n3 : x_up ar2 2 (upd (ar2 2) s (nI b)) 3 = ar2 3 := rfl
    have n1 : ∀ f g, mk_P 0 ar2 f g 1 = ar2 1 := fun _ _ => rfl
    cases dirty with
    | true =>
      have z : ¬ x_b true = 0 := by decide
      simp only [e_42_39, e_42_40, e_42_43, e_42_46, e_42_48, e_42_49, e_42_50, e_42_51, e_42_54, e_42_57, e_42_59, e_42_60, e_42_63, e_42_64, e_42_67, e_42_70, e_42_71, e_42_72, e_42_73, e_42_76, e_42_78, e_42_79, e_42_80, e_42_82, Nat.reduceAdd, Option.bind_some, rk_42, wg_0_3, wg_3_0, wg_3_1, ww_4 hsN hN, ww_5 hsN hN, if_neg z, wg_0_11, hep1, n3, mp_up2, wg_0_2, ww_2 hsN hN, n1, if_true]
      rfl
    | false =>
      have z : x_b false = 0 := by decide
      simp only [e_42_39, e_42_40, e_42_43, e_42_46, e_42_48, e_42_49, e_42_50, e_42_51, e_42_54, e_42_57, e_42_59, e_42_60, e_42_63, e_42_64, e_42_67, e_42_70, e_42_71, e_42_72, e_42_73, e_42_76, e_42_78, e_42_79, e_42_80, e_42_82, Nat.reduceAdd, Option.bind_some, rk_42, wg_0_3, wg_3_0, wg_3_1, ww_4 hsN hN, ww_5 hsN hN, if_pos z, n3, mp_up2, wg_0_2, ww_2 hsN hN, n1]
      rfl
  cases hs : x_sl Y b with
  | none =>
    obtain ⟨ar3, e3, r3, m3⟩ := key Y ar1 r1 hs hno rfl
    rw [hs] at e2 e3
    have e2 : ex_big S 11 0 [.inr 5, .inl (nI b), .inr 0] [] (mk_W N sc1 ar1) 0 0 = some (some (-1), mk_W N sc1 ar1) := e2
    have e3 : ex_big S 42 39 [.inr 2, .inl (nI b), .inl n, .inl (x_b dirty), .inl (nI s), .inl (-1)] [] (mk_W N sc1 ar1) 0 0 = some (some (nI s), mk_W N sc1 ar3) := e3
    refine ⟨sc1, ar3, ?_, r3, s_M_tr m1 m3⟩
    simp only [e_42_0, e_42_1, e_42_4, e_42_6, e_42_8, e_42_9, e_42_12, e_42_13, e_42_14, e_42_15, e_42_18, e_42_19, e_42_22, e_42_24, e_42_26, e_42_27, e_42_30, e_42_31, e_42_34, e_42_36, List.length_cons, List.length_nil, Nat.reduceAdd, Nat.reduceLeDiff, Nat.zero_le, Option.bind_some, ck_42_11, ck_42_43, ck_42_8, rk_42, rl_n, rl_s, wo_0, wo_3, e1, if_neg q2, wg_0_3, e2, if_true, e3]
  | some t =>
    have htN := (h5.1 b t hs).2.1
    have r2 := r_x_P0 r1 (r_pl_emp h5 hs)
    obtain ⟨ar3, e3, r3, m3⟩ := key (x_unhold b Y) _ r2 xu_s (fun c hc => by
      have hc : x_up (x_sl Y) b none c = some s := hc
      unfold x_up at hc
      split at hc
      · cases hc
      · exact hno c hc) rfl
    rw [hs] at e2 e3
    have e2 : ex_big S 11 0 [.inr 5, .inl (nI b), .inr 0] [] (mk_W N sc1 ar1) 0 0 = some (some (nI t), mk_W N sc1 ar1) := e2
    have e3 : ex_big S 42 39 [.inr 2, .inl (nI b), .inl n, .inl (x_b dirty), .inl (nI s), .inl (nI t)] [] (mk_W N sc1 (mk_P 0 ar1 (upd (ar1 2) t (-1)) (upd (ar1 3) t (-1)))) 0 0 = some (some (nI s), mk_W N sc1 ar3) := e3
    have q3 : ¬ nI t = -1 := nI_ne_m1 (by omega)
    have hput : x_put b s n (if dirty = true then some (x_ep Y) else none) (x_unhold b Y) = x_put b s n (if dirty = true then some (x_ep Y) else none) Y := by
      unfold x_put
      have a1 : x_up (x_sl (x_unhold b Y)) b (some s) = x_up (x_sl Y) b (some s) := xu_u
      have a2 : x_up (x_dt (x_unhold b Y)) b (if dirty = true then some (x_ep Y) else none) = x_up (x_dt Y) b (if dirty = true then some (x_ep Y) else none) := xu_u
      rw [a1, a2]
      rfl
    rw [hput] at r3
    refine ⟨sc1, ar3, ?_, r3, s_M_tr m1 (s_M_tr (s_M_P (by omega) _ _) m3)⟩
    simp only [e_42_0, e_42_1, e_42_4, e_42_6, e_42_8, e_42_9, e_42_12, e_42_13, e_42_14, e_42_15, e_42_18, e_42_19, e_42_22, e_42_24, e_42_26, e_42_27, e_42_30, e_42_31, e_42_34, e_42_36, List.length_cons, List.length_nil, Nat.reduceAdd, Nat.reduceLeDiff, Nat.zero_le, Option.bind_some, ck_42_11, ck_42_43, ck_42_8, rk_42, rl_n, rl_s, wo_0, wo_3, e1, if_neg q2, wg_0_3, e2, if_neg q3, sm_empty_h hN htN, e3]
theorem c_step {w : ex_W} {a o : Nat} (ha : a < 2 ^ 30) (ho : 0 < o) (ho2 : o < 2 ^ 30) : ex_big S 36 0 [.inl (nI a), .inl (nI o)] [] w 0 0 = some (some (nI (max 1 (a / o))), w) := by
  have h1 : (1 : Int32) ≤ nI o := nI_le (a := 1) (b := o) (by omega) (by omega)
  have h2 : ¬ nI o = 0 := nI_ne0 ho (by omega)
  have hdle : a / o ≤ a := Nat.div_le_self a o
  have h3 : (if (1 : Int32) < nI (a / o) then nI (a / o) else 1) = nI (max 1 (a / o)) := by
    by_cases h : 1 < a / o
    · rw [if_pos (show (1 : Int32) < nI (a / o) from nI_lt (a := 1) h (by omega)), Nat.max_eq_right (by omega)]
    · rw [if_neg (show ¬ (1 : Int32) < nI (a / o) from nI_nlt (a := 1) (b := a / o) (by omega) (by omega)), Nat.max_eq_left (by omega)]
      rfl
  simp only [e_36_0, e_36_1, e_36_2, e_36_5, e_36_6, e_36_9, e_36_10, e_36_11, e_36_12, e_36_13, e_36_16, List.length_cons, List.length_nil, Nat.reduceAdd, Nat.reduceLeDiff, Nat.zero_le, Option.bind_some, rk_36, if_pos h1, if_neg h2, pk_div (show a < 2 ^ 31 by omega) ho (show o < 2 ^ 31 by omega), h3]
theorem c_replaceFor (hr : r_x N sc ar X) (hls : x_ls (x_L X)) (hhe : x_he (x_sl X) (x_L X)) {b : Nat} (hb : b < 16) (hE : x_ep X < 2 ^ 29) (hgo : x_go X ≤ 7) : ∃ sc' ar', ex_big S 38 0 [.inr 2, .inl (nI b), .inr 0, .inr 0] [] (mk_W N sc ar) 0 0 = some (none, mk_W N sc' ar') ∧ r_x N sc' ar' (x_replace b X) ∧ s_M sc ar sc' ar' := by
  have hL := hr.2.2.2.2.2.2.1
  have hl0 : r_ls (ar 6) (sc 5) (x_L X 0) := hL 0 (by omega)
  have hl1 : r_ls (ar 7) (sc 6) (x_L X 1) := hL 1 (by omega)
  have hl3 : r_ls (ar 9) (sc 8) (x_L X 3) := hL 3 (by omega)
  have hgl : sc 1 = nI (x_go X) := hr.2.2.2.2.2.2.2.1
  have s0 : sc 5 = nI (x_L X 0).length := hl0.1
  have s1 : sc 6 = nI (x_L X 1).length := hl1.1
  have b0 := hl0.2.1
  have b1 := hl1.2.1
  have e3 := sm_has_3 (S := S) (N := N) hl3 hb
  have z10 : ¬ (1 : Int32) = 0 := by decide
  -- from R1
  have goR1 : 0 < (x_L X 0).length → ∀ l2 : ex_V, ∃ sc' ar', ex_big S 38 59 [.inr 2, .inl (nI b), l2, .inr 0] [] (mk_W N sc ar) 0 0 = some (none, mk_W N sc' ar') ∧ r_x N sc' ar' (x_comes ((x_L X 0).headD 0) 2 (x_give ((x_L X 0).headD 0) X)) ∧ s_M sc ar sc' ar' := by
    intro hp l2
    have hm := x_head_mem hp
    have e1 := sm_at0_0 (S := S) (N := N) hl0 hp
    generalize (x_L X 0).headD 0 = o at hm e1 ⊢
    have ho16 := (hls.2.1 0 o hm).1
    obtain ⟨s, hs⟩ := (hhe o).mpr (Or.inl hm)
    obtain ⟨sc1, ar1, e2, r2, m2⟩ := c_giveUp (S := S) hr hs hE
    obtain ⟨sc2, ar2, e4, r4, m4⟩ := c_bringInto (S := S) r2 (i := 2) (by omega) ho16 (by rw [x_give_L]; exact hls.1 2)
    have e4 : ex_big S 40 0 [.inr 2, .inr 15, .inl (nI o), .inr 0] [] (mk_W N sc1 ar1) 0 0 = some (none, mk_W N sc2 ar2) := e4
    refine ⟨sc2, ar2, ?_, r4, s_M_tr m2 m4⟩
    simp only [e_38_59, e_38_60, e_38_63, e_38_64, e_38_67, e_38_68, e_38_69, e_38_70, e_38_73, e_38_74, e_38_75, e_38_78, e_38_79, e_38_82, e_38_85, e_38_86, e_38_89, e_38_92, e_38_95, e_38_96, e_38_99, e_38_100, e_38_103, e_38_104, e_38_105, e_38_106, e_38_109, e_38_110, e_38_111, e_38_114, e_38_115, e_38_118, List.length_cons, List.length_nil, Nat.reduceAdd, Nat.reduceLeDiff, Nat.zero_le, Option.bind_some, ck_38_1, ck_38_2, ck_38_39, ck_38_40, rk_38, rl_n, rl_s, wg_0_5, wo_9, wo_0, e1, e2, wg_0_7, e4]
  have goR2 : ∀ l2 : ex_V, ∃ sc' ar', ex_big S 38 85 [.inr 2, .inl (nI b), l2, .inr 0] [] (mk_W N sc ar) 0 0 = some (none, mk_W N sc' ar') ∧ r_x N sc' ar' (if 0 < (x_L X 1).length then x_comes ((x_L X 1).headD 0) 3 (x_give ((x_L X 1).headD 0) X) else X) ∧ s_M sc ar sc' ar' := by
    intro l2
    by_cases hp : 0 < (x_L X 1).length
    · rw [if_pos hp]
      have hm := x_head_mem hp
      have e1 := sm_at0_1 (S := S) (N := N) hl1 hp
      generalize (x_L X 1).headD 0 = o at hm e1 ⊢
      have ho16 := (hls.2.1 1 o hm).1
      obtain ⟨s, hs⟩ := (hhe o).mpr (Or.inr hm)
      obtain ⟨sc1, ar1, e2, r2, m2⟩ := c_giveUp (S := S) hr hs hE
      obtain ⟨sc2, ar2, e4, r4, m4⟩ := c_bringInto (S := S) r2 (i := 3) (by omega) ho16 (by rw [x_give_L]; exact hls.1 3)
      have e4 : ex_big S 40 0 [.inr 2, .inr 17, .inl (nI o), .inr 0] [] (mk_W N sc1 ar1) 0 0 = some (none, mk_W N sc2 ar2) := e4
      have hq : ¬ nI (x_L X 1).length ≤ 0 := nI_nle hp (by omega)
      refine ⟨sc2, ar2, ?_, r4, s_M_tr m2 m4⟩
      simp only [e_38_85, e_38_86, e_38_89, e_38_92, e_38_95, e_38_96, e_38_99, e_38_100, e_38_103, e_38_104, e_38_105, e_38_106, e_38_109, e_38_110, e_38_111, e_38_114, e_38_115, e_38_118, List.length_cons, List.length_nil, Nat.reduceAdd, Nat.reduceLeDiff, Nat.zero_le, Option.bind_some, ck_38_1, ck_38_2, ck_38_39, ck_38_40, rk_38, rl_n, rl_s, wg_0_6, wo_11, wo_0, sm_size_1, s1, if_neg hq, e1, e2, wg_0_8, e4]
    · rw [if_neg hp]
      have h0 : (x_L X 1).length = 0 := by omega
      have hq : nI (x_L X 1).length ≤ 0 := by rw [h0]; decide
      refine ⟨sc, ar, ?_, hr, s_M_rf⟩
      simp only [e_38_85, e_38_86, e_38_89, e_38_92, e_38_95, e_38_96, e_38_99, e_38_100, e_38_103, e_38_104, e_38_105, e_38_106, e_38_109, e_38_110, e_38_111, e_38_114, e_38_115, e_38_118, List.length_cons, List.length_nil, Nat.reduceAdd, Nat.reduceLeDiff, Nat.zero_le, Option.bind_some, ck_38_1, ck_38_2, ck_38_39, ck_38_40, rk_38, rl_n, rl_s, wg_0_6, wo_11, sm_size_1, s1, if_pos hq]
  unfold x_replace
  by_cases hc1 : x_go X < (x_L X 0).length
  · have c1 : nI (x_go X) < nI (x_L X 0).length := nI_lt hc1 (by omega)
    have hp : 0 < (x_L X 0).length := by omega
    have hq : ¬ nI (x_L X 0).length ≤ 0 := nI_nle hp (by omega)
    rw [if_pos ⟨hp, Or.inl hc1⟩]
    obtain ⟨sc2, ar2, e4, r4, m4⟩ := goR1 hp (.inl 1)
    refine ⟨sc2, ar2, ?_, r4, m4⟩
    simp only [e_38_0, e_38_1, e_38_4, e_38_7, e_38_8, e_38_11, e_38_14, e_38_15, e_38_18, e_38_21, e_38_22, e_38_25, e_38_28, e_38_29, e_38_32, e_38_33, e_38_36, e_38_39, e_38_40, e_38_43, e_38_44, e_38_45, e_38_46, e_38_49, e_38_52, e_38_55, e_38_56, List.length_cons, List.length_nil, Nat.reduceAdd, Nat.reduceLeDiff, Nat.zero_le, Option.bind_some, ck_38_1, ck_38_3, rl_n, rl_s, wg_0_5, wo_9, sm_size_0, s0, wg_0_10, hgl, if_pos c1, if_neg hq, if_neg z10, e4]
  · have c1 : ¬ nI (x_go X) < nI (x_L X 0).length := nI_nlt (by omega) (by omega)
    by_cases hc2 : (x_L X 0).length = x_go X ∧ b ∈ x_L X 3
    · obtain ⟨d1, d2⟩ := hc2
      have c2 : nI (x_L X 0).length = nI (x_go X) := by rw [d1]
      rw [if_pos d2] at e3
      by_cases hp : 0 < (x_L X 0).length
      · have hq : ¬ nI (x_L X 0).length ≤ 0 := nI_nle hp (by omega)
        rw [if_pos ⟨hp, Or.inr ⟨d1, d2⟩⟩]
        obtain ⟨sc2, ar2, e4, r4, m4⟩ := goR1 hp (.inl 1)
        refine ⟨sc2, ar2, ?_, r4, m4⟩
        simp only [e_38_0, e_38_1, e_38_4, e_38_7, e_38_8, e_38_11, e_38_14, e_38_15, e_38_18, e_38_21, e_38_22, e_38_25, e_38_28, e_38_29, e_38_32, e_38_33, e_38_36, e_38_39, e_38_40, e_38_43, e_38_44, e_38_45, e_38_46, e_38_49, e_38_52, e_38_55, e_38_56, List.length_cons, List.length_nil, Nat.reduceAdd, Nat.reduceLeDiff, Nat.zero_le, Option.bind_some, ck_38_1, ck_38_3, rl_n, rl_s, wg_0_5, wg_0_8, wo_9, wo_15, sm_size_0, s0, wg_0_10, hgl, if_neg c1, if_pos c2, e3, if_neg hq, if_neg z10, e4]
      · have h0 : (x_L X 0).length = 0 := by omega
        have hq : nI (x_L X 0).length ≤ 0 := by rw [h0]; decide
        rw [if_neg (fun z => hp z.1)]
        obtain ⟨sc2, ar2, e4, r4, m4⟩ := goR2 (.inl 1)
        refine ⟨sc2, ar2, ?_, r4, m4⟩
        simp only [e_38_0, e_38_1, e_38_4, e_38_7, e_38_8, e_38_11, e_38_14, e_38_15, e_38_18, e_38_21, e_38_22, e_38_25, e_38_28, e_38_29, e_38_32, e_38_33, e_38_36, e_38_39, e_38_40, e_38_43, e_38_44, e_38_45, e_38_46, e_38_49, e_38_52, e_38_55, e_38_56, List.length_cons, List.length_nil, Nat.reduceAdd, Nat.reduceLeDiff, Nat.zero_le, Option.bind_some, ck_38_1, ck_38_3, rl_n, rl_s, wg_0_5, wg_0_8, wo_9, wo_15, sm_size_0, s0, wg_0_10, hgl, if_neg c1, if_pos c2, e3, if_pos hq, if_neg z10, e4]
    · rw [if_neg (fun z => by
        rcases z.2 with z | z
        · exact hc1 z
        · exact hc2 z)]
      obtain ⟨sc2, ar2, e4, r4, m4⟩ := goR2 (.inl 0)
      refine ⟨sc2, ar2, ?_, r4, m4⟩
      have fin : ∀ P : Prop, ∀ _ : Decidable P, (if P then ex_big S 38 85 [.inr 2, .inl (nI b), .inl 0, .inr 0] [] (mk_W N sc ar) 0 0 else ex_big S 38 85 [.inr 2, .inl (nI b), .inl 0, .inr 0] [] (mk_W N sc ar) 0 0) = some (none, mk_W N sc2 ar2) := fun P _ => by
        rw [e4]; split <;> rfl
      by_cases d1 : (x_L X 0).length = x_go X
      · have d2 : ¬ b ∈ x_L X 3 := fun z => hc2 ⟨d1, z⟩
        have c2 : nI (x_L X 0).length = nI (x_go X) := by rw [d1]
        rw [if_neg d2] at e3
        simp only [e_38_0, e_38_1, e_38_4, e_38_7, e_38_8, e_38_11, e_38_14, e_38_15, e_38_18, e_38_21, e_38_22, e_38_25, e_38_28, e_38_29, e_38_32, e_38_33, e_38_36, e_38_39, e_38_40, e_38_43, e_38_44, e_38_45, e_38_46, e_38_49, e_38_52, e_38_55, e_38_56, List.length_cons, List.length_nil, Nat.reduceAdd, Nat.reduceLeDiff, Nat.zero_le, Option.bind_some, ck_38_1, ck_38_3, rl_n, rl_s, wg_0_5, wg_0_8, wo_9, wo_15, sm_size_0, s0, wg_0_10, hgl, if_neg c1, if_pos c2, e3, if_true]
        exact fin _ _
      · have c2 : ¬ nI (x_L X 0).length = nI (x_go X) := fun z => d1 ((nI_eq (by omega) (by omega)).mp z)
        simp only [e_38_0, e_38_1, e_38_4, e_38_7, e_38_8, e_38_11, e_38_14, e_38_15, e_38_18, e_38_21, e_38_22, e_38_25, e_38_28, e_38_29, e_38_32, e_38_33, e_38_36, e_38_39, e_38_40, e_38_43, e_38_44, e_38_45, e_38_46, e_38_49, e_38_52, e_38_55, e_38_56, List.length_cons, List.length_nil, Nat.reduceAdd, Nat.reduceLeDiff, Nat.zero_le, Option.bind_some, ck_38_1, ck_38_3, rl_n, rl_s, wg_0_5, wo_9, sm_size_0, s0, wg_0_10, hgl, if_neg c1, if_neg c2, if_true]
        exact fin _ _
theorem x_replace_wk (h : x_wk X) (b : Nat) : x_wk (x_replace b X) := by
  unfold x_replace
  split
  · rename_i hc
    exact x_wk_ghost h (h.2.2.2.1.2.1 0 _ (x_head_mem hc.1)).1 (Or.inl rfl)
  · split
    · rename_i hc
      exact x_wk_ghost h (h.2.2.2.1.2.1 1 _ (x_head_mem hc)).1 (Or.inr rfl)
    · exact h
theorem c_forget (hr : r_x N sc ar X) (hls : x_ls (x_L X)) {i o : Nat} (hi : i < 4) (ho : o ∈ x_L X i) : ∃ sc' ar', ex_big S 5 0 [.inr (2 * i + 11), .inl (nI o), .inr 0, .inr 0] [] (mk_W N sc ar) 0 0 = some (none, mk_W N sc' ar') ∧ r_x N sc' ar' (x_forget o X) ∧ s_M sc ar sc' ar' := by
  have ho16 := (hls.2.1 i o ho).1
  obtain ⟨g, e1, hl2⟩ := sm_remove (S := S) (N := N) hi (hr.2.2.2.2.2.2.1 i hi) ho16
  refine ⟨_, _, e1, ?_, s_M_sa (by omega) (by omega) _ _⟩
  have r2 := r_x_L hr hi hl2
  refine r_x_Lc (L := x_L (x_forget o X)) r2 (fun j hj => ?_)
  show x_rm o (x_L X j) = x_up (x_L X) i (x_rm o (x_L X i)) j
  by_cases hji : j = i
  · subst hji
    rw [xu_s]
  · rw [xu_n hji, x_rm_not (fun q => hji (hls.2.2 j i o q ho))]
theorem c_stranger (hr : r_x N sc ar X) (hw : x_wk X) (hz : x_sz (x_C X) (x_L X)) {b : Nat} (hb : b < 16) (hE : x_ep X < 2 ^ 28) : ∃ sc' ar', ex_big S 37 0 [.inr 2, .inl (nI b), .inr 0, .inr 0, .inr 0] [] (mk_W N sc ar) 0 0 = some (none, mk_W N sc' ar') ∧ r_x N sc' ar' (x_stranger b X) ∧ s_M sc ar sc' ar' := by
  have hC := hw.1
  have hls := hw.2.2.2.1
  have hhe := hw.2.2.2.2.1
  have hgo := hw.2.2.2.2.2
  have hL := hr.2.2.2.2.2.2.1
  have hl0 : r_ls (ar 6) (sc 5) (x_L X 0) := hL 0 (by omega)
  have hl1 : r_ls (ar 7) (sc 6) (x_L X 1) := hL 1 (by omega)
  have hl2 : r_ls (ar 8) (sc 7) (x_L X 2) := hL 2 (by omega)
  have hl3 : r_ls (ar 9) (sc 8) (x_L X 3) := hL 3 (by omega)
  have s0 : sc 5 = nI (x_L X 0).length := hl0.1
  have s1 : sc 6 = nI (x_L X 1).length := hl1.1
  have s2 : sc 7 = nI (x_L X 2).length := hl2.1
  have s3 : sc 8 = nI (x_L X 3).length := hl3.1
  have hcap : sc 0 = nI (x_C X) := hr.2.1
  have b0 := hl0.2.1
  have b1 := hl1.2.1
  have b2 := hl2.2.1
  have b3 := hl3.2.1
  obtain ⟨z1, z2, z3, z4⟩ := hz
  have h2C : (2 : Int32) * nI (x_C X) = nI (2 * x_C X) := pk_mul 2 (x_C X)
  unfold x_stranger
  by_cases c1 : (x_L X 0).length + (x_L X 2).length = x_C X
  · rw [if_pos c1]
    have q1 : nI ((x_L X 0).length + (x_L X 2).length) = nI (x_C X) := by rw [c1]
    by_cases c2 : 0 < (x_L X 2).length
    · rw [if_pos c2]
      have q2 : ¬ nI (x_L X 2).length ≤ 0 := nI_nle c2 (by omega)
      have e1 := sm_at0_2 (S := S) (N := N) hl2 c2
      have hm := x_head_mem c2
      generalize (x_L X 2).headD 0 = o at e1 hm ⊢
      obtain ⟨sc1, ar1, e2, r2, m2⟩ := c_forget (S := S) hr hls (i := 2) (by omega) hm
      have e2 : ex_big S 5 0 [.inr 15, .inl (nI o), .inr 0, .inr 0] [] (mk_W N sc ar) 0 0 = some (none, mk_W N sc1 ar1) := e2
      have hw2 := x_wk_forget hw hm (Nat.le_refl 2)
      obtain ⟨sc2, ar2, e4, r4, m4⟩ := c_replaceFor (S := S) r2 hw2.2.2.2.1 hw2.2.2.2.2.1 hb (by rw [x_forget_ep]; omega) (by have := hw2.2.2.2.2.2; rw [x_forget_C] at this; omega)
      refine ⟨sc2, ar2, ?_, r4, s_M_tr m2 m4⟩
      simp only [e_37_0, e_37_1, e_37_4, e_37_7, e_37_8, e_37_11, e_37_14, e_37_15, e_37_16, e_37_17, e_37_18, e_37_21, e_37_24, e_37_25, e_37_26, e_37_29, e_37_32, e_37_33, e_37_34, e_37_35, e_37_36, e_37_39, e_37_42, e_37_43, e_37_46, e_37_49, e_37_52, e_37_53, e_37_56, e_37_57, e_37_60, e_37_61, e_37_64, e_37_67, e_37_68, e_37_69, e_37_72, e_37_75, e_37_76, e_37_79, e_37_80, e_37_83, e_37_85, e_37_86, e_37_88, e_37_91, e_37_92, e_37_95, e_37_97, e_37_100, e_37_103, e_37_104, e_37_105, e_37_108, e_37_111, e_37_112, e_37_113, e_37_114, e_37_117, e_37_118, e_37_121, e_37_122, e_37_125, e_37_126, e_37_129, e_37_130, e_37_133, e_37_136, e_37_137, e_37_138, e_37_141, List.length_cons, List.length_nil, Nat.reduceAdd, Nat.reduceLeDiff, Nat.zero_le, Option.bind_some, ck_37_1, ck_37_2, ck_37_38, ck_37_39, ck_37_5, rk_37, rl_n, rl_s, wg_0_0, wg_0_5, wg_0_6, wg_0_7, wg_0_8, wo_0, wo_9, wo_11, wo_13, wo_15, sm_size_0, sm_size_1, sm_size_2, sm_size_3, s0, s1, s2, s3, nI_add, hcap, if_pos q1, if_neg q2, e1, e2, e4]
    · rw [if_neg c2]
      have h0 : (x_L X 2).length = 0 := by omega
      have q2 : nI (x_L X 2).length ≤ 0 := by rw [h0]; decide
      have hp : 0 < (x_L X 0).length := by omega
      have e1 := sm_at0_0 (S := S) (N := N) hl0 hp
      have hm := x_head_mem hp
      generalize (x_L X 0).headD 0 = o at e1 hm ⊢
      obtain ⟨s, hs⟩ := (hhe o).mpr (Or.inl hm)
      obtain ⟨sc1, ar1, e2, r2, m2⟩ := c_giveUp (S := S) hr hs (by omega)
      obtain ⟨sc2, ar2, e4, r4, m4⟩ := c_forget (S := S) r2 (by rw [x_give_L]; exact hls) (i := 0) (o := o) (by omega) (by rw [x_give_L]; exact hm)
      have e4 : ex_big S 5 0 [.inr 11, .inl (nI o), .inr 0, .inr 0] [] (mk_W N sc1 ar1) 0 0 = some (none, mk_W N sc2 ar2) := e4
      refine ⟨sc2, ar2, ?_, r4, s_M_tr m2 m4⟩
      simp only [e_37_0, e_37_1, e_37_4, e_37_7, e_37_8, e_37_11, e_37_14, e_37_15, e_37_16, e_37_17, e_37_18, e_37_21, e_37_24, e_37_25, e_37_26, e_37_29, e_37_32, e_37_33, e_37_34, e_37_35, e_37_36, e_37_39, e_37_42, e_37_43, e_37_46, e_37_49, e_37_52, e_37_53, e_37_56, e_37_57, e_37_60, e_37_61, e_37_64, e_37_67, e_37_68, e_37_69, e_37_72, e_37_75, e_37_76, e_37_79, e_37_80, e_37_83, e_37_85, e_37_86, e_37_88, e_37_91, e_37_92, e_37_95, e_37_97, e_37_100, e_37_103, e_37_104, e_37_105, e_37_108, e_37_111, e_37_112, e_37_113, e_37_114, e_37_117, e_37_118, e_37_121, e_37_122, e_37_125, e_37_126, e_37_129, e_37_130, e_37_133, e_37_136, e_37_137, e_37_138, e_37_141, List.length_cons, List.length_nil, Nat.reduceAdd, Nat.reduceLeDiff, Nat.zero_le, Option.bind_some, ck_37_1, ck_37_2, ck_37_38, ck_37_39, ck_37_5, rk_37, rl_n, rl_s, wg_0_0, wg_0_5, wg_0_6, wg_0_7, wg_0_8, wo_0, wo_9, wo_11, wo_13, wo_15, sm_size_0, sm_size_1, sm_size_2, sm_size_3, s0, s1, s2, s3, nI_add, hcap, if_pos q1, if_pos q2, e1, e2, e4]
  · rw [if_neg c1]
    have q1 : ¬ nI ((x_L X 0).length + (x_L X 2).length) = nI (x_C X) := fun z => c1 ((nI_eq (by omega) (by omega)).mp z)
    by_cases c2 : x_C X ≤ (x_L X 0).length + (x_L X 2).length + (x_L X 1).length + (x_L X 3).length
    · rw [if_pos c2]
      have q2 : ¬ nI ((x_L X 0).length + (x_L X 2).length + (x_L X 1).length + (x_L X 3).length) < nI (x_C X) := nI_nlt c2 (by omega)
      by_cases c3 : (x_L X 0).length + (x_L X 2).length + (x_L X 1).length + (x_L X 3).length = 2 * x_C X
      · rw [if_pos c3]
        have q3 : nI ((x_L X 0).length + (x_L X 2).length + (x_L X 1).length + (x_L X 3).length) = nI (2 * x_C X) := by rw [c3]
        have hp : 0 < (x_L X 3).length := by omega
        have e1 := sm_at0_3 (S := S) (N := N) hl3 hp
        have hm := x_head_mem hp
        generalize (x_L X 3).headD 0 = o at e1 hm ⊢
        obtain ⟨sc1, ar1, e2, r2, m2⟩ := c_forget (S := S) hr hls (i := 3) (by omega) hm
        have e2 : ex_big S 5 0 [.inr 17, .inl (nI o), .inr 0, .inr 0] [] (mk_W N sc ar) 0 0 = some (none, mk_W N sc1 ar1) := e2
        have hw2 := x_wk_forget hw hm (by omega)
        obtain ⟨sc2, ar2, e4, r4, m4⟩ := c_replaceFor (S := S) r2 hw2.2.2.2.1 hw2.2.2.2.2.1 hb (by rw [x_forget_ep]; omega) (by have := hw2.2.2.2.2.2; rw [x_forget_C] at this; omega)
        refine ⟨sc2, ar2, ?_, r4, s_M_tr m2 m4⟩
        simp only [e_37_0, e_37_1, e_37_4, e_37_7, e_37_8, e_37_11, e_37_14, e_37_15, e_37_16, e_37_17, e_37_18, e_37_21, e_37_24, e_37_25, e_37_26, e_37_29, e_37_32, e_37_33, e_37_34, e_37_35, e_37_36, e_37_39, e_37_42, e_37_43, e_37_46, e_37_49, e_37_52, e_37_53, e_37_56, e_37_57, e_37_60, e_37_61, e_37_64, e_37_67, e_37_68, e_37_69, e_37_72, e_37_75, e_37_76, e_37_79, e_37_80, e_37_83, e_37_85, e_37_86, e_37_88, e_37_91, e_37_92, e_37_95, e_37_97, e_37_100, e_37_103, e_37_104, e_37_105, e_37_108, e_37_111, e_37_112, e_37_113, e_37_114, e_37_117, e_37_118, e_37_121, e_37_122, e_37_125, e_37_126, e_37_129, e_37_130, e_37_133, e_37_136, e_37_137, e_37_138, e_37_141, List.length_cons, List.length_nil, Nat.reduceAdd, Nat.reduceLeDiff, Nat.zero_le, Option.bind_some, ck_37_1, ck_37_2, ck_37_38, ck_37_39, ck_37_5, rk_37, rl_n, rl_s, wg_0_0, wg_0_5, wg_0_6, wg_0_7, wg_0_8, wo_0, wo_9, wo_11, wo_13, wo_15, sm_size_0, sm_size_1, sm_size_2, sm_size_3, s0, s1, s2, s3, nI_add, hcap, if_neg q1, if_neg q2, h2C, if_pos q3, e1, e2, e4]
      · rw [if_neg c3]
        have q3 : ¬ nI ((x_L X 0).length + (x_L X 2).length + (x_L X 1).length + (x_L X 3).length) = nI (2 * x_C X) := fun z => c3 ((nI_eq (by omega) (by omega)).mp z)
        obtain ⟨sc2, ar2, e4, r4, m4⟩ := c_replaceFor (S := S) hr hls hhe hb (by omega) (by omega)
        refine ⟨sc2, ar2, ?_, r4, m4⟩
        simp only [e_37_0, e_37_1, e_37_4, e_37_7, e_37_8, e_37_11, e_37_14, e_37_15, e_37_16, e_37_17, e_37_18, e_37_21, e_37_24, e_37_25, e_37_26, e_37_29, e_37_32, e_37_33, e_37_34, e_37_35, e_37_36, e_37_39, e_37_42, e_37_43, e_37_46, e_37_49, e_37_52, e_37_53, e_37_56, e_37_57, e_37_60, e_37_61, e_37_64, e_37_67, e_37_68, e_37_69, e_37_72, e_37_75, e_37_76, e_37_79, e_37_80, e_37_83, e_37_85, e_37_86, e_37_88, e_37_91, e_37_92, e_37_95, e_37_97, e_37_100, e_37_103, e_37_104, e_37_105, e_37_108, e_37_111, e_37_112, e_37_113, e_37_114, e_37_117, e_37_118, e_37_121, e_37_122, e_37_125, e_37_126, e_37_129, e_37_130, e_37_133, e_37_136, e_37_137, e_37_138, e_37_141, List.length_cons, List.length_nil, Nat.reduceAdd, Nat.reduceLeDiff, Nat.zero_le, Option.bind_some, ck_37_1, ck_37_2, ck_37_38, ck_37_39, ck_37_5, rk_37, rl_n, rl_s, wg_0_0, wg_0_5, wg_0_6, wg_0_7, wg_0_8, wo_0, wo_9, wo_11, wo_13, wo_15, sm_size_0, sm_size_1, sm_size_2, sm_size_3, s0, s1, s2, s3, nI_add, hcap, if_neg q1, if_neg q2, h2C, if_neg q3, e4]
    · rw [if_neg c2]
      have q2 : nI ((x_L X 0).length + (x_L X 2).length + (x_L X 1).length + (x_L X 3).length) < nI (x_C X) := nI_lt (by omega) (by omega)
      refine ⟨sc, ar, ?_, hr, s_M_rf⟩
      simp only [e_37_0, e_37_1, e_37_4, e_37_7, e_37_8, e_37_11, e_37_14, e_37_15, e_37_16, e_37_17, e_37_18, e_37_21, e_37_24, e_37_25, e_37_26, e_37_29, e_37_32, e_37_33, e_37_34, e_37_35, e_37_36, e_37_39, e_37_42, e_37_43, e_37_46, e_37_49, e_37_52, e_37_53, e_37_56, e_37_57, e_37_60, e_37_61, e_37_64, e_37_67, e_37_68, e_37_69, e_37_72, e_37_75, e_37_76, e_37_79, e_37_80, e_37_83, e_37_85, e_37_86, e_37_88, e_37_91, e_37_92, e_37_95, e_37_97, e_37_100, e_37_103, e_37_104, e_37_105, e_37_108, e_37_111, e_37_112, e_37_113, e_37_114, e_37_117, e_37_118, e_37_121, e_37_122, e_37_125, e_37_126, e_37_129, e_37_130, e_37_133, e_37_136, e_37_137, e_37_138, e_37_141, List.length_cons, List.length_nil, Nat.reduceAdd, Nat.reduceLeDiff, Nat.zero_le, Option.bind_some, ck_37_1, ck_37_2, ck_37_38, ck_37_39, ck_37_5, rk_37, rl_n, rl_s, wg_0_0, wg_0_5, wg_0_6, wg_0_7, wg_0_8, wo_0, wo_9, wo_11, wo_13, wo_15, sm_size_0, sm_size_1, sm_size_2, sm_size_3, s0, s1, s2, s3, nI_add, hcap, if_neg q1, if_pos q2]
end CL3
