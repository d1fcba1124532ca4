/-! the law's loop -/
theorem r_m_M {K : Nat} {sc sc' : Nat → Int32} {ar ar' : Nat → Nat → Int32} {X : xs_T} (h : r_m K sc ar X) (m : s_M sc ar sc' ar') : r_m K sc' ar' X := by
  unfold r_m at h ⊢
  simp only [m.1 9 (by omega), m.1 10 (by omega), m.1 11 (by omega), m.1 12 (by omega), m.1 13 (by omega), m.1 14 (by omega), m.2 10 (by omega), m.2 11 (by omega), m.2 12 (by omega), m.2 13 (by omega), m.2 14 (by omega), m.2 15 (by omega), m.2 16 (by omega), m.2 17 (by omega), m.2 18 (by omega), m.2 19 (by omega)]
  exact h
theorem r_x_X {N : Nat} {sc sc' : Nat → Int32} {ar ar' : Nat → Nat → Int32} {X : xs_T} (h : r_x N sc ar X) (m : s_X sc ar sc' ar') : r_x N sc' ar' X := by
  unfold r_x at h ⊢
  simp only [m.1 0 (by omega), m.1 1 (by omega), m.1 2 (by omega), m.1 3 (by omega), m.1 4 (by omega), m.2 0 (by omega), m.2 1 (by omega), m.2 2 (by omega), m.2 3 (by omega), m.2 4 (by omega), m.2 5 (by omega)]
  obtain ⟨h0, h1, h2, h3, h4, h5, h6, h7⟩ := h
  refine ⟨h0, h1, h2, h3, h4, h5, fun i hi => ?_, h7⟩
  rw [m.1 (i + 5) (by omega), m.2 (i + 6) (by omega)]
  exact h6 i hi
theorem x_nxt_ok {X : xs_T} (hi : x_iv X) (c : Nat) (a1 a2 : Int32) : x_iv (x_nxt c a1 a2 X) ∧ x_ep (x_nxt c a1 a2 X) ≤ x_ep X + 3 := by
  unfold x_nxt
  split
  · cases hb : x_blk a1 with
    | none => exact ⟨hi, Nat.le_add_right _ 3⟩
    | some b =>
      obtain ⟨i1, -, -, i4⟩ := x_access_ok hi (x_blk_some hb).2
      exact ⟨i1, Nat.le_trans i4 (Nat.le_succ _)⟩
  · cases hb : x_blk a1 with
    | none => exact ⟨hi, Nat.le_add_right _ 3⟩
    | some b =>
      obtain ⟨i1, -, i4⟩ := x_write_ok hi (x_blk_some hb).2 a2
      exact ⟨i1, i4⟩
  · exact ⟨x_flush_ok hi, Nat.add_le_add_left (by omega) _⟩
  · obtain ⟨i1, -, i3⟩ := x_tick_ok hi
    exact ⟨i1, by rw [i3]; exact Nat.le_add_right _ 3⟩
  · exact ⟨x_empty_ok hi.1.1 rfl rfl rfl rfl rfl rfl, Nat.le_add_right _ 3⟩
  · exact ⟨x_crash_ok hi, Nat.le_add_right _ 3⟩
  · exact ⟨x_empty_ok hi.1.1 rfl rfl rfl rfl rfl rfl, Nat.zero_le _⟩
  · exact ⟨hi, Nat.le_add_right _ 3⟩
theorem ck_87_15 : ex_cok 87 15 29 354 0 = true := by decide +kernel
theorem ck_87_66 : ex_cok 87 66 29 354 0 = true := by decide +kernel
theorem ck_87_16 : ex_cok 87 16 29 354 0 = true := by decide +kernel
theorem ck_87_67 : ex_cok 87 67 29 354 0 = true := by decide +kernel
theorem ck_87_17 : ex_cok 87 17 29 354 0 = true := by decide +kernel
theorem ck_87_68 : ex_cok 87 68 29 354 0 = true := by decide +kernel
theorem ck_87_18 : ex_cok 87 18 29 354 0 = true := by decide +kernel
theorem ck_87_69 : ex_cok 87 69 29 354 0 = true := by decide +kernel
theorem ck_87_19 : ex_cok 87 19 29 354 0 = true := by decide +kernel
theorem ck_87_72 : ex_cok 87 72 29 354 0 = true := by decide +kernel
theorem ck_87_20 : ex_cok 87 20 29 354 0 = true := by decide +kernel
theorem ck_87_73 : ex_cok 87 73 29 354 0 = true := by decide +kernel
theorem ck_87_21 : ex_cok 87 21 29 354 0 = true := by decide +kernel
theorem ck_87_74 : ex_cok 87 74 29 354 0 = true := by decide +kernel
theorem ck_87_22 : ex_cok 87 22 29 354 0 = true := by decide +kernel
theorem ck_87_75 : ex_cok 87 75 29 354 0 = true := by decide +kernel
theorem ck_87_23 : ex_cok 87 23 29 354 0 = true := by decide +kernel
theorem ck_87_76 : ex_cok 87 76 29 354 0 = true := by decide +kernel
theorem ck_87_24 : ex_cok 87 24 29 354 0 = true := by decide +kernel
theorem ck_87_77 : ex_cok 87 77 29 354 0 = true := by decide +kernel
theorem ck_87_25 : ex_cok 87 25 29 354 0 = true := by decide +kernel
theorem ck_87_78 : ex_cok 87 78 29 354 0 = true := by decide +kernel
theorem ck_87_26 : ex_cok 87 26 29 354 0 = true := by decide +kernel
theorem ck_87_79 : ex_cok 87 79 29 354 0 = true := by decide +kernel
theorem ck_87_27 : ex_cok 87 27 29 354 0 = true := by decide +kernel
theorem ck_87_80 : ex_cok 87 80 29 354 0 = true := by decide +kernel
theorem ck_87_28 : ex_cok 87 28 29 354 0 = true := by decide +kernel
theorem ck_87_81 : ex_cok 87 81 29 354 0 = true := by decide +kernel
theorem ck_87_29 : ex_cok 87 29 29 354 0 = true := by decide +kernel
theorem ck_87_82 : ex_cok 87 82 29 354 0 = true := by decide +kernel
theorem ck_87_30 : ex_cok 87 30 29 354 0 = true := by decide +kernel
theorem ck_87_83 : ex_cok 87 83 29 354 0 = true := by decide +kernel
theorem ck_87_31 : ex_cok 87 31 29 354 0 = true := by decide +kernel
theorem ck_87_84 : ex_cok 87 84 29 354 0 = true := by decide +kernel
theorem ck_87_32 : ex_cok 87 32 29 354 0 = true := by decide +kernel
theorem ck_87_85 : ex_cok 87 85 29 354 0 = true := by decide +kernel
theorem rk_87l : ex_rok 87 29 354 = true := by decide +kernel
theorem nI_2 (a : Nat) : nI a + 2 = nI (a + 2) := nI_add a 2
theorem nI_3 (a : Nat) : nI a + 3 = nI (a + 3) := nI_add a 3
theorem lw_rd {S : ex_S} {w : ex_W} {k : Nat} (h : k < S.1) (hL : S.1 < 2 ^ 30) : ex_rd S w false 1 (nI k) = some (S.2 k) := by
  show (if false = false ∧ ¬ (nI k < 0 ∨ S.1 ≤ (nI k).toNatClampNeg) then some (S.2 (nI k).toNatClampNeg) else none) = _
  rw [if_pos ⟨rfl, nI_in h (by omega)⟩, nI_clamp (by omega)]
theorem lw_ln {S : ex_S} {w : ex_W} : ex_len S w 1 = some (nI S.1) := rfl
section LW
variable {K N : Nat} {sc : Nat → Int32} {ar : Nat → Nat → Int32} {X : xs_T} {S : ex_S}
theorem lw_0 (hr : r_x N sc ar X) (hm : r_m K sc ar X) (hi : x_iv X) (hK : K < 2 ^ 28) (hE : x_ep X < 2 ^ 26) {i : Nat} (hi2 : i + 2 < S.1) (hL : S.1 < 2 ^ 30) : ∃ K' sc' ar', (K ≤ K' ∧ K' ≤ K + 14) ∧ ex_big S 87 42 [.inr 1, .inr 2, .inr 20, .inl (nI i)] [.inl 0] (mk_W N sc ar) 29 354 = ex_big S 87 472 [.inr 1, .inr 2, .inr 20, .inl (nI i)] [] (mk_W N sc' ar') 29 354 ∧ r_x N sc' ar' (x_nxt 0 (S.2 (i + 1)) (S.2 (i + 2)) X) ∧ r_m K' sc' ar' (x_nxt 0 (S.2 (i + 1)) (S.2 (i + 2)) X) := by
  have s1 : ∀ w : ex_W, ex_rd S w false 1 (nI (i + 1)) = some (S.2 (i + 1)) := fun w => lw_rd (by omega) hL
  have s2 : ∀ w : ex_W, ex_rd S w false 1 (nI (i + 2)) = some (S.2 (i + 2)) := fun w => lw_rd (by omega) hL
  obtain ⟨sc1, ar1, e1, r1, m1⟩ := f_read (S := S) (N := N) hr hi hE (S.2 (i + 1)) (S.2 (i + 2))
  obtain ⟨K2, sc2, ar2, k2, e2, r2, m2⟩ := g_read (S := S) (N := N) (r_m_M hm m1) hi hK hE (S.2 (i + 1)) (S.2 (i + 2))
  refine ⟨K2, sc2, ar2, k2, ?_, r_x_X r1 m2, r2⟩
  simp only [e_87_42_0, e_87_128, e_87_129, e_87_130, e_87_131, e_87_132, e_87_133, e_87_134, e_87_137, e_87_138, e_87_139, e_87_140, e_87_141, e_87_142, e_87_143, e_87_146, List.length_cons, List.length_nil, Nat.reduceAdd, Nat.reduceLeDiff, Nat.zero_le, Option.bind_some, ck_87_15, ck_87_66, rl_n, rl_s, wo_0, wo_18, nI_1, nI_2, s1, s2, e1, e2, eq_self, if_true]
theorem lw_1 (hr : r_x N sc ar X) (hm : r_m K sc ar X) (hi : x_iv X) (hK : K < 2 ^ 28) (hE : x_ep X < 2 ^ 26) {i : Nat} (hi2 : i + 2 < S.1) (hL : S.1 < 2 ^ 30) : ∃ K' sc' ar', (K ≤ K' ∧ K' ≤ K + 14) ∧ ex_big S 87 42 [.inr 1, .inr 2, .inr 20, .inl (nI i)] [.inl 1] (mk_W N sc ar) 29 354 = ex_big S 87 472 [.inr 1, .inr 2, .inr 20, .inl (nI i)] [] (mk_W N sc' ar') 29 354 ∧ r_x N sc' ar' (x_nxt 1 (S.2 (i + 1)) (S.2 (i + 2)) X) ∧ r_m K' sc' ar' (x_nxt 1 (S.2 (i + 1)) (S.2 (i + 2)) X) := by
  have s1 : ∀ w : ex_W, ex_rd S w false 1 (nI (i + 1)) = some (S.2 (i + 1)) := fun w => lw_rd (by omega) hL
  have s2 : ∀ w : ex_W, ex_rd S w false 1 (nI (i + 2)) = some (S.2 (i + 2)) := fun w => lw_rd (by omega) hL
  obtain ⟨sc1, ar1, e1, r1, m1⟩ := f_write (S := S) (N := N) hr hi hE (S.2 (i + 1)) (S.2 (i + 2))
  obtain ⟨K2, sc2, ar2, k2, e2, r2, m2⟩ := g_write (S := S) (N := N) (r_m_M hm m1) hi hK hE (S.2 (i + 1)) (S.2 (i + 2))
  refine ⟨K2, sc2, ar2, k2, ?_, r_x_X r1 m2, r2⟩
  simp only [e_87_42_1, e_87_151, e_87_152, e_87_153, e_87_154, e_87_155, e_87_156, e_87_157, e_87_158, e_87_159, e_87_160, e_87_161, e_87_162, e_87_165, e_87_166, e_87_167, e_87_168, e_87_169, e_87_170, e_87_171, e_87_172, e_87_173, e_87_174, e_87_175, e_87_176, e_87_179, List.length_cons, List.length_nil, Nat.reduceAdd, Nat.reduceLeDiff, Nat.zero_le, Option.bind_some, ck_87_16, ck_87_67, rl_n, rl_s, wo_0, wo_18, nI_1, nI_2, s1, s2, e1, e2, eq_self, if_true]
theorem lw_2 (hr : r_x N sc ar X) (hm : r_m K sc ar X) (hi : x_iv X) (hK : K < 2 ^ 28) (hE : x_ep X < 2 ^ 26) {i : Nat} (hi2 : i + 2 < S.1) (hL : S.1 < 2 ^ 30) : ∃ K' sc' ar', (K ≤ K' ∧ K' ≤ K + 14) ∧ ex_big S 87 42 [.inr 1, .inr 2, .inr 20, .inl (nI i)] [.inl 2] (mk_W N sc ar) 29 354 = ex_big S 87 472 [.inr 1, .inr 2, .inr 20, .inl (nI i)] [] (mk_W N sc' ar') 29 354 ∧ r_x N sc' ar' (x_nxt 2 (S.2 (i + 1)) (S.2 (i + 2)) X) ∧ r_m K' sc' ar' (x_nxt 2 (S.2 (i + 1)) (S.2 (i + 2)) X) := by
  have s1 : ∀ w : ex_W, ex_rd S w false 1 (nI (i + 1)) = some (S.2 (i + 1)) := fun w => lw_rd (by omega) hL
  have s2 : ∀ w : ex_W, ex_rd S w false 1 (nI (i + 2)) = some (S.2 (i + 2)) := fun w => lw_rd (by omega) hL
  obtain ⟨sc1, ar1, e1, r1, m1⟩ := f_flush (S := S) (N := N) hr  (S.2 (i + 1)) (S.2 (i + 2))
  obtain ⟨K2, sc2, ar2, k2, e2, r2, m2⟩ := g_flush (S := S) (N := N) (r_m_M hm m1)  (S.2 (i + 1)) (S.2 (i + 2))
  refine ⟨K2, sc2, ar2, k2, ?_, r_x_X r1 m2, r2⟩
  simp only [e_87_42_2, e_87_184, e_87_185, e_87_188, e_87_189, e_87_192, List.length_cons, List.length_nil, Nat.reduceAdd, Nat.reduceLeDiff, Nat.zero_le, Option.bind_some, ck_87_17, ck_87_68, rl_n, rl_s, wo_0, wo_18, nI_1, nI_2, s1, s2, e1, e2, eq_self, if_true]
theorem lw_3 (hr : r_x N sc ar X) (hm : r_m K sc ar X) (hi : x_iv X) (hK : K < 2 ^ 28) (hE : x_ep X < 2 ^ 26) {i : Nat} (hi2 : i + 2 < S.1) (hL : S.1 < 2 ^ 30) : ∃ K' sc' ar', (K ≤ K' ∧ K' ≤ K + 14) ∧ ex_big S 87 42 [.inr 1, .inr 2, .inr 20, .inl (nI i)] [.inl 3] (mk_W N sc ar) 29 354 = ex_big S 87 472 [.inr 1, .inr 2, .inr 20, .inl (nI i)] [] (mk_W N sc' ar') 29 354 ∧ r_x N sc' ar' (x_nxt 3 (S.2 (i + 1)) (S.2 (i + 2)) X) ∧ r_m K' sc' ar' (x_nxt 3 (S.2 (i + 1)) (S.2 (i + 2)) X) := by
  have s1 : ∀ w : ex_W, ex_rd S w false 1 (nI (i + 1)) = some (S.2 (i + 1)) := fun w => lw_rd (by omega) hL
  have s2 : ∀ w : ex_W, ex_rd S w false 1 (nI (i + 2)) = some (S.2 (i + 2)) := fun w => lw_rd (by omega) hL
  obtain ⟨sc1, ar1, e1, r1, m1⟩ := f_tick (S := S) (N := N) hr hE (S.2 (i + 1)) (S.2 (i + 2))
  obtain ⟨K2, sc2, ar2, k2, e2, r2, m2⟩ := g_tick (S := S) (N := N) (r_m_M hm m1) hi hE (S.2 (i + 1)) (S.2 (i + 2))
  refine ⟨K2, sc2, ar2, k2, ?_, r_x_X r1 m2, r2⟩
  simp only [e_87_42_3, e_87_197, e_87_198, e_87_201, e_87_202, e_87_205, List.length_cons, List.length_nil, Nat.reduceAdd, Nat.reduceLeDiff, Nat.zero_le, Option.bind_some, ck_87_18, ck_87_69, rl_n, rl_s, wo_0, wo_18, nI_1, nI_2, s1, s2, e1, e2, eq_self, if_true]
theorem lw_4 (hr : r_x N sc ar X) (hm : r_m K sc ar X) (hi : x_iv X) (hK : K < 2 ^ 28) (hE : x_ep X < 2 ^ 26) {i : Nat} (hi2 : i + 2 < S.1) (hL : S.1 < 2 ^ 30) : ∃ K' sc' ar', (K ≤ K' ∧ K' ≤ K + 14) ∧ ex_big S 87 42 [.inr 1, .inr 2, .inr 20, .inl (nI i)] [.inl 4] (mk_W N sc ar) 29 354 = ex_big S 87 472 [.inr 1, .inr 2, .inr 20, .inl (nI i)] [] (mk_W N sc' ar') 29 354 ∧ r_x N sc' ar' (x_nxt 4 (S.2 (i + 1)) (S.2 (i + 2)) X) ∧ r_m K' sc' ar' (x_nxt 4 (S.2 (i + 1)) (S.2 (i + 2)) X) := by
  have s1 : ∀ w : ex_W, ex_rd S w false 1 (nI (i + 1)) = some (S.2 (i + 1)) := fun w => lw_rd (by omega) hL
  have s2 : ∀ w : ex_W, ex_rd S w false 1 (nI (i + 2)) = some (S.2 (i + 2)) := fun w => lw_rd (by omega) hL
  obtain ⟨sc1, ar1, e1, r1, m1⟩ := f_detach (S := S) (N := N) hr hE (S.2 (i + 1)) (S.2 (i + 2))
  obtain ⟨K2, sc2, ar2, k2, e2, r2, m2⟩ := g_detach (S := S) (N := N) (r_m_M hm m1) hi hE (S.2 (i + 1)) (S.2 (i + 2))
  refine ⟨K2, sc2, ar2, k2, ?_, r_x_X r1 m2, r2⟩
  simp only [e_87_42_4, e_87_210, e_87_211, e_87_214, e_87_215, e_87_218, List.length_cons, List.length_nil, Nat.reduceAdd, Nat.reduceLeDiff, Nat.zero_le, Option.bind_some, ck_87_19, ck_87_72, rl_n, rl_s, wo_0, wo_18, nI_1, nI_2, s1, s2, e1, e2, eq_self, if_true]
theorem lw_5 (hr : r_x N sc ar X) (hm : r_m K sc ar X) (hi : x_iv X) (hK : K < 2 ^ 28) (hE : x_ep X < 2 ^ 26) {i : Nat} (hi2 : i + 2 < S.1) (hL : S.1 < 2 ^ 30) : ∃ K' sc' ar', (K ≤ K' ∧ K' ≤ K + 14) ∧ ex_big S 87 42 [.inr 1, .inr 2, .inr 20, .inl (nI i)] [.inl 5] (mk_W N sc ar) 29 354 = ex_big S 87 472 [.inr 1, .inr 2, .inr 20, .inl (nI i)] [] (mk_W N sc' ar') 29 354 ∧ r_x N sc' ar' (x_nxt 5 (S.2 (i + 1)) (S.2 (i + 2)) X) ∧ r_m K' sc' ar' (x_nxt 5 (S.2 (i + 1)) (S.2 (i + 2)) X) := by
  have s1 : ∀ w : ex_W, ex_rd S w false 1 (nI (i + 1)) = some (S.2 (i + 1)) := fun w => lw_rd (by omega) hL
  have s2 : ∀ w : ex_W, ex_rd S w false 1 (nI (i + 2)) = some (S.2 (i + 2)) := fun w => lw_rd (by omega) hL
  obtain ⟨sc1, ar1, e1, r1, m1⟩ := f_crash (S := S) (N := N) hr hi (S.2 (i + 1)) (S.2 (i + 2))
  obtain ⟨K2, sc2, ar2, k2, e2, r2, m2⟩ := g_crash (S := S) (N := N) (r_m_M hm m1) hi (S.2 (i + 1)) (S.2 (i + 2))
  refine ⟨K2, sc2, ar2, k2, ?_, r_x_X r1 m2, r2⟩
  simp only [e_87_42_5, e_87_223, e_87_224, e_87_227, e_87_228, e_87_231, List.length_cons, List.length_nil, Nat.reduceAdd, Nat.reduceLeDiff, Nat.zero_le, Option.bind_some, ck_87_20, ck_87_73, rl_n, rl_s, wo_0, wo_18, nI_1, nI_2, s1, s2, e1, e2, eq_self, if_true]
theorem lw_6 (hr : r_x N sc ar X) (hm : r_m K sc ar X) (hi : x_iv X) (hK : K < 2 ^ 28) (hE : x_ep X < 2 ^ 26) {i : Nat} (hi2 : i + 2 < S.1) (hL : S.1 < 2 ^ 30) : ∃ K' sc' ar', (K ≤ K' ∧ K' ≤ K + 14) ∧ ex_big S 87 42 [.inr 1, .inr 2, .inr 20, .inl (nI i)] [.inl 6] (mk_W N sc ar) 29 354 = ex_big S 87 472 [.inr 1, .inr 2, .inr 20, .inl (nI i)] [] (mk_W N sc' ar') 29 354 ∧ r_x N sc' ar' (x_nxt 6 (S.2 (i + 1)) (S.2 (i + 2)) X) ∧ r_m K' sc' ar' (x_nxt 6 (S.2 (i + 1)) (S.2 (i + 2)) X) := by
  have s1 : ∀ w : ex_W, ex_rd S w false 1 (nI (i + 1)) = some (S.2 (i + 1)) := fun w => lw_rd (by omega) hL
  have s2 : ∀ w : ex_W, ex_rd S w false 1 (nI (i + 2)) = some (S.2 (i + 2)) := fun w => lw_rd (by omega) hL
  obtain ⟨sc1, ar1, e1, r1, m1⟩ := f_lose (S := S) (N := N) hr  (S.2 (i + 1)) (S.2 (i + 2))
  obtain ⟨K2, sc2, ar2, k2, e2, r2, m2⟩ := g_lose (S := S) (N := N) (r_m_M hm m1)  (S.2 (i + 1)) (S.2 (i + 2))
  refine ⟨K2, sc2, ar2, k2, ?_, r_x_X r1 m2, r2⟩
  simp only [e_87_42_6, e_87_236, e_87_237, e_87_240, e_87_241, e_87_244, List.length_cons, List.length_nil, Nat.reduceAdd, Nat.reduceLeDiff, Nat.zero_le, Option.bind_some, ck_87_21, ck_87_74, rl_n, rl_s, wo_0, wo_18, nI_1, nI_2, s1, s2, e1, e2, eq_self, if_true]
theorem lw_7 (hr : r_x N sc ar X) (hm : r_m K sc ar X) (hi : x_iv X) (hK : K < 2 ^ 28) (hE : x_ep X < 2 ^ 26) {i : Nat} (hi2 : i + 2 < S.1) (hL : S.1 < 2 ^ 30) : ∃ K' sc' ar', (K ≤ K' ∧ K' ≤ K + 14) ∧ ex_big S 87 42 [.inr 1, .inr 2, .inr 20, .inl (nI i)] [.inl 7] (mk_W N sc ar) 29 354 = ex_big S 87 472 [.inr 1, .inr 2, .inr 20, .inl (nI i)] [] (mk_W N sc' ar') 29 354 ∧ r_x N sc' ar' (x_nxt 7 (S.2 (i + 1)) (S.2 (i + 2)) X) ∧ r_m K' sc' ar' (x_nxt 7 (S.2 (i + 1)) (S.2 (i + 2)) X) := by
  have s1 : ∀ w : ex_W, ex_rd S w false 1 (nI (i + 1)) = some (S.2 (i + 1)) := fun w => lw_rd (by omega) hL
  have s2 : ∀ w : ex_W, ex_rd S w false 1 (nI (i + 2)) = some (S.2 (i + 2)) := fun w => lw_rd (by omega) hL
  have e1 := f_hit (S := S) (N := N) hr  (S.2 (i + 1)) (S.2 (i + 2))
  have e2 := g_hit (S := S) (N := N) hm  (S.2 (i + 1)) (S.2 (i + 2))
  refine ⟨K, sc, ar, by omega, ?_, hr, hm⟩
  simp only [e_87_42_7, e_87_249, e_87_250, e_87_253, e_87_254, e_87_257, List.length_cons, List.length_nil, Nat.reduceAdd, Nat.reduceLeDiff, Nat.zero_le, Option.bind_some, ck_87_22, ck_87_75, rl_n, rl_s, wo_0, wo_18, nI_1, nI_2, s1, s2, e1, e2, eq_self, if_true]
theorem lw_8 (hr : r_x N sc ar X) (hm : r_m K sc ar X) (hi : x_iv X) (hK : K < 2 ^ 28) (hE : x_ep X < 2 ^ 26) {i : Nat} (hi2 : i + 2 < S.1) (hL : S.1 < 2 ^ 30) : ∃ K' sc' ar', (K ≤ K' ∧ K' ≤ K + 14) ∧ ex_big S 87 42 [.inr 1, .inr 2, .inr 20, .inl (nI i)] [.inl 8] (mk_W N sc ar) 29 354 = ex_big S 87 472 [.inr 1, .inr 2, .inr 20, .inl (nI i)] [] (mk_W N sc' ar') 29 354 ∧ r_x N sc' ar' (x_nxt 8 (S.2 (i + 1)) (S.2 (i + 2)) X) ∧ r_m K' sc' ar' (x_nxt 8 (S.2 (i + 1)) (S.2 (i + 2)) X) := by
  have s1 : ∀ w : ex_W, ex_rd S w false 1 (nI (i + 1)) = some (S.2 (i + 1)) := fun w => lw_rd (by omega) hL
  have s2 : ∀ w : ex_W, ex_rd S w false 1 (nI (i + 2)) = some (S.2 (i + 2)) := fun w => lw_rd (by omega) hL
  have hbd := r_bd_wk hi.1 (show x_ep X < 2 ^ 29 by omega)
  have e1 := f_says (S := S) (N := N) hr  (S.2 (i + 1)) (S.2 (i + 2))
  have e2 := g_says (S := S) (N := N) hm hbd (S.2 (i + 1)) (S.2 (i + 2))
  refine ⟨K, sc, ar, by omega, ?_, hr, hm⟩
  simp only [e_87_42_8, e_87_262, e_87_263, e_87_264, e_87_265, e_87_266, e_87_267, e_87_268, e_87_271, e_87_272, e_87_273, e_87_274, e_87_275, e_87_276, e_87_277, e_87_280, List.length_cons, List.length_nil, Nat.reduceAdd, Nat.reduceLeDiff, Nat.zero_le, Option.bind_some, ck_87_23, ck_87_76, rl_n, rl_s, wo_0, wo_18, nI_1, nI_2, s1, s2, e1, e2, eq_self, if_true]
theorem lw_9 (hr : r_x N sc ar X) (hm : r_m K sc ar X) (hi : x_iv X) (hK : K < 2 ^ 28) (hE : x_ep X < 2 ^ 26) {i : Nat} (hi2 : i + 2 < S.1) (hL : S.1 < 2 ^ 30) : ∃ K' sc' ar', (K ≤ K' ∧ K' ≤ K + 14) ∧ ex_big S 87 42 [.inr 1, .inr 2, .inr 20, .inl (nI i)] [.inl 9] (mk_W N sc ar) 29 354 = ex_big S 87 472 [.inr 1, .inr 2, .inr 20, .inl (nI i)] [] (mk_W N sc' ar') 29 354 ∧ r_x N sc' ar' (x_nxt 9 (S.2 (i + 1)) (S.2 (i + 2)) X) ∧ r_m K' sc' ar' (x_nxt 9 (S.2 (i + 1)) (S.2 (i + 2)) X) := by
  have s1 : ∀ w : ex_W, ex_rd S w false 1 (nI (i + 1)) = some (S.2 (i + 1)) := fun w => lw_rd (by omega) hL
  have s2 : ∀ w : ex_W, ex_rd S w false 1 (nI (i + 2)) = some (S.2 (i + 2)) := fun w => lw_rd (by omega) hL
  have e1 := f_stored (S := S) (N := N) hr  (S.2 (i + 1)) (S.2 (i + 2))
  have e2 := g_stored (S := S) (N := N) hm  (S.2 (i + 1)) (S.2 (i + 2))
  refine ⟨K, sc, ar, by omega, ?_, hr, hm⟩
  simp only [e_87_42_9, e_87_285, e_87_286, e_87_287, e_87_288, e_87_289, e_87_290, e_87_291, e_87_294, e_87_295, e_87_296, e_87_297, e_87_298, e_87_299, e_87_300, e_87_303, List.length_cons, List.length_nil, Nat.reduceAdd, Nat.reduceLeDiff, Nat.zero_le, Option.bind_some, ck_87_24, ck_87_77, rl_n, rl_s, wo_0, wo_18, nI_1, nI_2, s1, s2, e1, e2, eq_self, if_true]
theorem lw_10 (hr : r_x N sc ar X) (hm : r_m K sc ar X) (hi : x_iv X) (hK : K < 2 ^ 28) (hE : x_ep X < 2 ^ 26) {i : Nat} (hi2 : i + 2 < S.1) (hL : S.1 < 2 ^ 30) : ∃ K' sc' ar', (K ≤ K' ∧ K' ≤ K + 14) ∧ ex_big S 87 42 [.inr 1, .inr 2, .inr 20, .inl (nI i)] [.inl 10] (mk_W N sc ar) 29 354 = ex_big S 87 472 [.inr 1, .inr 2, .inr 20, .inl (nI i)] [] (mk_W N sc' ar') 29 354 ∧ r_x N sc' ar' (x_nxt 10 (S.2 (i + 1)) (S.2 (i + 2)) X) ∧ r_m K' sc' ar' (x_nxt 10 (S.2 (i + 1)) (S.2 (i + 2)) X) := by
  have s1 : ∀ w : ex_W, ex_rd S w false 1 (nI (i + 1)) = some (S.2 (i + 1)) := fun w => lw_rd (by omega) hL
  have s2 : ∀ w : ex_W, ex_rd S w false 1 (nI (i + 2)) = some (S.2 (i + 2)) := fun w => lw_rd (by omega) hL
  have e1 := f_slot (S := S) (N := N) hr  (S.2 (i + 1)) (S.2 (i + 2))
  have e2 := g_slot (S := S) (N := N) hm  (S.2 (i + 1)) (S.2 (i + 2))
  refine ⟨K, sc, ar, by omega, ?_, hr, hm⟩
  simp only [e_87_42_10, e_87_308, e_87_309, e_87_310, e_87_311, e_87_312, e_87_313, e_87_314, e_87_317, e_87_318, e_87_319, e_87_320, e_87_321, e_87_322, e_87_323, e_87_326, List.length_cons, List.length_nil, Nat.reduceAdd, Nat.reduceLeDiff, Nat.zero_le, Option.bind_some, ck_87_25, ck_87_78, rl_n, rl_s, wo_0, wo_18, nI_1, nI_2, s1, s2, e1, e2, eq_self, if_true]
theorem lw_11 (hr : r_x N sc ar X) (hm : r_m K sc ar X) (hi : x_iv X) (hK : K < 2 ^ 28) (hE : x_ep X < 2 ^ 26) {i : Nat} (hi2 : i + 2 < S.1) (hL : S.1 < 2 ^ 30) : ∃ K' sc' ar', (K ≤ K' ∧ K' ≤ K + 14) ∧ ex_big S 87 42 [.inr 1, .inr 2, .inr 20, .inl (nI i)] [.inl 11] (mk_W N sc ar) 29 354 = ex_big S 87 472 [.inr 1, .inr 2, .inr 20, .inl (nI i)] [] (mk_W N sc' ar') 29 354 ∧ r_x N sc' ar' (x_nxt 11 (S.2 (i + 1)) (S.2 (i + 2)) X) ∧ r_m K' sc' ar' (x_nxt 11 (S.2 (i + 1)) (S.2 (i + 2)) X) := by
  have s1 : ∀ w : ex_W, ex_rd S w false 1 (nI (i + 1)) = some (S.2 (i + 1)) := fun w => lw_rd (by omega) hL
  have s2 : ∀ w : ex_W, ex_rd S w false 1 (nI (i + 2)) = some (S.2 (i + 2)) := fun w => lw_rd (by omega) hL
  have e1 := f_named (S := S) (N := N) hr  (S.2 (i + 1)) (S.2 (i + 2))
  have e2 := g_named (S := S) (N := N) hm  (S.2 (i + 1)) (S.2 (i + 2))
  refine ⟨K, sc, ar, by omega, ?_, hr, hm⟩
  simp only [e_87_42_11, e_87_331, e_87_332, e_87_333, e_87_334, e_87_335, e_87_336, e_87_337, e_87_340, e_87_341, e_87_342, e_87_343, e_87_344, e_87_345, e_87_346, e_87_349, List.length_cons, List.length_nil, Nat.reduceAdd, Nat.reduceLeDiff, Nat.zero_le, Option.bind_some, ck_87_26, ck_87_79, rl_n, rl_s, wo_0, wo_18, nI_1, nI_2, s1, s2, e1, e2, eq_self, if_true]
theorem lw_12 (hr : r_x N sc ar X) (hm : r_m K sc ar X) (hi : x_iv X) (hK : K < 2 ^ 28) (hE : x_ep X < 2 ^ 26) {i : Nat} (hi2 : i + 2 < S.1) (hL : S.1 < 2 ^ 30) : ∃ K' sc' ar', (K ≤ K' ∧ K' ≤ K + 14) ∧ ex_big S 87 42 [.inr 1, .inr 2, .inr 20, .inl (nI i)] [.inl 12] (mk_W N sc ar) 29 354 = ex_big S 87 472 [.inr 1, .inr 2, .inr 20, .inl (nI i)] [] (mk_W N sc' ar') 29 354 ∧ r_x N sc' ar' (x_nxt 12 (S.2 (i + 1)) (S.2 (i + 2)) X) ∧ r_m K' sc' ar' (x_nxt 12 (S.2 (i + 1)) (S.2 (i + 2)) X) := by
  have s1 : ∀ w : ex_W, ex_rd S w false 1 (nI (i + 1)) = some (S.2 (i + 1)) := fun w => lw_rd (by omega) hL
  have s2 : ∀ w : ex_W, ex_rd S w false 1 (nI (i + 2)) = some (S.2 (i + 2)) := fun w => lw_rd (by omega) hL
  have e1 := f_epoch (S := S) (N := N) hr  (S.2 (i + 1)) (S.2 (i + 2))
  have e2 := g_epoch (S := S) (N := N) hm  (S.2 (i + 1)) (S.2 (i + 2))
  refine ⟨K, sc, ar, by omega, ?_, hr, hm⟩
  simp only [e_87_42_12, e_87_354, e_87_355, e_87_356, e_87_357, e_87_358, e_87_359, e_87_360, e_87_363, e_87_364, e_87_365, e_87_366, e_87_367, e_87_368, e_87_369, e_87_372, List.length_cons, List.length_nil, Nat.reduceAdd, Nat.reduceLeDiff, Nat.zero_le, Option.bind_some, ck_87_27, ck_87_80, rl_n, rl_s, wo_0, wo_18, nI_1, nI_2, s1, s2, e1, e2, eq_self, if_true]
theorem lw_13 (hr : r_x N sc ar X) (hm : r_m K sc ar X) (hi : x_iv X) (hK : K < 2 ^ 28) (hE : x_ep X < 2 ^ 26) {i : Nat} (hi2 : i + 2 < S.1) (hL : S.1 < 2 ^ 30) : ∃ K' sc' ar', (K ≤ K' ∧ K' ≤ K + 14) ∧ ex_big S 87 42 [.inr 1, .inr 2, .inr 20, .inl (nI i)] [.inl 13] (mk_W N sc ar) 29 354 = ex_big S 87 472 [.inr 1, .inr 2, .inr 20, .inl (nI i)] [] (mk_W N sc' ar') 29 354 ∧ r_x N sc' ar' (x_nxt 13 (S.2 (i + 1)) (S.2 (i + 2)) X) ∧ r_m K' sc' ar' (x_nxt 13 (S.2 (i + 1)) (S.2 (i + 2)) X) := by
  have s1 : ∀ w : ex_W, ex_rd S w false 1 (nI (i + 1)) = some (S.2 (i + 1)) := fun w => lw_rd (by omega) hL
  have s2 : ∀ w : ex_W, ex_rd S w false 1 (nI (i + 2)) = some (S.2 (i + 2)) := fun w => lw_rd (by omega) hL
  have e1 := f_list (S := S) (N := N) hr  (S.2 (i + 1)) (S.2 (i + 2))
  have e2 := g_list (S := S) (N := N) hm  (S.2 (i + 1)) (S.2 (i + 2))
  refine ⟨K, sc, ar, by omega, ?_, hr, hm⟩
  simp only [e_87_42_13, e_87_377, e_87_378, e_87_379, e_87_380, e_87_381, e_87_382, e_87_383, e_87_386, e_87_387, e_87_388, e_87_389, e_87_390, e_87_391, e_87_392, e_87_395, List.length_cons, List.length_nil, Nat.reduceAdd, Nat.reduceLeDiff, Nat.zero_le, Option.bind_some, ck_87_28, ck_87_81, rl_n, rl_s, wo_0, wo_18, nI_1, nI_2, s1, s2, e1, e2, eq_self, if_true]
theorem lw_14 (hr : r_x N sc ar X) (hm : r_m K sc ar X) (hi : x_iv X) (hK : K < 2 ^ 28) (hE : x_ep X < 2 ^ 26) {i : Nat} (hi2 : i + 2 < S.1) (hL : S.1 < 2 ^ 30) : ∃ K' sc' ar', (K ≤ K' ∧ K' ≤ K + 14) ∧ ex_big S 87 42 [.inr 1, .inr 2, .inr 20, .inl (nI i)] [.inl 14] (mk_W N sc ar) 29 354 = ex_big S 87 472 [.inr 1, .inr 2, .inr 20, .inl (nI i)] [] (mk_W N sc' ar') 29 354 ∧ r_x N sc' ar' (x_nxt 14 (S.2 (i + 1)) (S.2 (i + 2)) X) ∧ r_m K' sc' ar' (x_nxt 14 (S.2 (i + 1)) (S.2 (i + 2)) X) := by
  have s1 : ∀ w : ex_W, ex_rd S w false 1 (nI (i + 1)) = some (S.2 (i + 1)) := fun w => lw_rd (by omega) hL
  have s2 : ∀ w : ex_W, ex_rd S w false 1 (nI (i + 2)) = some (S.2 (i + 2)) := fun w => lw_rd (by omega) hL
  have e1 := f_member (S := S) (N := N) hr  (S.2 (i + 1)) (S.2 (i + 2))
  have e2 := g_member (S := S) (N := N) hm hi.1.2.2.2.1 (show K < 2 ^ 30 by omega) (S.2 (i + 1)) (S.2 (i + 2))
  refine ⟨K, sc, ar, by omega, ?_, hr, hm⟩
  simp only [e_87_42_14, e_87_400, e_87_401, e_87_402, e_87_403, e_87_404, e_87_405, e_87_406, e_87_407, e_87_408, e_87_409, e_87_410, e_87_411, e_87_414, e_87_415, e_87_416, e_87_417, e_87_418, e_87_419, e_87_420, e_87_421, e_87_422, e_87_423, e_87_424, e_87_425, e_87_428, List.length_cons, List.length_nil, Nat.reduceAdd, Nat.reduceLeDiff, Nat.zero_le, Option.bind_some, ck_87_29, ck_87_82, rl_n, rl_s, wo_0, wo_18, nI_1, nI_2, s1, s2, e1, e2, eq_self, if_true]
theorem lw_15 (hr : r_x N sc ar X) (hm : r_m K sc ar X) (hi : x_iv X) (hK : K < 2 ^ 28) (hE : x_ep X < 2 ^ 26) {i : Nat} (hi2 : i + 2 < S.1) (hL : S.1 < 2 ^ 30) : ∃ K' sc' ar', (K ≤ K' ∧ K' ≤ K + 14) ∧ ex_big S 87 42 [.inr 1, .inr 2, .inr 20, .inl (nI i)] [.inl 15] (mk_W N sc ar) 29 354 = ex_big S 87 472 [.inr 1, .inr 2, .inr 20, .inl (nI i)] [] (mk_W N sc' ar') 29 354 ∧ r_x N sc' ar' (x_nxt 15 (S.2 (i + 1)) (S.2 (i + 2)) X) ∧ r_m K' sc' ar' (x_nxt 15 (S.2 (i + 1)) (S.2 (i + 2)) X) := by
  have s1 : ∀ w : ex_W, ex_rd S w false 1 (nI (i + 1)) = some (S.2 (i + 1)) := fun w => lw_rd (by omega) hL
  have s2 : ∀ w : ex_W, ex_rd S w false 1 (nI (i + 2)) = some (S.2 (i + 2)) := fun w => lw_rd (by omega) hL
  have e1 := f_target (S := S) (N := N) hr  (S.2 (i + 1)) (S.2 (i + 2))
  have e2 := g_target (S := S) (N := N) hm  (S.2 (i + 1)) (S.2 (i + 2))
  refine ⟨K, sc, ar, by omega, ?_, hr, hm⟩
  simp only [e_87_42_15, e_87_433, e_87_434, e_87_437, e_87_438, e_87_441, List.length_cons, List.length_nil, Nat.reduceAdd, Nat.reduceLeDiff, Nat.zero_le, Option.bind_some, ck_87_30, ck_87_83, rl_n, rl_s, wo_0, wo_18, nI_1, nI_2, s1, s2, e1, e2, eq_self, if_true]
theorem lw_16 (hr : r_x N sc ar X) (hm : r_m K sc ar X) (hi : x_iv X) (hK : K < 2 ^ 28) (hE : x_ep X < 2 ^ 26) {i : Nat} (hi2 : i + 2 < S.1) (hL : S.1 < 2 ^ 30) : ∃ K' sc' ar', (K ≤ K' ∧ K' ≤ K + 14) ∧ ex_big S 87 42 [.inr 1, .inr 2, .inr 20, .inl (nI i)] [.inl 16] (mk_W N sc ar) 29 354 = ex_big S 87 472 [.inr 1, .inr 2, .inr 20, .inl (nI i)] [] (mk_W N sc' ar') 29 354 ∧ r_x N sc' ar' (x_nxt 16 (S.2 (i + 1)) (S.2 (i + 2)) X) ∧ r_m K' sc' ar' (x_nxt 16 (S.2 (i + 1)) (S.2 (i + 2)) X) := by
  have s1 : ∀ w : ex_W, ex_rd S w false 1 (nI (i + 1)) = some (S.2 (i + 1)) := fun w => lw_rd (by omega) hL
  have s2 : ∀ w : ex_W, ex_rd S w false 1 (nI (i + 2)) = some (S.2 (i + 2)) := fun w => lw_rd (by omega) hL
  have hbd := r_bd_wk hi.1 (show x_ep X < 2 ^ 29 by omega)
  have e1 := f_free (S := S) (N := N) hr  (S.2 (i + 1)) (S.2 (i + 2))
  have e2 := g_free (S := S) (N := N) hm hbd (S.2 (i + 1)) (S.2 (i + 2))
  refine ⟨K, sc, ar, by omega, ?_, hr, hm⟩
  simp only [e_87_42_16, e_87_446, e_87_447, e_87_450, e_87_451, e_87_454, List.length_cons, List.length_nil, Nat.reduceAdd, Nat.reduceLeDiff, Nat.zero_le, Option.bind_some, ck_87_31, ck_87_84, rl_n, rl_s, wo_0, wo_18, nI_1, nI_2, s1, s2, e1, e2, eq_self, if_true]
theorem lw_17 (hr : r_x N sc ar X) (hm : r_m K sc ar X) (hi : x_iv X) (hK : K < 2 ^ 28) (hE : x_ep X < 2 ^ 26) {i : Nat} (hi2 : i + 2 < S.1) (hL : S.1 < 2 ^ 30) : ∃ K' sc' ar', (K ≤ K' ∧ K' ≤ K + 14) ∧ ex_big S 87 42 [.inr 1, .inr 2, .inr 20, .inl (nI i)] [.inl 17] (mk_W N sc ar) 29 354 = ex_big S 87 472 [.inr 1, .inr 2, .inr 20, .inl (nI i)] [] (mk_W N sc' ar') 29 354 ∧ r_x N sc' ar' (x_nxt 17 (S.2 (i + 1)) (S.2 (i + 2)) X) ∧ r_m K' sc' ar' (x_nxt 17 (S.2 (i + 1)) (S.2 (i + 2)) X) := by
  have s1 : ∀ w : ex_W, ex_rd S w false 1 (nI (i + 1)) = some (S.2 (i + 1)) := fun w => lw_rd (by omega) hL
  have s2 : ∀ w : ex_W, ex_rd S w false 1 (nI (i + 2)) = some (S.2 (i + 2)) := fun w => lw_rd (by omega) hL
  have e1 := f_drained (S := S) (N := N) hr  (S.2 (i + 1)) (S.2 (i + 2))
  have e2 := g_drained (S := S) (N := N) hm  (S.2 (i + 1)) (S.2 (i + 2))
  refine ⟨K, sc, ar, by omega, ?_, hr, hm⟩
  simp only [e_87_42_17, e_87_459, e_87_460, e_87_463, e_87_464, e_87_467, List.length_cons, List.length_nil, Nat.reduceAdd, Nat.reduceLeDiff, Nat.zero_le, Option.bind_some, ck_87_32, ck_87_85, rl_n, rl_s, wo_0, wo_18, nI_1, nI_2, s1, s2, e1, e2, eq_self, if_true]
theorem lw_step (hr : r_x N sc ar X) (hm : r_m K sc ar X) (hi : x_iv X) (hK : K < 2 ^ 28) (hE : x_ep X < 2 ^ 26) {i : Nat} (hi2 : i + 2 < S.1) (hL : S.1 < 2 ^ 30) {j : Nat} (hj : j < 32) : ∃ K' sc' ar' X', (K ≤ K' ∧ K' ≤ K + 14) ∧ ex_big S 87 42 [.inr 1, .inr 2, .inr 20, .inl (nI i)] [.inl (nI j)] (mk_W N sc ar) 29 354 = ex_big S 87 472 [.inr 1, .inr 2, .inr 20, .inl (nI i)] [] (mk_W N sc' ar') 29 354 ∧ r_x N sc' ar' X' ∧ r_m K' sc' ar' X' ∧ x_iv X' ∧ x_ep X' ≤ x_ep X + 3 := by
  rcases (show j = 0 ∨ j = 1 ∨ j = 2 ∨ j = 3 ∨ j = 4 ∨ j = 5 ∨ j = 6 ∨ j = 7 ∨ j = 8 ∨ j = 9 ∨ j = 10 ∨ j = 11 ∨ j = 12 ∨ j = 13 ∨ j = 14 ∨ j = 15 ∨ j = 16 ∨ j = 17 ∨ 17 < j by omega) with rfl | rfl | rfl | rfl | rfl | rfl | rfl | rfl | rfl | rfl | rfl | rfl | rfl | rfl | rfl | rfl | rfl | rfl | hj
  · obtain ⟨K2, sc2, ar2, k2, e2, r2, m2⟩ := lw_0 (S := S) hr hm hi hK hE hi2 hL
    exact ⟨K2, sc2, ar2, _, k2, e2, r2, m2, x_nxt_ok hi 0 (S.2 (i + 1)) (S.2 (i + 2))⟩
  · obtain ⟨K2, sc2, ar2, k2, e2, r2, m2⟩ := lw_1 (S := S) hr hm hi hK hE hi2 hL
    exact ⟨K2, sc2, ar2, _, k2, e2, r2, m2, x_nxt_ok hi 1 (S.2 (i + 1)) (S.2 (i + 2))⟩
  · obtain ⟨K2, sc2, ar2, k2, e2, r2, m2⟩ := lw_2 (S := S) hr hm hi hK hE hi2 hL
    exact ⟨K2, sc2, ar2, _, k2, e2, r2, m2, x_nxt_ok hi 2 (S.2 (i + 1)) (S.2 (i + 2))⟩
  · obtain ⟨K2, sc2, ar2, k2, e2, r2, m2⟩ := lw_3 (S := S) hr hm hi hK hE hi2 hL
    exact ⟨K2, sc2, ar2, _, k2, e2, r2, m2, x_nxt_ok hi 3 (S.2 (i + 1)) (S.2 (i + 2))⟩
  · obtain ⟨K2, sc2, ar2, k2, e2, r2, m2⟩ := lw_4 (S := S) hr hm hi hK hE hi2 hL
    exact ⟨K2, sc2, ar2, _, k2, e2, r2, m2, x_nxt_ok hi 4 (S.2 (i + 1)) (S.2 (i + 2))⟩
  · obtain ⟨K2, sc2, ar2, k2, e2, r2, m2⟩ := lw_5 (S := S) hr hm hi hK hE hi2 hL
    exact ⟨K2, sc2, ar2, _, k2, e2, r2, m2, x_nxt_ok hi 5 (S.2 (i + 1)) (S.2 (i + 2))⟩
  · obtain ⟨K2, sc2, ar2, k2, e2, r2, m2⟩ := lw_6 (S := S) hr hm hi hK hE hi2 hL
    exact ⟨K2, sc2, ar2, _, k2, e2, r2, m2, x_nxt_ok hi 6 (S.2 (i + 1)) (S.2 (i + 2))⟩
  · obtain ⟨K2, sc2, ar2, k2, e2, r2, m2⟩ := lw_7 (S := S) hr hm hi hK hE hi2 hL
    exact ⟨K2, sc2, ar2, _, k2, e2, r2, m2, x_nxt_ok hi 7 (S.2 (i + 1)) (S.2 (i + 2))⟩
  · obtain ⟨K2, sc2, ar2, k2, e2, r2, m2⟩ := lw_8 (S := S) hr hm hi hK hE hi2 hL
    exact ⟨K2, sc2, ar2, _, k2, e2, r2, m2, x_nxt_ok hi 8 (S.2 (i + 1)) (S.2 (i + 2))⟩
  · obtain ⟨K2, sc2, ar2, k2, e2, r2, m2⟩ := lw_9 (S := S) hr hm hi hK hE hi2 hL
    exact ⟨K2, sc2, ar2, _, k2, e2, r2, m2, x_nxt_ok hi 9 (S.2 (i + 1)) (S.2 (i + 2))⟩
  · obtain ⟨K2, sc2, ar2, k2, e2, r2, m2⟩ := lw_10 (S := S) hr hm hi hK hE hi2 hL
    exact ⟨K2, sc2, ar2, _, k2, e2, r2, m2, x_nxt_ok hi 10 (S.2 (i + 1)) (S.2 (i + 2))⟩
  · obtain ⟨K2, sc2, ar2, k2, e2, r2, m2⟩ := lw_11 (S := S) hr hm hi hK hE hi2 hL
    exact ⟨K2, sc2, ar2, _, k2, e2, r2, m2, x_nxt_ok hi 11 (S.2 (i + 1)) (S.2 (i + 2))⟩
  · obtain ⟨K2, sc2, ar2, k2, e2, r2, m2⟩ := lw_12 (S := S) hr hm hi hK hE hi2 hL
    exact ⟨K2, sc2, ar2, _, k2, e2, r2, m2, x_nxt_ok hi 12 (S.2 (i + 1)) (S.2 (i + 2))⟩
  · obtain ⟨K2, sc2, ar2, k2, e2, r2, m2⟩ := lw_13 (S := S) hr hm hi hK hE hi2 hL
    exact ⟨K2, sc2, ar2, _, k2, e2, r2, m2, x_nxt_ok hi 13 (S.2 (i + 1)) (S.2 (i + 2))⟩
  · obtain ⟨K2, sc2, ar2, k2, e2, r2, m2⟩ := lw_14 (S := S) hr hm hi hK hE hi2 hL
    exact ⟨K2, sc2, ar2, _, k2, e2, r2, m2, x_nxt_ok hi 14 (S.2 (i + 1)) (S.2 (i + 2))⟩
  · obtain ⟨K2, sc2, ar2, k2, e2, r2, m2⟩ := lw_15 (S := S) hr hm hi hK hE hi2 hL
    exact ⟨K2, sc2, ar2, _, k2, e2, r2, m2, x_nxt_ok hi 15 (S.2 (i + 1)) (S.2 (i + 2))⟩
  · obtain ⟨K2, sc2, ar2, k2, e2, r2, m2⟩ := lw_16 (S := S) hr hm hi hK hE hi2 hL
    exact ⟨K2, sc2, ar2, _, k2, e2, r2, m2, x_nxt_ok hi 16 (S.2 (i + 1)) (S.2 (i + 2))⟩
  · obtain ⟨K2, sc2, ar2, k2, e2, r2, m2⟩ := lw_17 (S := S) hr hm hi hK hE hi2 hL
    exact ⟨K2, sc2, ar2, _, k2, e2, r2, m2, x_nxt_ok hi 17 (S.2 (i + 1)) (S.2 (i + 2))⟩
  · refine ⟨K, sc, ar, X, by omega, e_87_42_out (Or.inr ?_), hr, hm, hi, Nat.le_add_right _ 3⟩
    rw [nI_toInt (by omega)]
    omega
theorem lw_out {L i : Nat} (hL : L < 2 ^ 30) (hi : i < 2 ^ 30) (h : L < i + 3) : nI L - 3 < nI i := by
  by_cases h3 : 3 ≤ L
  · have e : nI L - 3 = nI (L - 3) := pk_sub (a := L) (b := 3) h3
    rw [e]
    exact nI_lt (by omega) (by omega)
  · have h0 : nI L - 3 < 0 := by
      rcases (show L = 0 ∨ L = 1 ∨ L = 2 by omega) with rfl | rfl | rfl <;> decide
    exact Int32.lt_of_lt_of_le h0 (nI_pos' (by omega))
theorem lw_loop (hL : S.1 ≤ 1537) : ∀ d k K sc ar X, 600 - k = d → k ≤ 512 → r_x N sc ar X → r_m K sc ar X → x_iv X → x_ep X ≤ 4 * k → K ≤ 14 * k → ∃ w', ex_big S 87 28 [.inr 1, .inr 2, .inr 20, .inl (nI (1 + 3 * k))] [] (mk_W N sc ar) 29 354 = some (some 1, w') := by
  intro d
  induction d with
  | zero => intro k K sc ar X hd hk; omega
  | succ d ih =>
    intro k K sc ar X hd hk hr hm hi hE hK
    by_cases hc : 1 + 3 * k + 3 ≤ S.1
    · have e0 : nI S.1 - 3 = nI (S.1 - 3) := pk_sub (a := S.1) (b := 3) (by omega)
      have h1 : ¬ nI (S.1 - 3) < nI (1 + 3 * k) := nI_nlt (by omega) (by omega)
      have s0 : ex_rd S (mk_W N sc ar) false 1 (nI (1 + 3 * k)) = some (S.2 (1 + 3 * k)) := lw_rd (by omega) (by omega)
      obtain ⟨j, hj, hv⟩ := pk_andE (S.2 (1 + 3 * k)) (m := 31) 5 (by decide)
      obtain ⟨K2, sc2, ar2, X2, k2, e2, r2, m2, i2, p2⟩ := lw_step (S := S) (i := 1 + 3 * k) (j := j) hr hm hi (by omega) (by omega) (by omega) (by omega) hj
      obtain ⟨w', e3⟩ := ih (k + 1) K2 sc2 ar2 X2 (by omega) (by omega) r2 m2 i2 (by omega) (by omega)
      rw [show 1 + 3 * (k + 1) = 1 + 3 * k + 3 by omega] at e3
      refine ⟨w', ?_⟩
      rw [e_87_28]
      simp only [e_87_29, e_87_30, e_87_31, e_87_32, e_87_33, e_87_36, e_87_37, e_87_38, e_87_39, e_87_41, Nat.reduceAdd, Option.bind_some, lw_ln, e0, if_neg h1, s0, hv, e2, e_87_472, e_87_475, Nat.reduceAdd, nI_3, e3]
    · have h1 : nI S.1 - 3 < nI (1 + 3 * k) := lw_out (by omega) (by omega) (by omega)
      refine ⟨mk_W N sc ar, ?_⟩
      rw [e_87_28]
      simp only [e_87_29, e_87_30, e_87_31, e_87_32, e_87_33, Nat.reduceAdd, Option.bind_some, lw_ln, if_pos h1, e_87_478, e_87_479, Nat.reduceAdd, false_or, or_false, or_true, rk_87l, true_or]
end LW
