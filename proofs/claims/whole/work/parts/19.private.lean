/-! the class's private methods -/
section CL2
variable {S : ex_S} {N : Nat} {sc : Nat → Int32} {ar : Nat → Nat → Int32} {X : xs_T}
theorem r_x_N14 (hr : r_x N sc ar X) : N ≤ 14 := by
  have := hr.1
  omega
theorem c_isBlock_t {w : ex_W} {b : Nat} (hb : b < 16) : ex_big S 33 0 [.inl (nI b)] [] w 0 0 = some (some 1, w) := by
  have h1 : ¬ nI b < 0 := nI_pos (by omega)
  have h2 : ¬ (16 : Int32) ≤ nI b := nI_ge (a := b) (b := 16) hb (by omega)
  simp only [e_33_0, e_33_1, e_33_4, e_33_5, e_33_7, e_33_10, e_33_11, e_33_14, e_33_15, Nat.reduceAdd, false_or, or_false, or_true, rk_33, true_or, if_neg h1, if_neg h2]
theorem c_isBlock_f {w : ex_W} {x : Int32} (hx : x < 0 ∨ nI 16 ≤ x) : ex_big S 33 0 [.inl x] [] w 0 0 = some (some 0, w) := by
  by_cases h1 : x < 0
  · simp only [e_33_0, e_33_1, e_33_4, e_33_5, e_33_7, e_33_10, e_33_11, e_33_14, e_33_15, Nat.reduceAdd, false_or, or_false, or_true, rk_33, true_or, if_pos h1]
  · have h2 : (16 : Int32) ≤ x := hx.resolve_left h1
    simp only [e_33_0, e_33_1, e_33_4, e_33_5, e_33_7, e_33_10, e_33_11, e_33_14, e_33_15, Nat.reduceAdd, false_or, or_false, or_true, rk_33, true_or, if_neg h1, if_pos h2]
theorem c_notblock {x : Int32} (hx : x < 0 ∨ nI 16 ≤ x) : ∀ b, b < 16 → x ≠ nI b := by
  intro b hb q
  subst q
  rcases hx with h | h
  · exact nI_pos (by omega) h
  · exact nI_ge hb (by omega) h
theorem c_numberOf (hr : r_x N sc ar X) {b : Nat} (hb : b < 16) : ex_big S 34 0 [.inr 2, .inl (nI b), .inr 0] [] (mk_W N sc ar) 0 0 = some (some (x_says X b), mk_W N sc ar) := by
  have hN := r_x_N14 hr
  obtain ⟨h1, h2, h3, h4, h5, h6, h7, h8⟩ := hr
  have e1 := sm_slotOf_h (S := S) (sc := sc) hN h5 hb
  cases hs : x_sl X b with
  | none =>
    rw [hs] at e1
    have e1 : ex_big S 11 0 [.inr 5, .inl (nI b), .inr 0] [] (mk_W N sc ar) 0 0 = some (some (-1), mk_W N sc ar) := e1
    have q : x_says X b = x_st X b := by unfold x_says; rw [hs]
    rw [q]
    simp only [e_34_0, e_34_1, e_34_4, e_34_5, e_34_8, e_34_9, e_34_10, e_34_11, e_34_14, e_34_15, e_34_18, e_34_19, e_34_20, e_34_23, e_34_24, e_34_27, e_34_28, e_34_29, List.length_cons, List.length_nil, Nat.reduceAdd, Nat.reduceLeDiff, Nat.zero_le, Option.bind_some, ck_34_11, rk_34, rl_n, rl_s, wg_0_3, wo_3, e1, wg_0_1, wr_1 hb, h3 b hb, if_true]
  | some s =>
    rw [hs] at e1
    have e1 : ex_big S 11 0 [.inr 5, .inl (nI b), .inr 0] [] (mk_W N sc ar) 0 0 = some (some (nI s), mk_W N sc ar) := e1
    have hsN := (h5.1 b s hs).2.1
    have q : x_says X b = x_nu X s := by unfold x_says; rw [hs]
    have q2 : ¬ nI s = -1 := nI_ne_m1 (by omega)
    rw [q]
    simp only [e_34_0, e_34_1, e_34_4, e_34_5, e_34_8, e_34_9, e_34_10, e_34_11, e_34_14, e_34_15, e_34_18, e_34_19, e_34_20, e_34_23, e_34_24, e_34_27, e_34_28, e_34_29, List.length_cons, List.length_nil, Nat.reduceAdd, Nat.reduceLeDiff, Nat.zero_le, Option.bind_some, ck_34_11, rk_34, rl_n, rl_s, wg_0_3, wo_3, e1, wg_0_2, if_neg q2, wr_2 hsN hN, h4 s hsN]
theorem r_pl_free {f g : Nat → Int32} {sl dt : Nat → Option Nat} (h : r_pl N f g sl dt) {s : Nat} (hs : s < N) : f s = -1 ↔ ∀ b, b < 16 → sl b ≠ some s := by
  constructor
  · intro q b _ hb
    have := (h.1 b s hb)
    rw [q] at this
    exact nI_ne_m1 (by have := this.1; omega) this.2.2.1.symm
  · intro hn
    exact (h.2.1 s hs (fun b hb => hn b (h.1 b s hb).1 hb)).1
theorem x_free_iff {s : Nat} : x_free X s = true ↔ (∀ b, b < 16 → x_sl X b ≠ some s) ∧ ∀ b, b < 16 → x_js X b ≠ some s := by
  unfold x_free
  rw [List.all_eq_true]
  constructor
  · intro h
    refine ⟨fun b hb q => ?_, fun b hb q => ?_⟩
    · have := h b (List.mem_range.mpr hb)
      simp [q] at this
    · have := h b (List.mem_range.mpr hb)
      simp [q] at this
  · rintro ⟨h1, h2⟩ b hb
    have hb := List.mem_range.mp hb
    have g1 := h1 b hb
    have g2 := h2 b hb
    simp [g1, g2]
theorem c_isFree (hr : r_x N sc ar X) {s : Nat} (hs : s < N) : ex_big S 45 0 [.inr 2, .inl (nI s)] [] (mk_W N sc ar) 0 0 = some (some (if x_free X s = true then 1 else 0), mk_W N sc ar) := by
  have hN := r_x_N14 hr
  obtain ⟨h1, h2, h3, h4, h5, h6, h7, h8⟩ := hr
  by_cases f1 : ar 2 s = -1
  · by_cases f2 : ar 4 s = -1
    · have q : x_free X s = true := x_free_iff.mpr ⟨(r_pl_free h5 hs).mp f1, (r_pl_free h6 hs).mp f2⟩
      rw [if_pos q]
      simp only [e_45_0, e_45_1, e_45_4, e_45_7, e_45_8, e_45_9, e_45_10, e_45_13, e_45_14, e_45_17, e_45_20, e_45_21, e_45_22, e_45_23, e_45_26, e_45_27, e_45_30, e_45_31, Nat.reduceAdd, Option.bind_some, false_or, or_false, or_true, rk_45, true_or, wg_0_3, wg_0_4, wg_3_0, wg_6_0, wr_4 hs hN, wr_7 hs hN, if_pos f1, if_pos f2]
    · have q : ¬ x_free X s = true := fun z => f2 ((r_pl_free h6 hs).mpr (x_free_iff.mp z).2)
      rw [if_neg q]
      simp only [e_45_0, e_45_1, e_45_4, e_45_7, e_45_8, e_45_9, e_45_10, e_45_13, e_45_14, e_45_17, e_45_20, e_45_21, e_45_22, e_45_23, e_45_26, e_45_27, e_45_30, e_45_31, Nat.reduceAdd, Option.bind_some, false_or, or_false, or_true, rk_45, true_or, wg_0_3, wg_0_4, wg_3_0, wg_6_0, wr_4 hs hN, wr_7 hs hN, if_pos f1, if_neg f2]
  · have q : ¬ x_free X s = true := fun z => f1 ((r_pl_free h5 hs).mpr (x_free_iff.mp z).1)
    rw [if_neg q]
    simp only [e_45_0, e_45_1, e_45_4, e_45_7, e_45_8, e_45_9, e_45_10, e_45_13, e_45_14, e_45_17, e_45_20, e_45_21, e_45_22, e_45_23, e_45_26, e_45_27, e_45_30, e_45_31, Nat.reduceAdd, Option.bind_some, false_or, or_false, or_true, rk_45, true_or, wg_0_3, wg_3_0, wr_4 hs hN, if_neg f1]
theorem x_find_lt {p : Nat → Bool} {n k : Nat} (hk : k < n) (hp : p k = true) (hb : ∀ j, j < k → ¬ p j = true) : ((List.range n).filter p).head? = some k := by
  rw [List.head?_filter]
  cases hf : (List.range n).find? p with
  | none => exact absurd hp (List.find?_eq_none.mp hf k (List.mem_range.mpr hk))
  | some a =>
    have h1 := List.find?_some hf
    have h2 : a ≤ k := by
      apply Classical.byContradiction
      intro hlt
      have hlt : k < a := by omega
      have h3 := List.find?_eq_some_iff_getElem.mp hf
      obtain ⟨-, i, hi, he, hall⟩ := h3
      have hia : i = a := by simpa using he
      have := hall k (by omega)
      rw [List.getElem_range] at this
      simp [hp] at this
    have h3 : ¬ a < k := fun q => hb a q h1
    rw [show a = k by omega]
theorem c_leastFree_loop (hr : r_x N sc ar X) : ∀ d k, N - k = d → k ≤ N → (∀ j, j < k → ¬ x_free X j = true) → ex_big S 44 2 [.inr 2, .inl (nI k)] [] (mk_W N sc ar) 0 0 = some (some (e_o (x_frees X).head?), mk_W N sc ar) := by
  have hN := r_x_N14 hr
  have hC := hr.1
  intro d
  induction d with
  | zero =>
    intro k hd hk hb
    have h3 : nI N ≤ nI k := nI_le (by omega) (by omega)
    have hn : x_frees X = [] := by
      unfold x_frees
      rw [List.filter_eq_nil_iff]
      intro s hs
      have := List.mem_range.mp hs
      exact hb s (by omega)
    rw [hn, e_44_2]
    simp only [e_44_3, e_44_4, e_44_7, e_44_8, e_44_11, e_44_12, e_44_13, e_44_16, e_44_19, e_44_20, e_44_21, e_44_24, e_44_27, e_44_28, List.length_cons, List.length_nil, Nat.reduceAdd, Nat.reduceLeDiff, Nat.zero_le, Option.bind_some, ck_44_45, rk_44, rl_n, rl_s, wg_0_2, wl_2, if_pos h3]
    rfl
  | succ d ih =>
    intro k hd hk hb
    have hlt : k < N := by omega
    have h3 : ¬ nI N ≤ nI k := nI_ge hlt (by omega)
    have e1 := c_isFree (S := S) hr hlt
    rw [e_44_2]
    by_cases hf : x_free X k = true
    · have q : (x_frees X).head? = some k := x_find_lt (by omega) hf hb
      rw [if_pos hf] at e1
      have z : ¬ (1 : Int32) = 0 := by decide
      rw [q]
      simp only [e_44_3, e_44_4, e_44_7, e_44_8, e_44_11, e_44_12, e_44_13, e_44_16, e_44_19, e_44_20, e_44_21, e_44_24, e_44_27, e_44_28, List.length_cons, List.length_nil, Nat.reduceAdd, Nat.reduceLeDiff, Nat.zero_le, Option.bind_some, ck_44_45, rk_44, rl_n, rl_s, wg_0_2, wl_2, wo_0, if_neg h3, e1, if_neg z]
      rfl
    · have ihk := ih (k + 1) (by omega) (by omega) (fun j hj => by
        by_cases hjk : j = k
        · subst hjk; exact hf
        · exact hb j (by omega))
      rw [if_neg hf] at e1
      simp only [e_44_3, e_44_4, e_44_7, e_44_8, e_44_11, e_44_12, e_44_13, e_44_16, e_44_19, e_44_20, e_44_21, e_44_24, e_44_27, e_44_28, List.length_cons, List.length_nil, Nat.reduceAdd, Nat.reduceLeDiff, Nat.zero_le, Option.bind_some, ck_44_45, rk_44, rl_n, rl_s, wg_0_2, wl_2, wo_0, if_neg h3, e1, if_true, nI_1, ihk]
theorem c_leastFree (hr : r_x N sc ar X) : ex_big S 44 0 [.inr 2, .inr 0] [] (mk_W N sc ar) 0 0 = some (some (e_o (x_frees X).head?), mk_W N sc ar) := by
  have e := c_leastFree_loop (S := S) hr N 0 (by omega) (by omega) (fun j hj => absurd hj (Nat.not_lt_zero j))
  rw [nI_0] at e
  simp only [e_44_0, e_44_1, Nat.reduceAdd, e]
theorem c_endEpoch (hr : r_x N sc ar X) : ∃ sc' ar', ex_big S 46 0 [.inr 2] [] (mk_W N sc ar) 0 0 = some (none, mk_W N sc' ar') ∧ r_x N sc' ar' (x_flush X) ∧ s_M sc ar sc' ar' := by
  have hN := r_x_N14 hr
  have e1 := sm_become_jh (S := S) (sc := sc) (ar := ar) hN
  have hep : sc 2 = nI (x_ep X) := hr.2.2.2.2.2.2.2.2.1
  refine ⟨upd sc 2 (nI (x_ep X + 1)), mk_P 1 ar (p_cp N (ar 4) (ar 2)) (p_cp N (ar 5) (ar 3)), ?_, ?_, ?_⟩
  · simp only [e_46_0, e_46_1, e_46_4, e_46_5, e_46_8, e_46_11, e_46_12, e_46_13, e_46_16, e_46_17, e_46_18, e_46_21, List.length_cons, List.length_nil, Nat.reduceAdd, Nat.reduceLeDiff, Nat.zero_le, Option.bind_some, ck_46_10, ft_0, ft_10, ft_11, rk_46, rl_n, rl_s, wg_0_4, wg_0_3, wo_6, e1, wg_0_11, hep, nI_1, wp_0_11, if_true]
  · have h2 : r_pl N (p_cp N (ar 4) (ar 2)) (p_cp N (ar 5) (ar 3)) (x_sl X) (x_dt X) := r_pl_cp hr.2.2.2.2.1 (fun s hs => if_pos hs) (fun s hs => if_pos hs)
    exact r_x_ep (r_x_P1 hr h2) (x_ep X + 1)
  · exact s_M_tr (s_M_P (by omega) _ _) (s_M_sc (by omega) _)
theorem c_newSlot (hr : r_x N sc ar X) (hf : x_frees (x_room X) ≠ []) : ∃ sc' ar', ex_big S 43 0 [.inr 2, .inr 0] [] (mk_W N sc ar) 0 0 = some (some (nI (x_slot X)), mk_W N sc' ar') ∧ r_x N sc' ar' (x_room X) ∧ s_M sc ar sc' ar' := by
  have hN := r_x_N14 hr
  have hC := hr.1
  have e1 := c_leastFree (S := S) hr
  by_cases hn : x_frees X = []
  · have hrm : x_room X = x_flush X := if_pos hn
    obtain ⟨sc', ar', e2, r2, m2⟩ := c_endEpoch (S := S) hr
    have e3 := c_leastFree (S := S) r2
    rw [hn] at e1
    have e1 : ex_big S 44 0 [.inr 2, .inr 0] [] (mk_W N sc ar) 0 0 = some (some (-1), mk_W N sc ar) := e1
    have hq : e_o (x_frees (x_flush X)).head? = nI (x_slot X) := by
      unfold x_slot
      rw [hrm] at hf ⊢
      cases hl : x_frees (x_flush X) with
      | nil => exact absurd hl hf
      | cons a t => rfl
    rw [hq] at e3
    refine ⟨sc', ar', ?_, by rw [hrm]; exact r2, m2⟩
    simp only [e_43_0, e_43_1, e_43_4, e_43_5, e_43_6, e_43_7, e_43_10, e_43_11, e_43_12, e_43_13, e_43_16, e_43_17, e_43_20, List.length_cons, List.length_nil, Nat.reduceAdd, Nat.reduceLeDiff, Nat.zero_le, Option.bind_some, ck_43_44, ck_43_46, rk_43, rl_n, rl_s, wo_0, e1, e2, e3, if_true]
  · have hrm : x_room X = X := if_neg hn
    have hq : e_o (x_frees X).head? = nI (x_slot X) := by
      unfold x_slot
      rw [hrm]
      cases hl : x_frees X with
      | nil => exact absurd hl hn
      | cons a t => rfl
    rw [hq] at e1
    have hs : x_slot X < N := by
      have : x_slot X ∈ x_frees (x_room X) := by
        unfold x_slot
        exact x_head_mem (List.length_pos_iff.mpr hf)
      have := (x_frees_mem.mp this).1
      rw [x_room_C] at this
      omega
    have q2 : ¬ nI (x_slot X) = -1 := nI_ne_m1 (by omega)
    refine ⟨sc, ar, ?_, by rw [hrm]; exact hr, s_M_rf⟩
    simp only [e_43_0, e_43_1, e_43_4, e_43_5, e_43_6, e_43_7, e_43_10, e_43_11, e_43_12, e_43_13, e_43_16, e_43_17, e_43_20, List.length_cons, List.length_nil, Nat.reduceAdd, Nat.reduceLeDiff, Nat.zero_le, Option.bind_some, ck_43_44, ck_43_46, rk_43, rl_n, rl_s, wo_0, e1, if_neg q2]
theorem c_drain (hr : r_x N sc ar X) {b s : Nat} (hs : x_sl X b = some s) : ∃ sc' ar', ex_big S 48 0 [.inr 2, .inl (nI s)] [] (mk_W N sc ar) 0 0 = some (none, mk_W N sc' ar') ∧ r_x N sc' ar' (x_drain b X) ∧ s_M sc ar sc' ar' := by
  have hN := r_x_N14 hr
  have h5 := hr.2.2.2.2.1
  have h4 := hr.2.2.2.1
  have hdr : sc 3 = x_dr X := hr.2.2.2.2.2.2.2.2.2.1
  obtain ⟨k1, k2, k3, k4⟩ := h5.1 b s hs
  have hsy : x_says X b = x_nu X s := by unfold x_says; rw [hs]
  have r1 := r_x_S hr (b := b) (x_nu X s)
  have r2 := r_x_P0 r1 (r_pl_cln h5 hs)
  have r3 := r_x_dr r2 (x_dr X + 1)
  refine ⟨upd sc 3 (x_dr X + 1), mk_P 0 (x_up ar 0 (upd (ar 0) b (x_nu X s))) (ar 2) (upd (ar 3) s (-1)), ?_, ?_, ?_⟩
  · have q : x_up (x_up ar 0 (upd (ar 0) b (x_nu X s))) 3 (upd (ar 3) s (-1)) = mk_P 0 (x_up ar 0 (upd (ar 0) b (x_nu X s))) (ar 2) (upd (ar 3) s (-1)) := by
      unfold mk_P
      rw [show (2 * 0 + 2 : Nat) = 2 from rfl, show (2 * 0 + 3 : Nat) = 3 from rfl]
      congr 1
      rw [show ar 2 = (x_up ar 0 (upd (ar 0) b (x_nu X s))) 2 from rfl, xu_id]
    rw [← q]
    have n3 : x_up ar 0 (upd (ar 0) b (x_nu X s)) 3 = ar 3 := rfl
    simp only [e_48_0, e_48_1, e_48_4, e_48_5, e_48_8, e_48_11, e_48_12, e_48_13, e_48_14, e_48_17, e_48_18, e_48_19, e_48_20, e_48_21, e_48_24, e_48_27, e_48_28, e_48_29, e_48_30, e_48_31, e_48_32, e_48_35, e_48_36, e_48_37, e_48_40, Nat.reduceAdd, Option.bind_some, ft_0, ft_10, ft_11, rk_48, wg_0_1, wg_0_3, wg_3_0, wg_0_2, wg_3_1, wr_4 k2 hN, k3, wr_2 k2 hN, h4 s k2, ww_1 k1, ww_5 k2 hN, n3, wg_0_12, hdr, wp_0_12, if_true]
  · have : x_drain b X = x_setD (x_dr X + 1) (x_setP (x_sl X) (x_up (x_dt X) b none) (x_setS b (x_nu X s) X)) := by
      unfold x_drain
      rw [hsy]
      rfl
    rw [this]
    exact r3
  · exact s_M_tr (s_M_ar (by omega) _) (s_M_tr (s_M_P (by omega) _ _) (s_M_sc (by omega) _))
theorem x_elig_le (dt : Nat → Option Nat) (e : Nat) : (x_elig dt e).length ≤ 16 := by
  unfold x_elig
  have := List.length_filter_le (x_el dt e) (List.range 16)
  rw [List.length_range] at this
  exact this
theorem c_drains_loop {e : Int32} {B : Nat} (he : ∀ d, d < 2 ^ 30 → (nI d ≤ e ↔ d < B)) : ∀ (m n : Nat) (l3 : ex_V) (X : xs_T) (sc : Nat → Int32) (ar : Nat → Nat → Int32), r_x N sc ar X → (x_elig (x_dt X) B).length = m → n + m ≤ 16 → ∃ sc' ar', ex_big S 47 2 [.inr 2, .inl e, .inl (nI n), l3] [] (mk_W N sc ar) 0 0 = some (some (nI (n + m)), mk_W N sc' ar') ∧ r_x N sc' ar' (x_drains B X) ∧ s_M sc ar sc' ar' := by
  intro m
  induction m with
  | zero =>
    intro n l3 X sc ar hr hm hn
    have hN := r_x_N14 hr
    have hel : x_elig (x_dt X) B = [] := List.length_eq_zero_iff.mp hm
    refine ⟨sc, ar, ?_, by rw [x_drains_nil hel]; exact hr, s_M_rf⟩
    rw [Nat.add_zero]
    by_cases h16 : n < 16
    · have h3 : ¬ (16 : Int32) ≤ nI n := nI_ge (a := n) (b := 16) h16 (by omega)
      have e1 := sm_firstDirty_h (S := S) (sc := sc) hN hr.2.2.2.2.1 he
      rw [x_first_none hel] at e1
      have e1 : ex_big S 13 0 [.inr 5, .inl e, .inr 0, .inr 0] [] (mk_W N sc ar) 0 0 = some (some (-1), mk_W N sc ar) := e1
      rw [e_47_2]
      simp only [e_47_3, e_47_5, e_47_8, e_47_9, e_47_12, e_47_13, e_47_16, e_47_17, e_47_18, e_47_19, e_47_22, e_47_23, e_47_24, e_47_25, e_47_26, e_47_29, e_47_32, e_47_35, e_47_37, List.length_cons, List.length_nil, Nat.reduceAdd, Nat.reduceLeDiff, Nat.zero_le, Option.bind_some, ck_47_13, ck_47_48, rk_47, rl_n, rl_s, if_neg h3, wg_0_3, wo_3, e1, if_true]
    · have hn16 : n = 16 := by omega
      subst hn16
      have h3 : (16 : Int32) ≤ nI 16 := by decide
      rw [e_47_2]
      simp only [e_47_3, e_47_5, e_47_8, e_47_9, e_47_12, e_47_13, e_47_16, e_47_17, e_47_18, e_47_19, e_47_22, e_47_23, e_47_24, e_47_25, e_47_26, e_47_29, e_47_32, e_47_35, e_47_37, List.length_cons, List.length_nil, Nat.reduceAdd, Nat.reduceLeDiff, Nat.zero_le, Option.bind_some, ck_47_13, ck_47_48, rk_47, rl_n, rl_s, if_pos h3]
      rfl
  | succ m ih =>
    intro n l3 X sc ar hr hm hn
    have hN := r_x_N14 hr
    have h3 : ¬ (16 : Int32) ≤ nI n := nI_ge (a := n) (b := 16) (by omega) (by omega)
    have e1 := sm_firstDirty_h (S := S) (sc := sc) hN hr.2.2.2.2.1 he
    cases hf : x_first (x_dt X) B with
    | none =>
      have := x_first_nil hf
      rw [this] at hm
      simp at hm
    | some b =>
      have hel := x_first_mem hf
      obtain ⟨-, d, g1, g2⟩ := x_elig_mem.mp hel
      obtain ⟨-, s, hs⟩ := hr.2.2.2.2.1.2.2 b d g1
      rw [hf, Option.bind_some, hs] at e1
      have e1 : ex_big S 13 0 [.inr 5, .inl e, .inr 0, .inr 0] [] (mk_W N sc ar) 0 0 = some (some (nI s), mk_W N sc ar) := e1
      have hsN := (hr.2.2.2.2.1.1 b s hs).2.1
      have q2 : ¬ nI s = -1 := nI_ne_m1 (by omega)
      obtain ⟨sc1, ar1, e2, r2, m2⟩ := c_drain (S := S) hr hs
      have hl := x_drains_len hel
      obtain ⟨sc2, ar2, e3, r3, m3⟩ := ih (n + 1) (.inl (nI s)) (x_drain b X) sc1 ar1 r2 (by omega) (by omega)
      rw [x_drains_step hel] at r3
      refine ⟨sc2, ar2, ?_, r3, s_M_tr m2 m3⟩
      rw [show n + (m + 1) = n + 1 + m by omega, e_47_2]
      simp only [e_47_3, e_47_5, e_47_8, e_47_9, e_47_12, e_47_13, e_47_16, e_47_17, e_47_18, e_47_19, e_47_22, e_47_23, e_47_24, e_47_25, e_47_26, e_47_29, e_47_32, List.length_cons, List.length_nil, Nat.reduceAdd, Nat.reduceLeDiff, Nat.zero_le, Option.bind_some, ck_47_13, ck_47_48, rk_47, rl_n, rl_s, if_neg h3, wg_0_3, wo_3, wo_0, e1, if_neg q2, e2, nI_1, e3]
theorem c_drains (hr : r_x N sc ar X) {d : Nat} (hd : d < 2 ^ 30) : ∃ sc' ar', ex_big S 47 0 [.inr 2, .inl (nI d), .inr 0, .inr 0] [] (mk_W N sc ar) 0 0 = some (some (nI (x_elig (x_dt X) (d + 1)).length), mk_W N sc' ar') ∧ r_x N sc' ar' (x_drains (d + 1) X) ∧ s_M sc ar sc' ar' := by
  have hle := x_elig_le (x_dt X) (d + 1)
  obtain ⟨sc2, ar2, e3, r3, m3⟩ := c_drains_loop (S := S) (e := nI d) (B := d + 1) (fun x hx => by rw [nI_leI (by omega) (by omega)]; omega) _ 0 (.inr 0) X sc ar hr rfl (by omega)
  refine ⟨sc2, ar2, ?_, r3, m3⟩
  rw [nI_0, Nat.zero_add] at e3
  simp only [e_47_0, e_47_1, Nat.reduceAdd, e3]
theorem x_flush_dt (X : xs_T) : x_dt (x_flush X) = x_dt X := rfl
theorem x_drains_sl (e : Nat) (X : xs_T) : x_sl (x_drains e X) = x_sl X := rfl
theorem c_giveUp (hr : r_x N sc ar X) {b s : Nat} (hs : x_sl X b = some s) (hE : x_ep X < 2 ^ 29) : ∃ sc' ar', ex_big S 39 0 [.inr 2, .inl (nI b), .inr 0, .inr 0] [] (mk_W N sc ar) 0 0 = some (none, mk_W N sc' ar') ∧ r_x N sc' ar' (x_give b X) ∧ s_M sc ar sc' ar' := by
  have hN := r_x_N14 hr
  have h5 := hr.2.2.2.2.1
  have hep : sc 2 = nI (x_ep X) := hr.2.2.2.2.2.2.2.2.1
  obtain ⟨k1, k2, k3, k4⟩ := h5.1 b s hs
  have e1 := sm_slotOf_h (S := S) (sc := sc) hN h5 k1
  rw [hs] at e1
  have e1 : ex_big S 11 0 [.inr 5, .inl (nI b), .inr 0] [] (mk_W N sc ar) 0 0 = some (some (nI s), mk_W N sc ar) := e1
  have q2 : ¬ nI s = -1 := nI_ne_m1 (by omega)
  have fin : ∀ (Y : xs_T) (sc1 : Nat → Int32) (ar1 : Nat → Nat → Int32), r_x N sc1 ar1 Y → x_sl Y b = some s → r_x N sc1 (mk_P 0 ar1 (upd (ar1 2) s (-1)) (upd (ar1 3) s (-1))) (x_unhold b Y) := fun Y sc1 ar1 hY hYs => r_x_P0 hY (r_pl_emp hY.2.2.2.2.1 hYs)
  cases hd : x_dt X b with
  | none =>
    rw [hd] at k4
    have k4 : ar 3 s = -1 := k4
    have hg : x_give b X = x_unhold b X := by unfold x_give x_give0; rw [hd]
    refine ⟨sc, _, ?_, by rw [hg]; exact fin X sc ar hr hs, s_M_P (by omega) _ _⟩
    simp only [e_39_0, e_39_1, e_39_4, e_39_5, e_39_8, e_39_9, e_39_10, e_39_11, e_39_14, e_39_15, e_39_16, e_39_19, e_39_22, e_39_23, e_39_24, e_39_25, e_39_26, e_39_27, e_39_30, e_39_31, e_39_32, e_39_35, e_39_38, e_39_39, e_39_42, e_39_43, e_39_44, e_39_47, e_39_48, e_39_49, e_39_52, e_39_53, e_39_56, List.length_cons, List.length_nil, Nat.reduceAdd, Nat.reduceLeDiff, Nat.zero_le, Option.bind_some, ck_39_11, ck_39_46, ck_39_47, ck_39_8, rk_39, rl_n, rl_s, wg_0_3, wo_3, e1, if_neg q2, wg_3_1, wr_5 k2 hN, k4, if_true, sm_empty_h hN k2]
  | some d =>
    rw [hd] at k4
    have k4 : ar 3 s = nI d := k4
    have hd30 := (h5.2.2 b d hd).1
    have q3 : ¬ nI d = -1 := nI_ne_m1 (by omega)
    by_cases hde : d = x_ep X
    · have hg : x_give b X = x_unhold b (x_drains (d + 1) (x_flush X)) := by unfold x_give x_give0; rw [hd]; simp only [if_pos hde]
      obtain ⟨sc1, ar1, e2, r2, m2⟩ := c_endEpoch (S := S) hr
      obtain ⟨sc2, ar2, e3, r3, m3⟩ := c_drains (S := S) r2 hd30
      have q4 : nI d = nI (x_ep X) := by rw [hde]
      refine ⟨sc2, _, ?_, by rw [hg]; exact fin _ sc2 ar2 r3 hs, s_M_tr m2 (s_M_tr m3 (s_M_P (by omega) _ _))⟩
      simp only [e_39_0, e_39_1, e_39_4, e_39_5, e_39_8, e_39_9, e_39_10, e_39_11, e_39_14, e_39_15, e_39_16, e_39_19, e_39_22, e_39_23, e_39_24, e_39_25, e_39_26, e_39_27, e_39_30, e_39_31, e_39_32, e_39_35, e_39_38, e_39_39, e_39_42, e_39_43, e_39_44, e_39_47, e_39_48, e_39_49, e_39_52, e_39_53, e_39_56, List.length_cons, List.length_nil, Nat.reduceAdd, Nat.reduceLeDiff, Nat.zero_le, Option.bind_some, ck_39_11, ck_39_46, ck_39_47, ck_39_8, rk_39, rl_n, rl_s, wg_0_3, wo_3, wo_0, e1, if_neg q2, wg_3_1, wr_5 k2 hN, k4, if_neg q3, wg_0_11, hep, if_pos q4, e2, e3, sm_empty_h hN k2]
    · have hg : x_give b X = x_unhold b (x_drains (d + 1) X) := by unfold x_give x_give0; rw [hd]; simp only [if_neg hde]
      obtain ⟨sc2, ar2, e3, r3, m3⟩ := c_drains (S := S) hr hd30
      have q4 : ¬ nI d = nI (x_ep X) := fun q => hde ((nI_eq (by omega) (by omega)).mp q)
      refine ⟨sc2, _, ?_, by rw [hg]; exact fin _ sc2 ar2 r3 hs, s_M_tr m3 (s_M_P (by omega) _ _)⟩
      simp only [e_39_0, e_39_1, e_39_4, e_39_5, e_39_8, e_39_9, e_39_10, e_39_11, e_39_14, e_39_15, e_39_16, e_39_19, e_39_22, e_39_23, e_39_24, e_39_25, e_39_26, e_39_27, e_39_30, e_39_31, e_39_32, e_39_35, e_39_38, e_39_39, e_39_42, e_39_43, e_39_44, e_39_47, e_39_48, e_39_49, e_39_52, e_39_53, e_39_56, List.length_cons, List.length_nil, Nat.reduceAdd, Nat.reduceLeDiff, Nat.zero_le, Option.bind_some, ck_39_11, ck_39_46, ck_39_47, ck_39_8, rk_39, rl_n, rl_s, wg_0_3, wo_3, wo_0, e1, if_neg q2, wg_3_1, wr_5 k2 hN, k4, if_neg q3, wg_0_11, hep, if_neg q4, e3, sm_empty_h hN k2]
def x_setLs (L : Nat → List Nat) (X : xs_T) : xs_T := (x_C X, x_st X, x_nu X, x_sl X, x_dt X, x_js X, x_jd X, L, x_go X, x_ep X, x_dr X, x_hi X)
theorem r_x_Lc (hr : r_x N sc ar X) {L : Nat → List Nat} (h : ∀ i, i < 4 → L i = x_L X i) : r_x N sc ar (x_setLs L X) := by
  obtain ⟨h1, h2, h3, h4, h5, h6, h7, h8⟩ := hr
  exact ⟨h1, h2, h3, h4, h5, h6, fun i hi => by
    show r_ls (ar (i + 6)) (sc (i + 5)) (L i)
    rw [h i hi]; exact h7 i hi, h8⟩
def x_rms (b k : Nat) (L : Nat → List Nat) : Nat → List Nat := fun j => if j < k then x_rm b (L j) else L j
theorem x_rm15 {b : Nat} {l : List Nat} (hb : b < 16) (hn : l.Nodup) (hl : ∀ a ∈ l, a < 16) : (x_rm b l).length < 16 := by
  have h1 : (b :: x_rm b l).Nodup := List.nodup_cons.mpr ⟨fun q => (x_rm_mem.mp q).2 rfl, x_rm_nodup hn⟩
  have h2 := xl_le _ (List.range 16) h1 (fun a ha => by
    rcases List.mem_cons.mp ha with rfl | ha
    · exact List.mem_range.mpr hb
    · exact List.mem_range.mpr (hl a (x_rm_mem.mp ha).1))
  rw [List.length_range, List.length_cons] at h2
  omega
theorem c_bring_loop {i b : Nat} (hi : i < 4) (hb : b < 16) (hnd : (x_L X i).Nodup) : ∀ d k sc ar, 4 - k = d → k ≤ 4 → r_x N sc ar (x_setLs (x_rms b k (x_L X)) X) → ∃ sc' ar', ex_big S 40 2 [.inr 2, .inr (2 * i + 11), .inl (nI b), .inl (nI k)] [] (mk_W N sc ar) 0 0 = some (none, mk_W N sc' ar') ∧ r_x N sc' ar' (x_comes b i X) ∧ s_M sc ar sc' ar' := by
  intro d
  induction d with
  | zero =>
    intro k sc ar hd hk hr
    have hk4 : k = 4 := by omega
    subst hk4
    have h3 : nI 4 ≤ nI 4 := by decide
    have hli : r_ls (ar (i + 6)) (sc (i + 5)) (x_rm b (x_L X i)) := by
      have := hr.2.2.2.2.2.2.1 i hi
      have e : x_L (x_setLs (x_rms b 4 (x_L X)) X) i = x_rm b (x_L X i) := if_pos hi
      rw [e] at this
      exact this
    have h16 := x_rm15 hb hnd (fun a ha => by
      by_cases hab : a = b
      · rw [hab]; exact hb
      · exact hli.2.2.2 a (x_rm_mem.mpr ⟨ha, hab⟩))
    obtain ⟨e1, hl2⟩ := sm_add (S := S) (N := N) hi hli hb h16
    refine ⟨upd sc (i + 5) (nI ((x_rm b (x_L X i)).length + 1)), x_up ar (i + 6) (upd (ar (i + 6)) (x_rm b (x_L X i)).length (nI b)), ?_, ?_, s_M_sa (j := i + 5) (i := i + 6) (by omega) (by omega) _ _⟩
    rotate_left
    · have r2 := r_x_L hr hi hl2
      refine r_x_Lc (L := x_L (x_comes b i X)) r2 (fun j hj => ?_)
      show (if j = i then x_rm b (x_L X j) ++ [b] else x_rm b (x_L X j)) = x_up (x_rms b 4 (x_L X)) i (x_rm b (x_L X i) ++ [b]) j
      by_cases hji : j = i
      · subst hji
        rw [if_pos rfl, xu_s]
      · rw [if_neg hji, xu_n hji]
        exact (if_pos hj).symm
    · rw [e_40_2]
      simp only [e_40_3, e_40_4, e_40_7, e_40_8, e_40_11, e_40_12, e_40_15, e_40_16, e_40_17, e_40_18, e_40_21, e_40_24, e_40_27, e_40_28, e_40_29, e_40_32, List.length_cons, List.length_nil, Nat.reduceAdd, Nat.reduceLeDiff, Nat.zero_le, Option.bind_some, ck_40_4, ck_40_5, rk_40, rl_n, rl_s, wg_0_9, wl_17, if_pos h3, bl_ob hi, e1]
  | succ d ih =>
    intro k sc ar hd hk hr
    have hk4 : k < 4 := by omega
    have h3 : ¬ nI 4 ≤ nI k := nI_ge hk4 (by omega)
    have hlk : r_ls (ar (k + 6)) (sc (k + 5)) (x_L X k) := by
      have := hr.2.2.2.2.2.2.1 k hk4
      have e : x_L (x_setLs (x_rms b k (x_L X)) X) k = x_L X k := if_neg (Nat.lt_irrefl k)
      rw [e] at this
      exact this
    obtain ⟨g, e1, hl2⟩ := sm_remove (S := S) (N := N) hk4 hlk hb
    have r2 := r_x_L hr hk4 hl2
    have r3 : r_x N (upd sc (k + 5) (nI (x_rm b (x_L X k)).length)) (x_up ar (k + 6) g) (x_setLs (x_rms b (k + 1) (x_L X)) X) := by
      refine r_x_Lc (L := x_rms b (k + 1) (x_L X)) r2 (fun j hj => ?_)
      show x_rms b (k + 1) (x_L X) j = x_up (x_rms b k (x_L X)) k (x_rm b (x_L X k)) j
      by_cases hjk : j = k
      · subst hjk
        rw [xu_s]
        exact if_pos (Nat.lt_succ_self j)
      · rw [xu_n hjk]
        unfold x_rms
        by_cases hlt : j < k
        · rw [if_pos hlt, if_pos (by omega)]
        · rw [if_neg hlt, if_neg (by omega)]
    obtain ⟨sc2, ar2, e2, r4, m4⟩ := ih (k + 1) _ _ (by omega) (by omega) r3
    refine ⟨sc2, ar2, ?_, r4, s_M_tr (s_M_sa (by omega) (by omega) _ _) m4⟩
    rw [e_40_2]
    simp only [e_40_3, e_40_4, e_40_7, e_40_8, e_40_11, e_40_12, e_40_15, e_40_16, e_40_17, e_40_18, e_40_21, e_40_24, List.length_cons, List.length_nil, Nat.reduceAdd, Nat.reduceLeDiff, Nat.zero_le, Option.bind_some, ck_40_5, rl_n, rl_s, wg_0_9, wl_17, if_neg h3, bl_rq hk4, bl_ob hk4, e1, nI_1, e2]
theorem c_bringInto (hr : r_x N sc ar X) {i b : Nat} (hi : i < 4) (hb : b < 16) (hnd : (x_L X i).Nodup) : ∃ sc' ar', ex_big S 40 0 [.inr 2, .inr (2 * i + 11), .inl (nI b), .inr 0] [] (mk_W N sc ar) 0 0 = some (none, mk_W N sc' ar') ∧ r_x N sc' ar' (x_comes b i X) ∧ s_M sc ar sc' ar' := by
  obtain ⟨sc2, ar2, e2, r4, m4⟩ := c_bring_loop (S := S) hi hb hnd 4 0 sc ar (by omega) (by omega) (r_x_Lc hr (fun j _ => if_neg (Nat.not_lt_zero j)))
  rw [nI_0] at e2
  refine ⟨sc2, ar2, ?_, r4, m4⟩
  simp only [e_40_0, e_40_1, Nat.reduceAdd, e2]
def x_cls (k : Nat) (L : Nat → List Nat) : Nat → List Nat := fun j => if j < k then [] else L j
def x_noL (X : xs_T) : xs_T := (x_C X, x_st X, x_nu X, x_sl X, x_dt X, x_js X, x_jd X, (fun _ => []), 0, x_ep X, x_dr X, x_hi X)
theorem c_forget_loop : ∀ d k sc ar, 4 - k = d → k ≤ 4 → r_x N sc ar (x_setLs (x_cls k (x_L X)) X) → ∃ sc' ar', ex_big S 41 2 [.inr 2, .inl (nI k)] [] (mk_W N sc ar) 0 0 = some (none, mk_W N sc' ar') ∧ r_x N sc' ar' (x_noL X) ∧ s_M sc ar sc' ar' := by
  intro d
  induction d with
  | zero =>
    intro k sc ar hd hk hr
    have hk4 : k = 4 := by omega
    subst hk4
    have h3 : nI 4 ≤ nI 4 := by decide
    refine ⟨upd sc 1 0, ar, ?_, ?_, s_M_sc (j := 1) (by omega) 0⟩
    rotate_left
    · have r2 := r_x_go hr 0
      rw [nI_0] at r2
      exact r_x_Lc (L := fun _ => []) r2 (fun j hj => (if_pos hj).symm)
    · rw [e_41_2]
      simp only [e_41_3, e_41_4, e_41_7, e_41_8, e_41_11, e_41_12, e_41_15, e_41_16, e_41_17, e_41_20, e_41_23, e_41_26, e_41_27, e_41_28, e_41_31, List.length_cons, List.length_nil, Nat.reduceAdd, Nat.reduceLeDiff, Nat.zero_le, Option.bind_some, ck_41_6, ft_0, ft_10, ft_11, rk_41, rl_n, rl_s, wg_0_9, wl_17, if_pos h3, wp_0_10, if_true]
  | succ d ih =>
    intro k sc ar hd hk hr
    have hk4 : k < 4 := by omega
    have h3 : ¬ nI 4 ≤ nI k := nI_ge hk4 (by omega)
    obtain ⟨e1, hl2⟩ := sm_clear (S := S) (N := N) (sc := sc) (ar := ar) hk4
    have r2 := r_x_L hr hk4 (hl2 (ar (k + 6)))
    rw [xu_id] at r2
    have r3 : r_x N (upd sc (k + 5) 0) ar (x_setLs (x_cls (k + 1) (x_L X)) X) := by
      refine r_x_Lc (L := x_cls (k + 1) (x_L X)) r2 (fun j hj => ?_)
      show x_cls (k + 1) (x_L X) j = x_up (x_cls k (x_L X)) k [] j
      by_cases hjk : j = k
      · subst hjk
        rw [xu_s]
        exact if_pos (Nat.lt_succ_self j)
      · rw [xu_n hjk]
        unfold x_cls
        by_cases hlt : j < k
        · rw [if_pos hlt, if_pos (by omega)]
        · rw [if_neg hlt, if_neg (by omega)]
    obtain ⟨sc2, ar2, e2, r4, m4⟩ := ih (k + 1) _ _ (by omega) (by omega) r3
    refine ⟨sc2, ar2, ?_, r4, s_M_tr (s_M_sc (by omega) _) m4⟩
    rw [e_41_2]
    simp only [e_41_3, e_41_4, e_41_7, e_41_8, e_41_11, e_41_12, e_41_15, e_41_16, e_41_17, e_41_20, e_41_23, List.length_cons, List.length_nil, Nat.reduceAdd, Nat.reduceLeDiff, Nat.zero_le, Option.bind_some, ck_41_6, rl_n, rl_s, wg_0_9, wl_17, if_neg h3, bl_rq hk4, bl_ob hk4, e1, nI_1, e2]
theorem c_forgetLists (hr : r_x N sc ar X) : ∃ sc' ar', ex_big S 41 0 [.inr 2, .inr 0] [] (mk_W N sc ar) 0 0 = some (none, mk_W N sc' ar') ∧ r_x N sc' ar' (x_noL X) ∧ s_M sc ar sc' ar' := by
  obtain ⟨sc2, ar2, e2, r4, m4⟩ := c_forget_loop (S := S) (X := X) 4 0 sc ar (by omega) (by omega) (r_x_Lc hr (fun j _ => if_neg (Nat.not_lt_zero j)))
  rw [nI_0] at e2
  refine ⟨sc2, ar2, ?_, r4, m4⟩
  simp only [e_41_0, e_41_1, Nat.reduceAdd, e2]
end CL2
