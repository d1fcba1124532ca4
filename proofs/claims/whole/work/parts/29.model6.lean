/-! the reference: what is left when all is dropped, the power is lost, or the cache -/
section RM6
variable {K N : Nat} {sc : Nat → Int32} {ar : Nat → Nat → Int32} {X : xs_T} {S : ex_S}
def mk_E (ar : Nat → Nat → Int32) (f g h : Nat → Int32) : Nat → Nat → Int32 := x_up (x_up (x_up ar 12 f) 13 g) 15 h
theorem me_2 {ar : Nat → Nat → Int32} {f g h f' : Nat → Int32} : x_up (mk_E ar f g h) 12 f' = mk_E ar f' g h := by
  unfold mk_E
  rw [xu_c (by omega), xu_c (j := 13) (by omega), xu_u]
theorem me_3 {ar : Nat → Nat → Int32} {f g h g' : Nat → Int32} : x_up (mk_E ar f g h) 13 g' = mk_E ar f g' h := by
  unfold mk_E
  rw [xu_c (by omega), xu_u]
theorem me_5 {ar : Nat → Nat → Int32} {f g h h' : Nat → Int32} : x_up (mk_E ar f g h) 15 h' = mk_E ar f g h' := by
  unfold mk_E
  rw [xu_u]
theorem me_id {ar : Nat → Nat → Int32} : mk_E ar (ar 12) (ar 13) (ar 15) = ar := by
  unfold mk_E
  rw [xu_id]
  rw [show ar 13 = ar 13 from rfl, xu_id, xu_id]
theorem p_cp_c (k : Nat) (f : Nat → Int32) (v : Int32) : upd (p_cp k f (fun _ => v)) k v = p_cp (k + 1) f (fun _ => v) := p_cp_up k f (fun _ => v)
theorem m_empty_loop {f g h : Nat → Int32} : ∀ d k, 16 - k = d → k ≤ 16 → ex_big S 70 2 [.inr 20, .inl (nI k)] [] (mk_W N sc (mk_E ar (p_cp k f (fun _ => -1)) (p_cp k g (fun _ => 0)) (p_cp k h (fun _ => 0)))) 0 0 = some (none, mk_W N (upd sc 11 0) (mk_E ar (p_cp 16 f (fun _ => -1)) (p_cp 16 g (fun _ => 0)) (p_cp 16 h (fun _ => 0)))) := by
  have n12 : ∀ f g h, mk_E ar f g h 12 = f := fun _ _ _ => rfl
  have n13 : ∀ f g h, mk_E ar f g h 13 = g := fun _ _ _ => rfl
  have n15 : ∀ f g h, mk_E ar f g h 15 = h := fun _ _ _ => rfl
  intro d
  induction d with
  | zero =>
    intro k hd hk
    have hk16 : k = 16 := by omega
    subst hk16
    have h3 : (16 : Int32) ≤ nI 16 := by decide
    rw [e_70_2]
    simp only [e_70_3, e_70_5, e_70_8, e_70_9, e_70_12, e_70_13, e_70_14, e_70_15, e_70_16, e_70_19, e_70_20, e_70_21, e_70_22, e_70_23, e_70_26, e_70_27, e_70_28, e_70_29, e_70_32, e_70_35, e_70_36, e_70_37, e_70_40, Nat.reduceAdd, Option.bind_some, ft_0, ft_10, ft_11, rk_70, if_pos h3, wp_18_9, if_true]
  | succ d ih =>
    intro k hd hk
    have hlt : k < 16 := by omega
    have h3 : ¬ (16 : Int32) ≤ nI k := nI_ge (a := k) (b := 16) hlt (by omega)
    have ihk := ih (k + 1) (by omega) (by omega)
    rw [e_70_2]
    simp only [e_70_3, e_70_5, e_70_8, e_70_9, e_70_12, e_70_13, e_70_14, e_70_15, e_70_16, e_70_19, e_70_20, e_70_21, e_70_22, e_70_23, e_70_26, e_70_27, e_70_28, e_70_29, e_70_32, Nat.reduceAdd, Option.bind_some, if_neg h3, wg_18_3, wg_18_4, wg_18_6, ww_21 hlt, ww_22 hlt, ww_24 hlt, n12, n13, n15, me_2, me_3, me_5, vn0, p_cp_c, nI_1, ihk]
theorem m_empty : ex_big S 70 0 [.inr 20, .inr 0] [] (mk_W N sc ar) 0 0 = some (none, mk_W N (upd sc 11 0) (mk_E ar (p_cp 16 (ar 12) (fun _ => -1)) (p_cp 16 (ar 13) (fun _ => 0)) (p_cp 16 (ar 15) (fun _ => 0)))) := by
  have e := m_empty_loop (S := S) (N := N) (sc := sc) (ar := ar) (f := ar 12) (g := ar 13) (h := ar 15) 16 0 (by omega) (by omega)
  rw [p_cp_0, p_cp_0, p_cp_0, me_id, nI_0] at e
  simp only [e_70_0, e_70_1, Nat.reduceAdd, e]
theorem r_m_E (hr : r_m K sc ar X) : r_m K (upd sc 11 0) (mk_E ar (p_cp 16 (ar 12) (fun _ => -1)) (p_cp 16 (ar 13) (fun _ => 0)) (p_cp 16 (ar 15) (fun _ => 0))) (x_noL (x_setP (fun _ => none) (fun _ => none) X)) := by
  obtain ⟨h0, h1, h2, h3, h4, h5, h6, h7, h8, h9, h10, h11, h12, h13, h14, h15⟩ := hr
  refine ⟨h0, h1, h2, h3, fun b hb => ?_, fun b hb => ?_, fun b d hb hd => ?_, ⟨fun _ => 0, fun b hb => ?_, fun b hb hex => ?_, fun i hi => List.Pairwise.nil⟩, h8, nI_0.symm, h10, h11, h12, h13, h14, h15⟩
  · show p_cp 16 (ar 12) (fun _ => -1) b = _
    rw [show p_cp 16 (ar 12) (fun _ => -1) b = -1 from if_pos hb]
    rfl
  · show p_cp 16 (ar 13) (fun _ => 0) b = _
    rw [show p_cp 16 (ar 13) (fun _ => 0) b = 0 from if_pos hb]
    rfl
  · cases hd
  · show p_cp 16 (ar 15) (fun _ => 0) b = _
    rw [show p_cp 16 (ar 15) (fun _ => 0) b = 0 from if_pos hb]
    rw [x_li_none (L := x_L (x_noL (x_setP (fun _ => none) (fun _ => none) X))) (fun i => List.not_mem_nil), nI_0]
  · obtain ⟨i, -, hm⟩ := hex
    exact absurd hm List.not_mem_nil
theorem s_X_E {f g h : Nat → Int32} : s_X sc ar (upd sc 11 0) (mk_E ar f g h) := s_X_tr (s_X_tr (s_X_ar (j := 12) (by omega) _) (s_X_tr (s_X_ar (j := 13) (by omega) _) (s_X_ar (j := 15) (by omega) _))) (s_X_sc (by omega) _)
def p_dm (X : xs_T) (k : Nat) : Nat := ((List.range k).filter (fun b => (x_dt X b).isSome)).length
theorem p_dm_s (X : xs_T) (k : Nat) : p_dm X (k + 1) = p_dm X k + (if (x_dt X k).isSome = true then 1 else 0) := by
  unfold p_dm
  rw [List.range_succ, List.filter_append, List.length_append]
  congr 1
  by_cases h : (x_dt X k).isSome = true
  · simp [h]
  · simp [h]
theorem m_dirties_loop (hr : r_m K sc ar X) : ∀ d k, 16 - k = d → k ≤ 16 → ex_big S 71 4 [.inr 20, .inl (nI (p_dm X k)), .inl (nI k)] [] (mk_W N sc ar) 0 0 = some (some (nI (p_dm X 16)), mk_W N sc ar) := by
  have h13 := hr.2.2.2.2.2.1
  have z10 : ¬ (1 : Int32) = 0 := by decide
  intro d
  induction d with
  | zero =>
    intro k hd hk
    have hk16 : k = 16 := by omega
    subst hk16
    have h3 : (16 : Int32) ≤ nI 16 := by decide
    rw [e_71_4]
    simp only [e_71_5, e_71_7, e_71_10, e_71_11, e_71_14, e_71_15, e_71_16, e_71_19, e_71_20, e_71_21, e_71_22, e_71_25, e_71_26, e_71_27, e_71_30, e_71_33, e_71_34, Nat.reduceAdd, Option.bind_some, rk_71, if_pos h3]
  | succ d ih =>
    intro k hd hk
    have hlt : k < 16 := by omega
    have h3 : ¬ (16 : Int32) ≤ nI k := nI_ge (a := k) (b := 16) hlt (by omega)
    have ihk := ih (k + 1) (by omega) (by omega)
    rw [p_dm_s] at ihk
    have g := h13 k hlt
    rw [e_71_4]
    cases hd : (x_dt X k).isSome with
    | true =>
      rw [hd] at ihk g
      rw [if_pos rfl] at ihk
      have g : ar 13 k = 1 := g
      simp only [e_71_5, e_71_7, e_71_10, e_71_11, e_71_14, e_71_15, e_71_16, e_71_19, e_71_20, e_71_21, e_71_22, e_71_25, e_71_26, e_71_27, e_71_30, Nat.reduceAdd, Option.bind_some, if_neg h3, wg_18_4, wr_22 hlt, g, if_neg z10, nI_1, ihk]
    | false =>
      rw [hd] at ihk g
      rw [if_neg (by decide), Nat.add_zero (p_dm X k)] at ihk
      have g : ar 13 k = 0 := g
      simp only [e_71_5, e_71_7, e_71_10, e_71_11, e_71_14, e_71_15, e_71_16, e_71_19, e_71_20, e_71_21, e_71_22, e_71_25, e_71_26, e_71_27, e_71_30, Nat.reduceAdd, Option.bind_some, if_neg h3, wg_18_4, wr_22 hlt, g, if_true, nI_1, ihk]
theorem m_dirties (hr : r_m K sc ar X) : ex_big S 71 0 [.inr 20, .inr 0, .inr 0] [] (mk_W N sc ar) 0 0 = some (some (nI (x_cnt (x_dt X))), mk_W N sc ar) := by
  have e := m_dirties_loop (S := S) (N := N) hr 16 0 (by omega) (by omega)
  have e0 : p_dm X 0 = 0 := rfl
  rw [e0, nI_0] at e
  have e : ex_big S 71 4 [.inr 20, .inl 0, .inl 0] [] (mk_W N sc ar) 0 0 = some (some (nI (x_cnt (x_dt X))), mk_W N sc ar) := e
  simp only [e_71_0, e_71_1, e_71_2, e_71_3, Nat.reduceAdd, e]
theorem g_lose (hr : r_m K sc ar X) (a1 a2 : Int32) : ∃ K' sc' ar', (K ≤ K' ∧ K' ≤ K + 14) ∧ ex_big S 74 0 [.inr 20, .inr 0] [] (mk_W N sc ar) 0 0 = some (some (x_ans 6 a1 a2 X), mk_W N sc' ar') ∧ r_m K' sc' ar' (x_nxt 6 a1 a2 X) ∧ s_X sc ar sc' ar' := by
  have e1 := m_dirties (S := S) (N := N) hr
  have e2 := m_empty (S := S) (N := N) (sc := sc) (ar := ar)
  have r2 := r_m_E hr
  have e3 := m_writeJournal (S := S) (N := N) (sc := upd sc 11 0) r2.2.2.2.2.2.1
  have r3 := r_m_J r2
  have r4 := r_m_ep r3 0
  refine ⟨K, _, _, by omega, ?_, r4, s_X_tr s_X_E (s_X_tr s_X_J (s_X_sc (j := 12) (by omega) _))⟩
  simp only [e_74_0, e_74_1, e_74_4, e_74_5, e_74_6, e_74_9, e_74_10, e_74_13, e_74_14, e_74_15, e_74_18, e_74_19, List.length_cons, List.length_nil, Nat.reduceAdd, Nat.reduceLeDiff, Nat.zero_le, Option.bind_some, ck_74_53, ck_74_70, ck_74_71, ft_0, ft_10, ft_11, rk_74, rl_n, rl_s, wo_18, e1, e2, e3, wp_18_10, if_true, nI_0]
  rfl
theorem x_elig_cong {dt : Nat → Option Nat} {e e2 : Nat} (h : ∀ b d, dt b = some d → (d < e ↔ d < e2)) : x_elig dt e = x_elig dt e2 := by
  unfold x_elig
  refine List.filter_congr fun b _ => ?_
  unfold x_el
  cases hd : dt b with
  | none => rfl
  | some d =>
    have := h b d hd
    simp only [this]
theorem m_detach_loop {e : Int32} {B : Nat} (hee : e = 2147483647) (he : ∀ d, d < 2 ^ 30 → (e ≤ nI d ↔ B ≤ d)) : ∀ (m n : Nat) (X : xs_T) (sc : Nat → Int32) (ar : Nat → Nat → Int32), r_m K sc ar X → r_bd X → (x_elig (x_dt X) B).length = m → ∃ sc' ar', ex_big S 72 9 [.inr 20, .inl (nI n), .inl (e_o (x_first (x_dt X) B))] [] (mk_W N sc ar) 0 0 = some (some (nI (n + m)), mk_W N sc' ar') ∧ r_m K sc' ar' (x_setJ (fun _ => none) (fun _ => none) (x_noL (x_setP (fun _ => none) (fun _ => none) (x_drains B X)))) ∧ s_X sc ar sc' ar' := by
  intro m
  induction m with
  | zero =>
    intro n X sc ar hr hbd hm
    have hel : x_elig (x_dt X) B = [] := List.length_eq_zero_iff.mp hm
    have q : e_o (x_first (x_dt X) B) < 0 := by rw [x_first_none hel]; decide
    have e2 := m_empty (S := S) (N := N) (sc := sc) (ar := ar)
    have r2 := r_m_E hr
    have e3 := m_writeJournal (S := S) (N := N) (sc := upd sc 11 0) r2.2.2.2.2.2.1
    have r3 := r_m_J r2
    refine ⟨_, _, ?_, by rw [x_drains_nil hel]; exact r3, s_X_tr s_X_E s_X_J⟩
    rw [Nat.add_zero]
    rw [e_72_9]
    simp only [e_72_10, e_72_13, e_72_14, e_72_15, e_72_18, e_72_21, e_72_22, e_72_24, e_72_27, e_72_28, e_72_31, e_72_32, e_72_35, e_72_36, e_72_39, e_72_40, List.length_cons, List.length_nil, Nat.reduceAdd, Nat.reduceLeDiff, Nat.zero_le, Option.bind_some, ck_72_53, ck_72_56, ck_72_57, ck_72_70, rk_72, rl_n, rl_s, if_pos q, wo_18, e2, e3]
  | succ m ih =>
    intro n X sc ar hr hbd hm
    cases hf : x_first (x_dt X) B with
    | none =>
      have := x_first_nil hf
      rw [this] at hm
      simp at hm
    | some b =>
      have hel := x_first_mem hf
      obtain ⟨hb16, d, g1, g2⟩ := x_elig_mem.mp hel
      obtain ⟨-, s, hs⟩ := hbd.2.2.1 b d g1
      obtain ⟨sc1, ar1, e2, r2, m2⟩ := m_drain (S := S) (N := N) hr hbd hs
      have hl := x_drains_len hel
      have e3 := m_firstBelow (S := S) (N := N) r2 (r_bd_drain hbd b) he
      rw [hee] at e3
      obtain ⟨sc2, ar2, e4, r4, m4⟩ := ih (n + 1) (x_drain b X) sc1 ar1 r2 (r_bd_drain hbd b) (by omega)
      rw [x_drains_step hel] at r4
      have q : ¬ nI b < 0 := nI_pos (by omega)
      have q2 : e_o (some b) = nI b := rfl
      refine ⟨sc2, ar2, ?_, r4, s_X_tr m2 m4⟩
      rw [show n + (m + 1) = n + 1 + m by omega, e_72_9]
      simp only [e_72_10, e_72_13, e_72_14, e_72_15, e_72_18, e_72_21, e_72_22, e_72_24, e_72_27, e_72_28, List.length_cons, List.length_nil, Nat.reduceAdd, Nat.reduceLeDiff, Nat.zero_le, Option.bind_some, ck_72_56, ck_72_57, rl_n, rl_s, if_neg q, q2, wo_18, e2, e3, nI_1, e4]
theorem g_detach (hr : r_m K sc ar X) (hi : x_iv X) (hE : x_ep X < 2 ^ 26) (a1 a2 : Int32) : ∃ K' sc' ar', (K ≤ K' ∧ K' ≤ K + 14) ∧ ex_big S 72 0 [.inr 20, .inr 0, .inr 0] [] (mk_W N sc ar) 0 0 = some (some (x_ans 4 a1 a2 X), mk_W N sc' ar') ∧ r_m K' sc' ar' (x_nxt 4 a1 a2 X) ∧ s_X sc ar sc' ar' := by
  have hbd := r_bd_wk hi.1 (show x_ep X < 2 ^ 29 by omega)
  have he : ∀ d, d < 2 ^ 30 → ((2147483647 : Int32) ≤ nI d ↔ 2 ^ 30 ≤ d) := fun d hd => ⟨fun q => absurd q (nI_ge (a := d) (b := 2147483647) (by omega) (by omega)), fun q => by omega⟩
  have hel : x_elig (x_dt X) (2 ^ 30) = x_elig (x_dt X) (x_ep X + 1) := x_elig_cong (fun b d h => by
    have := (hi.1.2.1.2.2.1 b d h).1
    constructor
    · intro _; omega
    · intro _; omega)
  have hdr : x_drains (2 ^ 30) X = x_drains (x_ep X + 1) X := by
    unfold x_drains
    rw [hel]
  have e1 := m_firstBelow (S := S) (N := N) hr hbd he
  obtain ⟨sc2, ar2, e3, r3, m3⟩ := m_detach_loop (S := S) (N := N) rfl he _ 0 X sc ar hr hbd rfl
  rw [nI_0, Nat.zero_add, hel] at e3
  rw [hdr] at r3
  refine ⟨K, sc2, ar2, by omega, ?_, r3, m3⟩
  simp only [e_72_0, e_72_1, e_72_2, e_72_3, e_72_5, e_72_8, List.length_cons, List.length_nil, Nat.reduceAdd, Nat.reduceLeDiff, Nat.zero_le, Option.bind_some, ck_72_56, rl_n, rl_s, wo_18, e1, e3]
  rfl
/-! the power is lost -/
def x_lk (js : Nat → Option Nat) (k b : Nat) : Bool := match js b with
  | some s => decide (s < k)
  | none => false
theorem x_lk_iff {js : Nat → Option Nat} {k b : Nat} : x_lk js k b = true ↔ ∃ s, js b = some s ∧ s < k := by
  unfold x_lk
  cases js b with
  | none => simp
  | some s => simp
def x_crk (k : Nat) (X : xs_T) : xs_T := (x_C X, x_st X, x_nu X, (fun b => if x_lk (x_js X) k b = true then x_js X b else none), (fun b => if x_lk (x_js X) k b = true then x_jd X b else none), x_js X, x_jd X, (fun i => if i = 0 then x_ofk k (x_js X) else []), 0, x_ep X, x_dr X, x_hi X)
theorem x_ofk_mem {js : Nat → Option Nat} {k b : Nat} (h : b ∈ x_ofk k js) : b < 16 ∧ ∃ s, js b = some s ∧ s < k := by
  obtain ⟨s, hs1, hs2⟩ := List.mem_filterMap.mp h
  have h1 : js b = some s := by simpa using List.find?_some hs2
  have h2 := List.mem_of_find?_eq_some hs2
  exact ⟨List.mem_range.mp h2, s, h1, List.mem_range.mp hs1⟩
theorem x_ofk_nodup {js : Nat → Option Nat} {k : Nat} : (x_ofk k js).Nodup := by
  refine List.Pairwise.filterMap _ ?_ (List.nodup_range (n := k))
  intro s t hst c hc c2 hc2 e
  subst e
  have e1 : js c = some s := by simpa using List.find?_some hc
  have e2 : js c = some t := by simpa using List.find?_some hc2
  exact hst (Option.some.inj (e1.symm.trans e2))
theorem x_ofk_len (js : Nat → Option Nat) (k : Nat) : (x_ofk k js).length ≤ k := by
  have := List.length_filterMap_le (fun s => (List.range 16).find? (fun b => js b == some s)) (List.range k)
  rw [List.length_range] at this
  exact this
theorem x_crk_ls (k : Nat) (X : xs_T) : x_ls (x_L (x_crk k X)) := by
  show x_ls (fun i => if i = 0 then x_ofk k (x_js X) else [])
  refine ⟨fun i => ?_, fun i b hb => ?_, fun i j b q1 q2 => ?_⟩
  · show (if i = 0 then x_ofk k (x_js X) else []).Nodup
    split
    · exact x_ofk_nodup
    · exact List.nodup_nil
  · have hb : b ∈ (if i = 0 then x_ofk k (x_js X) else []) := hb
    split at hb
    · exact ⟨(x_ofk_mem hb).1, by omega⟩
    · exact absurd hb List.not_mem_nil
  · have q1 : b ∈ (if i = 0 then x_ofk k (x_js X) else []) := q1
    have q2 : b ∈ (if j = 0 then x_ofk k (x_js X) else []) := q2
    split at q1
    · split at q2
      · omega
      · exact absurd q2 List.not_mem_nil
    · exact absurd q1 List.not_mem_nil
theorem x_crk_0 (X : xs_T) : x_crk 0 X = x_noL (x_setP (fun _ => none) (fun _ => none) X) := by
  have q : ∀ b, ¬ x_lk (x_js X) 0 b = true := fun b h => by
    obtain ⟨s, -, h2⟩ := x_lk_iff.mp h
    omega
  have h1 : (fun b => if x_lk (x_js X) 0 b = true then x_js X b else none) = fun _ => none := funext fun b => if_neg (q b)
  have h2 : (fun b => if x_lk (x_js X) 0 b = true then x_jd X b else none) = fun _ => none := funext fun b => if_neg (q b)
  have h3 : (fun i => if i = 0 then x_ofk 0 (x_js X) else []) = fun _ => [] := by
    funext i
    split <;> rfl
  unfold x_crk
  rw [h1, h2, h3]
  rfl
theorem x_crk_end {X : xs_T} (h : x_pl (x_C X) (x_ep X) (x_js X) (x_jd X)) : x_crk (2 * x_C X) X = x_crash X := by
  have h1 : (fun b => if x_lk (x_js X) (2 * x_C X) b = true then x_js X b else none) = x_js X := by
    funext b
    cases hb : x_js X b with
    | none => split <;> rfl
    | some s => exact if_pos (x_lk_iff.mpr ⟨s, hb, (h.1 b s hb).2⟩)
  have h2 : (fun b => if x_lk (x_js X) (2 * x_C X) b = true then x_jd X b else none) = x_jd X := by
    funext b
    cases hb : x_jd X b with
    | none => split <;> rfl
    | some d =>
      obtain ⟨-, s, hs⟩ := h.2.2.1 b d hb
      exact if_pos (x_lk_iff.mpr ⟨s, hs, (h.1 b s hs).2⟩)
  unfold x_crk
  rw [h1, h2]
  rfl
theorem x_crk_none {X : xs_T} {k : Nat} (h : ∀ b, x_js X b ≠ some k) (hf : x_ofk (k + 1) (x_js X) = x_ofk k (x_js X)) : x_crk (k + 1) X = x_crk k X := by
  have q : ∀ b, x_lk (x_js X) (k + 1) b = x_lk (x_js X) k b := fun b => by
    rw [Bool.eq_iff_iff, x_lk_iff, x_lk_iff]
    constructor
    · rintro ⟨s, h1, h2⟩
      refine ⟨s, h1, ?_⟩
      have : s ≠ k := fun e => h b (e ▸ h1)
      omega
    · rintro ⟨s, h1, h2⟩
      exact ⟨s, h1, by omega⟩
  unfold x_crk
  simp only [q, hf]
theorem x_crk_some {X : xs_T} {k b : Nat} (hb : x_js X b = some k) (hinj : ∀ b b2 s, x_js X b = some s → x_js X b2 = some s → b = b2) (hf : x_ofk (k + 1) (x_js X) = x_ofk k (x_js X) ++ [b]) : x_comes b 0 (x_setP (x_up (x_sl (x_crk k X)) b (some k)) (x_up (x_dt (x_crk k X)) b (x_jd X b)) (x_crk k X)) = x_crk (k + 1) X := by
  have qb : x_lk (x_js X) (k + 1) b = true := x_lk_iff.mpr ⟨k, hb, by omega⟩
  have q : ∀ c, c ≠ b → x_lk (x_js X) (k + 1) c = x_lk (x_js X) k c := fun c hc => by
    rw [Bool.eq_iff_iff, x_lk_iff, x_lk_iff]
    constructor
    · rintro ⟨s, h1, h2⟩
      refine ⟨s, h1, ?_⟩
      have : s ≠ k := fun e => hc (hinj c b k (e ▸ h1) hb)
      omega
    · rintro ⟨s, h1, h2⟩
      exact ⟨s, h1, by omega⟩
  have hnb : b ∉ x_ofk k (x_js X) := fun hm => by
    obtain ⟨-, s, h1, h2⟩ := x_ofk_mem hm
    rw [hb] at h1
    have := Option.some.inj h1
    omega
  have h1 : x_up (fun b => if x_lk (x_js X) k b = true then x_js X b else none) b (some k) = fun b => if x_lk (x_js X) (k + 1) b = true then x_js X b else none := by
    funext c
    by_cases hc : c = b
    · subst hc
      rw [xu_s, if_pos qb, hb]
    · rw [xu_n hc, q c hc]
  have h2 : x_up (fun b => if x_lk (x_js X) k b = true then x_jd X b else none) b (x_jd X b) = fun b => if x_lk (x_js X) (k + 1) b = true then x_jd X b else none := by
    funext c
    by_cases hc : c = b
    · subst hc
      rw [xu_s, if_pos qb]
    · rw [xu_n hc, q c hc]
  have h3 : (fun j => if j = 0 then x_rm b (if j = 0 then x_ofk k (x_js X) else []) ++ [b] else x_rm b (if j = 0 then x_ofk k (x_js X) else [])) = fun i => if i = 0 then x_ofk (k + 1) (x_js X) else [] := by
    funext j
    by_cases hj : j = 0
    · rw [if_pos hj, if_pos hj, if_pos hj, hf]
      congr 1
      refine List.filter_eq_self.mpr fun a ha => ?_
      have : a ≠ b := fun e => hnb (e ▸ ha)
      simp [this]
    · rw [if_neg hj, if_neg hj, if_neg hj]
      rfl
  show (x_C X, x_st X, x_nu X, x_up (fun b => if x_lk (x_js X) k b = true then x_js X b else none) b (some k), x_up (fun b => if x_lk (x_js X) k b = true then x_jd X b else none) b (x_jd X b), x_js X, x_jd X, (fun j => if j = 0 then x_rm b (if j = 0 then x_ofk k (x_js X) else []) ++ [b] else x_rm b (if j = 0 then x_ofk k (x_js X) else [])), 0, x_ep X, x_dr X, x_hi X) = x_crk (k + 1) X
  rw [h1, h2, h3]
  rfl
theorem r_m_nm (hr : r_m K sc ar X) {b k : Nat} (hb : b < 16) : r_m K sc (x_up (x_up (x_up ar 12 (upd (ar 12) b (nI k))) 13 (upd (ar 13) b (ar 18 b))) 14 (upd (ar 14) b (ar 19 b))) (x_setP (x_up (x_sl X) b (some k)) (x_up (x_dt X) b (x_jd X b)) X) := by
  obtain ⟨h0, h1, h2, h3, h4, h5, h6, h7, h8, h9, h10, h11, h12, h13, h14, h15⟩ := hr
  refine ⟨h0, h1, h2, h3, fun c hc => ?_, fun c hc => ?_, fun c d hc hd => ?_, h7, h8, h9, h10, h11, h12, h13, h14, h15⟩
  · show upd (ar 12) b (nI k) c = e_o (x_up (x_sl X) b (some k) c)
    by_cases hcb : c = b
    · subst hcb
      rw [pk_us, xu_s]; rfl
    · rw [pk_un hcb, xu_n hcb]; exact h4 c hc
  · show upd (ar 13) b (ar 18 b) c = x_b (x_up (x_dt X) b (x_jd X b) c).isSome
    by_cases hcb : c = b
    · subst hcb
      rw [pk_us, xu_s]; exact h14 c hc
    · rw [pk_un hcb, xu_n hcb]; exact h5 c hc
  · show upd (ar 14) b (ar 19 b) c = nI d
    have hd : x_up (x_dt X) b (x_jd X b) c = some d := hd
    by_cases hcb : c = b
    · subst hcb
      rw [xu_s] at hd
      rw [pk_us]; exact h15 c d hc hd
    · rw [xu_n hcb] at hd
      rw [pk_un hcb]; exact h6 c d hc hd
theorem m_crash_skip {js : Nat → Option Nat} (h17 : ∀ b, b < 16 → ar 17 b = e_o (js b)) (hjs : ∀ b s, js b = some s → s < 2 ^ 31) {n : Int32} {k : Nat} (hk : k < 2 ^ 31) : ∀ d j j2, j2 - j = d → j ≤ j2 → j2 ≤ 16 → (∀ i, j ≤ i → i < j2 → js i ≠ some k) → ex_big S 73 20 [.inr 20, .inl n, .inl (nI k), .inl (nI j)] [] (mk_W N sc ar) 0 0 = ex_big S 73 20 [.inr 20, .inl n, .inl (nI k), .inl (nI j2)] [] (mk_W N sc ar) 0 0 := by
  intro d
  induction d with
  | zero =>
    intro j j2 hd h1 h2 _
    rw [show j = j2 by omega]
  | succ d ih =>
    intro j j2 hd h1 h2 hn
    have hlt : j < 16 := by omega
    have h3 : ¬ (16 : Int32) ≤ nI j := nI_ge (a := j) (b := 16) hlt (by omega)
    have ihk := ih (j + 1) j2 (by omega) (by omega) h2 (fun i q1 q2 => hn i (by omega) q2)
    have g : ¬ e_o (js j) = nI k := fun q => hn j (by omega) (by omega) ((e_o_eq hk (fun t ht => hjs j t ht)).mp q)
    rw [← ihk]
    conv => lhs; rw [e_73_20]
    simp only [e_73_21, e_73_23, e_73_26, e_73_27, e_73_30, e_73_31, e_73_32, e_73_33, Nat.reduceAdd, Option.bind_some, e_73_76, e_73_79, Nat.reduceAdd, if_neg h3, wg_18_13, wr_26 hlt, h17 j hlt, if_neg g, nI_1]
theorem m_crash_loop (hi : x_iv X) : ∀ d k v sc ar, 2 * x_C X - k = d → k ≤ 2 * x_C X → r_m (K + (x_ofk k (x_js X)).length) sc ar (x_crk k X) → ∃ sc' ar', ex_big S 73 8 [.inr 20, .inl (nI (x_ofk k (x_js X)).length), .inl (nI k), v] [] (mk_W N sc ar) 0 0 = some (some (nI (x_ofk (2 * x_C X) (x_js X)).length), mk_W N sc' ar') ∧ r_m (K + (x_ofk (2 * x_C X) (x_js X)).length) sc' ar' (x_crk (2 * x_C X) X) ∧ s_X sc ar sc' ar' := by
  have hC := hi.1.1
  have hj := hi.1.2.2.1
  have h2C : (2 : Int32) * nI (x_C X) = nI (2 * x_C X) := pk_mul 2 (x_C X)
  have hjs : ∀ b s, x_js X b = some s → s < 2 ^ 31 := fun b s h => by have := (hj.1 b s h).2; omega
  intro d
  induction d with
  | zero =>
    intro k v sc ar hd hk hr
    have hm : sc 9 = nI (x_C X) := hr.2.1
    have h3 : nI (2 * x_C X) ≤ nI k := nI_le (by omega) (by omega)
    have hkN : k = 2 * x_C X := by omega
    refine ⟨sc, ar, ?_, by rw [← hkN]; exact hr, s_X_rf⟩
    rw [e_73_8]
    simp only [e_73_9, e_73_10, e_73_11, e_73_14, e_73_15, Nat.reduceAdd, Option.bind_some, e_73_88, e_73_89, Nat.reduceAdd, rk_73, wg_18_0, hm, h2C, if_pos h3]
    rw [hkN]
  | succ d ih =>
    intro k v sc ar hd hk hr
    have hm : sc 9 = nI (x_C X) := hr.2.1
    have hlt : k < 2 * x_C X := by omega
    have h3 : ¬ nI (2 * x_C X) ≤ nI k := nI_ge hlt (by omega)
    have h17 : ∀ b, b < 16 → ar 17 b = e_o (x_js X b) := hr.2.2.2.2.2.2.2.2.2.2.2.2.2.1
    have h16 : (16 : Int32) ≤ nI 16 := by decide
    cases hf : (List.range 16).find? (fun b => x_js X b == some k) with
    | none =>
      have hno : ∀ b, x_js X b ≠ some k := fun b hb => by
        have := List.find?_eq_none.mp hf b (List.mem_range.mpr (hj.1 b k hb).1)
        simp [hb] at this
      have hs : x_ofk (k + 1) (x_js X) = x_ofk k (x_js X) := by rw [x_ofk_s, hf]; simp
      obtain ⟨sc2, ar2, e2, r2, m2⟩ := ih (k + 1) (.inl (nI 16)) sc ar (by omega) (by omega) (by rw [hs, x_crk_none hno hs]; exact hr)
      rw [hs] at e2
      have e1 := m_crash_skip (S := S) (N := N) (sc := sc) h17 hjs (n := nI (x_ofk k (x_js X)).length) (k := k) (by omega) 16 0 16 (by omega) (by omega) (by omega) (fun i _ _ => hno i)
      rw [nI_0] at e1
      refine ⟨sc2, ar2, ?_, r2, m2⟩
      rw [e_73_8]
      simp only [e_73_9, e_73_10, e_73_11, e_73_14, e_73_15, e_73_18, e_73_19, Nat.reduceAdd, Option.bind_some, wg_18_0, hm, h2C, if_neg h3]
      rw [e1, e_73_20]
      simp only [e_73_21, e_73_23, Nat.reduceAdd, e_73_82, e_73_85, Nat.reduceAdd, if_pos h16, nI_1, e2]
    | some b =>
      have hb : x_js X b = some k := by simpa using List.find?_some hf
      obtain ⟨hb16, -⟩ := hj.1 b k hb
      have hs : x_ofk (k + 1) (x_js X) = x_ofk k (x_js X) ++ [b] := by rw [x_ofk_s, hf]; rfl
      have hl : (x_ofk (k + 1) (x_js X)).length = (x_ofk k (x_js X)).length + 1 := by rw [hs, List.length_append]; rfl
      have e1 := m_crash_skip (S := S) (N := N) (sc := sc) h17 hjs (n := nI (x_ofk k (x_js X)).length) (k := k) (by omega) b 0 b (by omega) (by omega) (by omega) (fun i _ q z => by
        have := hj.2.1 i b k z hb
        omega)
      rw [nI_0] at e1
      have r1 := r_m_nm hr (b := b) (k := k) hb16
      obtain ⟨sc3, ar3, e3, r3, m3⟩ := m_comes (S := S) (N := N) r1 (x_crk_ls k X) hb16 (i := 0) (by omega)
      have e3 : ex_big S 59 0 [.inr 20, .inl (nI b), .inl 1] [] (mk_W N sc (x_up (x_up (x_up ar 12 (upd (ar 12) b (nI k))) 13 (upd (ar 13) b (ar 18 b))) 14 (upd (ar 14) b (ar 19 b)))) 0 0 = some (none, mk_W N sc3 ar3) := e3
      have r3 : r_m (K + (x_ofk k (x_js X)).length + 1) sc3 ar3 (x_crk (k + 1) X) := by
        rw [← x_crk_some hb hj.2.1 hs]; exact r3
      have h17' : ∀ b, b < 16 → ar3 17 b = e_o (x_js X b) := r3.2.2.2.2.2.2.2.2.2.2.2.2.2.1
      have e4 := m_crash_skip (S := S) (N := N) (sc := sc3) h17' hjs (n := nI ((x_ofk k (x_js X)).length + 1)) (k := k) (by omega) (16 - (b + 1)) (b + 1) 16 (by omega) (by omega) (by omega) (fun i q _ z => by
        have := hj.2.1 i b k z hb
        omega)
      obtain ⟨sc2, ar2, e2, r2, m2⟩ := ih (k + 1) (.inl (nI 16)) sc3 ar3 (by omega) (by omega) (by rw [hl, ← Nat.add_assoc]; exact r3)
      rw [hl] at e2
      have g : e_o (x_js X b) = nI k := by rw [hb]; rfl
      have hv : vp_nar .boolean (ar 18 b) = ar 18 b := by
        rw [hr.2.2.2.2.2.2.2.2.2.2.2.2.2.2.1 b hb16]; exact vnb _
      have h5 : ¬ (16 : Int32) ≤ nI b := nI_ge (a := b) (b := 16) hb16 (by omega)
      have n13 : ∀ f, x_up ar 12 f 13 = ar 13 := fun _ => rfl
      have n18 : ∀ f, x_up ar 12 f 18 = ar 18 := fun _ => rfl
      have n14 : ∀ f g, x_up (x_up ar 12 f) 13 g 14 = ar 14 := fun _ _ => rfl
      have n19 : ∀ f g, x_up (x_up ar 12 f) 13 g 19 = ar 19 := fun _ _ => rfl
      refine ⟨sc2, ar2, ?_, r2, s_X_tr (s_X_tr (s_X_ar (j := 12) (by omega) _) (s_X_tr (s_X_ar (j := 13) (by omega) _) (s_X_ar (j := 14) (by omega) _))) (s_X_tr m3 m2)⟩
      rw [e_73_8]
      simp only [e_73_9, e_73_10, e_73_11, e_73_14, e_73_15, e_73_18, e_73_19, Nat.reduceAdd, Option.bind_some, wg_18_0, hm, h2C, if_neg h3]
      rw [e1, e_73_20]
      simp only [e_73_21, e_73_23, e_73_26, e_73_27, e_73_30, e_73_31, e_73_32, e_73_33, e_73_36, e_73_37, e_73_40, e_73_41, e_73_42, e_73_43, e_73_44, e_73_47, e_73_48, e_73_49, e_73_52, e_73_53, e_73_54, e_73_55, e_73_56, e_73_59, e_73_60, e_73_61, e_73_64, e_73_65, e_73_66, e_73_67, e_73_68, e_73_69, e_73_70, e_73_73, e_73_76, e_73_79, List.length_cons, List.length_nil, Nat.reduceAdd, Nat.reduceLeDiff, Nat.zero_le, Option.bind_some, ck_73_59, rl_n, rl_s, if_neg h5, wg_18_13, wr_26 hb16, h17 b hb16, g, if_true, wg_18_3, ww_21 hb16, wg_18_4, wg_18_14, wr_27 hb16, n18, ww_22 hb16, hv, n13, wg_18_5, wg_18_15, wr_28 hb16, n19, ww_23 hb16, n14, wo_18, e3, nI_1]
      rw [e4, e_73_20]
      simp only [e_73_21, e_73_23, Nat.reduceAdd, e_73_82, e_73_85, Nat.reduceAdd, if_pos h16, nI_1, e2]
theorem g_crash (hr : r_m K sc ar X) (hi : x_iv X) (a1 a2 : Int32) : ∃ K' sc' ar', (K ≤ K' ∧ K' ≤ K + 14) ∧ ex_big S 73 0 [.inr 20, .inr 0, .inr 0, .inr 0] [] (mk_W N sc ar) 0 0 = some (some (x_ans 5 a1 a2 X), mk_W N sc' ar') ∧ r_m K' sc' ar' (x_nxt 5 a1 a2 X) ∧ s_X sc ar sc' ar' := by
  have e2 := m_empty (S := S) (N := N) (sc := sc) (ar := ar)
  have r2 := r_m_E hr
  rw [← x_crk_0] at r2
  have hC := hi.1.1
  obtain ⟨sc1, ar1, e1, r1, m1⟩ := m_crash_loop (S := S) (N := N) (K := K) hi (2 * x_C X) 0 (.inr 0) _ _ (by omega) (by omega) r2
  have q : (x_ofk 0 (x_js X)).length = 0 := rfl
  rw [q, nI_0] at e1
  rw [x_crk_end hi.1.2.2.1] at r1
  have hl := x_ofk_len (x_js X) (2 * x_C X)
  refine ⟨_, sc1, ar1, by omega, ?_, r1, s_X_tr s_X_E m1⟩
  simp only [e_73_0, e_73_1, e_73_4, e_73_5, e_73_6, e_73_7, List.length_cons, List.length_nil, Nat.reduceAdd, Nat.reduceLeDiff, Nat.zero_le, Option.bind_some, ck_73_70, rl_n, rl_s, wo_18, e2, e1]
  rfl
end RM6
