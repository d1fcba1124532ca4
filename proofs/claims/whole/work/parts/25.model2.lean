/-! the reference: the first dirty block, draining -/
section RM2
variable {K N : Nat} {sc : Nat → Int32} {ar : Nat → Nat → Int32} {X : xs_T} {S : ex_S}
def p_bk (dt : Nat → Option Nat) (B k : Nat) (o : Option Nat) : Prop := match o with
  | none => ∀ b, b < k → b ∉ x_elig dt B
  | some b0 => b0 < k ∧ b0 ∈ x_elig dt B ∧ ∀ b, b < k → b ∈ x_elig dt B → x_before dt b0 b = true
theorem p_bk_keep {dt : Nat → Option Nat} {B k : Nat} {o : Option Nat} (ho : p_bk dt B k o) (hk : k ∈ x_elig dt B → ∃ b0, o = some b0 ∧ x_before dt b0 k = true) : p_bk dt B (k + 1) o := by
  cases o with
  | none =>
    intro b hb hel
    by_cases hbk : b = k
    · subst hbk
      obtain ⟨b0, h1, -⟩ := hk hel
      cases h1
    · exact ho b (by omega) hel
  | some b0 =>
    obtain ⟨h1, h2, h3⟩ := ho
    refine ⟨by omega, h2, fun b hb hel => ?_⟩
    by_cases hbk : b = k
    · subst hbk
      obtain ⟨b1, e1, e2⟩ := hk hel
      cases e1
      exact e2
    · exact h3 b (by omega) hel
theorem p_bk_take {dt : Nat → Option Nat} {B k : Nat} {o : Option Nat} (ho : p_bk dt B k o) (hel : k ∈ x_elig dt B) (hk : ∀ b0, o = some b0 → x_before dt k b0 = true) : p_bk dt B (k + 1) (some k) := by
  refine ⟨by omega, hel, fun b hb heb => ?_⟩
  by_cases hbk : b = k
  · subst hbk
    exact x_before_rf b
  · cases o with
    | none => exact absurd heb (ho b (by omega))
    | some b0 => exact x_before_tr (hk b0 rfl) (ho.2.2 b (by omega) heb)
theorem p_bk_end {dt : Nat → Option Nat} {B : Nat} {o : Option Nat} (ho : p_bk dt B 16 o) : x_first dt B = o := by
  cases o with
  | none =>
    apply x_first_none
    rw [List.eq_nil_iff_forall_not_mem]
    intro b hb
    exact ho b (x_elig_mem.mp hb).1 hb
  | some b0 => exact x_first_some ho.2.1 (fun a ha => ho.2.2 a (x_elig_mem.mp ha).1 ha)
theorem e_o_neg {o : Option Nat} (ho : ∀ t, o = some t → t < 2 ^ 31) : e_o o < 0 ↔ o = none := by
  cases o with
  | none => exact ⟨fun _ => rfl, fun _ => by decide⟩
  | some t =>
    constructor
    · intro q; exact absurd q (nI_pos (ho t rfl))
    · intro q; cases q
theorem m_firstBelow_loop (hr : r_m K sc ar X) (hbd : r_bd X) {e : Int32} {B : Nat} (he : ∀ d, d < 2 ^ 30 → (e ≤ nI d ↔ B ≤ d)) : ∀ d k o, 16 - k = d → k ≤ 16 → p_bk (x_dt X) B k o → ex_big S 56 4 [.inr 20, .inl e, .inl (e_o o), .inl (nI k)] [] (mk_W N sc ar) 0 0 = some (some (e_o (x_first (x_dt X) B)), mk_W N sc ar) := by
  have h13 := hr.2.2.2.2.2.1
  have h14 := hr.2.2.2.2.2.2.1
  have z10 : ¬ (1 : Int32) = 0 := by decide
  intro d
  induction d with
  | zero =>
    intro k o hd hk ho
    have hk16 : k = 16 := by omega
    subst hk16
    have h3 : (16 : Int32) ≤ nI 16 := by decide
    rw [p_bk_end ho, e_56_4]
    simp only [e_56_5, e_56_7, e_56_10, e_56_11, e_56_14, e_56_15, e_56_16, e_56_19, e_56_20, e_56_23, e_56_24, e_56_25, e_56_26, e_56_29, e_56_30, e_56_33, e_56_34, e_56_37, e_56_38, e_56_39, e_56_40, e_56_43, e_56_44, e_56_45, e_56_48, e_56_49, e_56_50, e_56_53, e_56_56, e_56_57, Nat.reduceAdd, Option.bind_some, rk_56, if_pos h3]
  | succ d ih =>
    intro k o hd hk ho
    have hlt : k < 16 := by omega
    have h3 : ¬ (16 : Int32) ≤ nI k := nI_ge (a := k) (b := 16) hlt (by omega)
    rw [e_56_4]
    cases hdk : x_dt X k with
    | none =>
      have g1 : ar 13 k = 0 := by rw [h13 k hlt, hdk]; rfl
      have ihk := ih (k + 1) o (by omega) (by omega) (p_bk_keep ho (fun hel => by
        obtain ⟨-, dd, q, -⟩ := x_elig_mem.mp hel
        rw [hdk] at q; cases q))
      simp only [e_56_5, e_56_7, e_56_10, e_56_11, e_56_14, e_56_15, e_56_16, e_56_19, e_56_20, e_56_23, e_56_24, e_56_25, e_56_26, e_56_29, e_56_30, e_56_33, e_56_34, e_56_37, e_56_38, e_56_39, e_56_40, e_56_43, e_56_44, e_56_45, e_56_48, e_56_49, e_56_50, e_56_53, Nat.reduceAdd, Option.bind_some, if_neg h3, wg_18_4, wr_22 hlt, g1, if_true, nI_1, ihk]
    | some dk =>
      have g1 : ar 13 k = 1 := by rw [h13 k hlt, hdk]; rfl
      have g2 : ar 14 k = nI dk := h14 k dk hlt hdk
      have hd30 := (hbd.2.2.1 k dk hdk).1
      by_cases hlB : dk < B
      · have hel : k ∈ x_elig (x_dt X) B := x_elig_mem.mpr ⟨hlt, dk, hdk, hlB⟩
        have g3 : ¬ e ≤ nI dk := fun q => by have := (he dk hd30).mp q; omega
        cases o with
        | none =>
          have ihk := ih (k + 1) (some k) (by omega) (by omega) (p_bk_take ho hel (fun b0 q => by cases q))
          have ihk : ex_big S 56 4 [.inr 20, .inl e, .inl (nI k), .inl (nI (k + 1))] [] (mk_W N sc ar) 0 0 = some (some (e_o (x_first (x_dt X) B)), mk_W N sc ar) := ihk
          have q : e_o none < 0 := by decide
          simp only [e_56_5, e_56_7, e_56_10, e_56_11, e_56_14, e_56_15, e_56_16, e_56_19, e_56_20, e_56_23, e_56_24, e_56_25, e_56_26, e_56_29, e_56_30, e_56_33, e_56_34, e_56_37, e_56_38, e_56_39, e_56_40, e_56_43, e_56_44, e_56_45, e_56_48, e_56_49, e_56_50, e_56_53, Nat.reduceAdd, Option.bind_some, if_neg h3, wg_18_4, wg_18_5, wr_22 hlt, wr_23 hlt, g1, g2, if_neg z10, if_neg g3, if_pos q, nI_1, ihk]
        | some b0 =>
          obtain ⟨c1, c2, c3⟩ := ho
          obtain ⟨-, d0, c4, c5⟩ := x_elig_mem.mp c2
          have hb0 : b0 < 16 := by omega
          have g4 : ar 14 b0 = nI d0 := h14 b0 d0 hb0 c4
          have hd030 := (hbd.2.2.1 b0 d0 c4).1
          have q : ¬ nI b0 < 0 := nI_pos (by omega)
          have q2 : e_o (some b0) = nI b0 := rfl
          by_cases hdd : dk < d0
          · have g5 : ¬ nI d0 ≤ nI dk := nI_ge hdd (by omega)
            have ihk := ih (k + 1) (some k) (by omega) (by omega) (p_bk_take (o := some b0) ⟨c1, c2, c3⟩ hel (fun b1 z => by
              cases z
              exact (x_before_iff hdk c4).mpr (Or.inl hdd)))
            have ihk : ex_big S 56 4 [.inr 20, .inl e, .inl (nI k), .inl (nI (k + 1))] [] (mk_W N sc ar) 0 0 = some (some (e_o (x_first (x_dt X) B)), mk_W N sc ar) := ihk
            simp only [e_56_5, e_56_7, e_56_10, e_56_11, e_56_14, e_56_15, e_56_16, e_56_19, e_56_20, e_56_23, e_56_24, e_56_25, e_56_26, e_56_29, e_56_30, e_56_33, e_56_34, e_56_37, e_56_38, e_56_39, e_56_40, e_56_43, e_56_44, e_56_45, e_56_48, e_56_49, e_56_50, e_56_53, Nat.reduceAdd, Option.bind_some, if_neg h3, wg_18_4, wg_18_5, wr_22 hlt, wr_23 hlt, g1, g2, if_neg z10, if_neg g3, if_neg q, q2, wr_23 hb0, g4, if_neg g5, nI_1, ihk]
          · have g5 : nI d0 ≤ nI dk := nI_le (by omega) (by omega)
            have ihk := ih (k + 1) (some b0) (by omega) (by omega) (p_bk_keep (o := some b0) ⟨c1, c2, c3⟩ (fun _ => ⟨b0, rfl, (x_before_iff c4 hdk).mpr (by omega)⟩))
            rw [q2] at ihk
            simp only [e_56_5, e_56_7, e_56_10, e_56_11, e_56_14, e_56_15, e_56_16, e_56_19, e_56_20, e_56_23, e_56_24, e_56_25, e_56_26, e_56_29, e_56_30, e_56_33, e_56_34, e_56_37, e_56_38, e_56_39, e_56_40, e_56_43, e_56_44, e_56_45, e_56_48, e_56_49, e_56_50, e_56_53, Nat.reduceAdd, Option.bind_some, if_neg h3, wg_18_4, wg_18_5, wr_22 hlt, wr_23 hlt, g1, g2, if_neg z10, if_neg g3, if_neg q, q2, wr_23 hb0, g4, if_pos g5, nI_1, ihk]
      · have g3 : e ≤ nI dk := (he dk hd30).mpr (by omega)
        have ihk := ih (k + 1) o (by omega) (by omega) (p_bk_keep ho (fun hel => by
          obtain ⟨-, dd, z, z2⟩ := x_elig_mem.mp hel
          rw [hdk] at z
          cases z
          exact absurd z2 hlB))
        simp only [e_56_5, e_56_7, e_56_10, e_56_11, e_56_14, e_56_15, e_56_16, e_56_19, e_56_20, e_56_23, e_56_24, e_56_25, e_56_26, e_56_29, e_56_30, e_56_33, e_56_34, e_56_37, e_56_38, e_56_39, e_56_40, e_56_43, e_56_44, e_56_45, e_56_48, e_56_49, e_56_50, e_56_53, Nat.reduceAdd, Option.bind_some, if_neg h3, wg_18_4, wg_18_5, wr_22 hlt, wr_23 hlt, g1, g2, if_neg z10, if_pos g3, nI_1, ihk]
theorem m_firstBelow (hr : r_m K sc ar X) (hbd : r_bd X) {e : Int32} {B : Nat} (he : ∀ d, d < 2 ^ 30 → (e ≤ nI d ↔ B ≤ d)) : ex_big S 56 0 [.inr 20, .inl e, .inr 0, .inr 0] [] (mk_W N sc ar) 0 0 = some (some (e_o (x_first (x_dt X) B)), mk_W N sc ar) := by
  have e1 := m_firstBelow_loop (S := S) (N := N) hr hbd he 16 0 none (by omega) (by omega) (fun b q => absurd q (Nat.not_lt_zero b))
  have q2 : e_o (none : Option Nat) = -1 := rfl
  rw [nI_0, q2] at e1
  simp only [e_56_0, e_56_1, e_56_2, e_56_3, Nat.reduceAdd, e1]
theorem m_drain (hr : r_m K sc ar X) (hbd : r_bd X) {b s : Nat} (hs : x_sl X b = some s) : ∃ sc' ar', ex_big S 57 0 [.inr 20, .inl (nI b)] [] (mk_W N sc ar) 0 0 = some (none, mk_W N sc' ar') ∧ r_m K sc' ar' (x_drain b X) ∧ s_X sc ar sc' ar' := by
  obtain ⟨hb, hsC⟩ := hbd.1 b s hs
  obtain ⟨h0, h1, h2, h3, h4, h5, h6, h7, h8, h9, h10, h11, h12, h13, h14, h15⟩ := hr
  have hsl : ar 12 b = nI s := by rw [h4 b hb, hs]; rfl
  have hs14 : s < 14 := by omega
  have hnu := h3 s hsC
  have hsy : x_says X b = x_nu X s := by unfold x_says; rw [hs]
  refine ⟨upd sc 14 (x_dr X + 1), x_up (x_up ar 10 (upd (ar 10) b (x_nu X s))) 13 (upd (ar 13) b 0), ?_, ?_, ?_⟩
  · have n13 : x_up ar 10 (upd (ar 10) b (x_nu X s)) 13 = ar 13 := rfl
    simp only [e_57_0, e_57_1, e_57_4, e_57_5, e_57_6, e_57_9, e_57_10, e_57_13, e_57_14, e_57_15, e_57_16, e_57_17, e_57_18, e_57_21, e_57_22, e_57_23, e_57_24, e_57_25, e_57_26, e_57_29, e_57_30, e_57_31, e_57_34, Nat.reduceAdd, Option.bind_some, ft_0, ft_10, ft_11, rk_57, wg_18_1, wg_18_2, wg_18_3, wg_18_4, wr_21 hb, hsl, wr_20 hs14, hnu, ww_19 hb, ww_22 hb, vn0, n13, wg_18_12, h12, wp_18_12, if_true]
  · refine ⟨h0, h1, fun c hc => ?_, h3, h4, fun c hc => ?_, fun c d hc hd => ?_, h7, h8, h9, h10, h11, rfl, h13, h14, h15⟩
    · show upd (ar 10) b (x_nu X s) c = x_up (x_st X) b (x_says X b) c
      by_cases hcb : c = b
      · subst hcb
        rw [pk_us, xu_s, hsy]
      · rw [pk_un hcb, xu_n hcb]; exact h2 c hc
    · show upd (ar 13) b 0 c = x_b (x_up (x_dt X) b none c).isSome
      by_cases hcb : c = b
      · subst hcb
        rw [pk_us, xu_s]; rfl
      · rw [pk_un hcb, xu_n hcb]; exact h5 c hc
    · have hd : x_up (x_dt X) b none c = some d := hd
      unfold x_up at hd
      split at hd
      · cases hd
      · exact h6 c d hc hd
  · exact s_X_tr (s_X_ar (by omega) _) (s_X_tr (s_X_ar (by omega) _) (s_X_sc (by omega) _))
theorem r_bd_drain (h : r_bd X) (b : Nat) : r_bd (x_drain b X) := ⟨h.1, h.2.1, fun c d hd => by
  have hd : x_up (x_dt X) b none c = some d := hd
  unfold x_up at hd
  split at hd
  · cases hd
  · exact h.2.2.1 c d hd, h.2.2.2⟩
theorem m_drains_loop {e : Int32} {B : Nat} (he : ∀ d, d < 2 ^ 30 → (e ≤ nI d ↔ B ≤ d)) : ∀ (m n : Nat) (X : xs_T) (sc : Nat → Int32) (ar : Nat → Nat → Int32), r_m K sc ar X → r_bd X → (x_elig (x_dt X) B).length = m → ∃ sc' ar', ex_big S 58 8 [.inr 20, .inl e, .inl (nI n), .inl (e_o (x_first (x_dt X) B))] [] (mk_W N sc ar) 0 0 = some (some (nI (n + m)), mk_W N sc' ar') ∧ r_m K sc' ar' (x_drains B X) ∧ s_X sc ar sc' ar' := by
  intro m
  induction m with
  | zero =>
    intro n X sc ar hr hbd hm
    have hel : x_elig (x_dt X) B = [] := List.length_eq_zero_iff.mp hm
    have q : e_o (x_first (x_dt X) B) < 0 := by rw [x_first_none hel]; decide
    refine ⟨sc, ar, ?_, by rw [x_drains_nil hel]; exact hr, s_X_rf⟩
    rw [Nat.add_zero]
    rw [e_58_8]
    simp only [e_58_9, e_58_12, e_58_13, e_58_14, e_58_17, e_58_20, e_58_21, e_58_22, e_58_25, e_58_26, e_58_29, e_58_30, List.length_cons, List.length_nil, Nat.reduceAdd, Nat.reduceLeDiff, Nat.zero_le, Option.bind_some, ck_58_56, ck_58_57, rk_58, rl_n, rl_s, if_pos q]
  | succ m ih =>
    intro n X sc ar hr hbd hm
    cases hf : x_first (x_dt X) B with
    | none =>
      have := x_first_nil hf
      rw [this] at hm
      simp at hm
    | some b =>
      have hel := x_first_mem hf
      obtain ⟨hb16, d, g1, g2⟩ := x_elig_mem.mp hel
      obtain ⟨-, s, hs⟩ := hbd.2.2.1 b d g1
      obtain ⟨sc1, ar1, e2, r2, m2⟩ := m_drain (S := S) (N := N) hr hbd hs
      have hl := x_drains_len hel
      have e3 := m_firstBelow (S := S) (N := N) r2 (r_bd_drain hbd b) he
      obtain ⟨sc2, ar2, e4, r4, m4⟩ := ih (n + 1) (x_drain b X) sc1 ar1 r2 (r_bd_drain hbd b) (by omega)
      rw [x_drains_step hel] at r4
      have q : ¬ nI b < 0 := nI_pos (by omega)
      have q2 : e_o (some b) = nI b := rfl
      refine ⟨sc2, ar2, ?_, r4, s_X_tr m2 m4⟩
      rw [show n + (m + 1) = n + 1 + m by omega, e_58_8]
      simp only [e_58_9, e_58_12, e_58_13, e_58_14, e_58_17, e_58_20, e_58_21, e_58_22, e_58_25, e_58_26, List.length_cons, List.length_nil, Nat.reduceAdd, Nat.reduceLeDiff, Nat.zero_le, Option.bind_some, ck_58_56, ck_58_57, rl_n, rl_s, if_neg q, q2, wo_18, e2, e3, nI_1, e4]
theorem m_drains (hr : r_m K sc ar X) (hbd : r_bd X) {e : Int32} {B : Nat} (he : ∀ d, d < 2 ^ 30 → (e ≤ nI d ↔ B ≤ d)) : ∃ sc' ar', ex_big S 58 0 [.inr 20, .inl e, .inr 0, .inr 0] [] (mk_W N sc ar) 0 0 = some (some (nI (x_elig (x_dt X) B).length), mk_W N sc' ar') ∧ r_m K sc' ar' (x_drains B X) ∧ s_X sc ar sc' ar' := by
  have e1 := m_firstBelow (S := S) (N := N) hr hbd he
  obtain ⟨sc2, ar2, e3, r3, m3⟩ := m_drains_loop (S := S) (N := N) he _ 0 X sc ar hr hbd rfl
  rw [nI_0, Nat.zero_add] at e3
  refine ⟨sc2, ar2, ?_, r3, m3⟩
  simp only [e_58_0, e_58_1, e_58_2, e_58_3, e_58_4, e_58_7, List.length_cons, List.length_nil, Nat.reduceAdd, Nat.reduceLeDiff, Nat.zero_le, Option.bind_some, ck_58_56, rl_n, rl_s, wo_18, e1, e3]
/-! the reference's lists -/
theorem x_li_iff {L : Nat → List Nat} (hls : x_ls L) {b i : Nat} (hi : i < 4) : x_li L b = i + 1 ↔ b ∈ L i := by
  have dis : ∀ j, j ≠ i → b ∈ L i → b ∉ L j := fun j hj h1 h2 => hj (hls.2.2 j i b h2 h1)
  unfold x_li
  rcases (show i = 0 ∨ i = 1 ∨ i = 2 ∨ i = 3 by omega) with rfl | rfl | rfl | rfl
  · constructor
    · intro h
      split at h
      · assumption
      · repeat (split at h; omega)
        omega
    · intro h
      rw [if_pos h]
  · constructor
    · intro h
      split at h
      · omega
      · split at h
        · assumption
        · repeat (split at h; omega)
          omega
    · intro h
      rw [if_neg (dis 0 (by omega) h), if_pos h]
  · constructor
    · intro h
      split at h
      · omega
      · split at h
        · omega
        · split at h
          · assumption
          · repeat (split at h; omega)
            omega
    · intro h
      rw [if_neg (dis 0 (by omega) h), if_neg (dis 1 (by omega) h), if_pos h]
  · constructor
    · intro h
      split at h
      · omega
      · split at h
        · omega
        · split at h
          · omega
          · split at h
            · assumption
            · omega
    · intro h
      rw [if_neg (dis 0 (by omega) h), if_neg (dis 1 (by omega) h), if_neg (dis 2 (by omega) h), if_pos h]
theorem x_li_le (L : Nat → List Nat) (b : Nat) : x_li L b ≤ 4 := by
  unfold x_li
  split
  · omega
  · split
    · omega
    · split
      · omega
      · split
        · omega
        · omega
theorem x_li_eqI {L : Nat → List Nat} (hls : x_ls L) {b i : Nat} (hi : i < 4) : nI (x_li L b) = nI (i + 1) ↔ b ∈ L i := by
  have := x_li_le L b
  rw [nI_eq (by omega) (by omega)]
  exact x_li_iff hls hi
theorem x_li_cong {L L2 : Nat → List Nat} {b : Nat} (h : ∀ i, b ∈ L2 i ↔ b ∈ L i) : x_li L2 b = x_li L b := by
  unfold x_li
  simp only [h]
theorem x_li_none {L : Nat → List Nat} {b : Nat} (h : ∀ i, b ∉ L i) : x_li L b = 0 := by
  unfold x_li
  rw [if_neg (h 0), if_neg (h 1), if_neg (h 2), if_neg (h 3)]
theorem r_sn_comes {li si : Nat → Int32} (h : r_sn K li si (x_L X)) (hls : x_ls (x_L X)) {b i : Nat} (hb : b < 16) (hi : i < 4) : r_sn (K + 1) (upd li b (nI (i + 1))) (upd si b (nI K)) (x_L (x_comes b i X)) := by
  obtain ⟨t, h1, h2, h3⟩ := h
  have hls2 : x_ls (x_L (x_comes b i X)) := x_ls_comes hls hb hi
  refine ⟨x_up t b K, fun c hc => ?_, fun c hc hex => ?_, fun j hj => ?_⟩
  · by_cases hcb : c = b
    · subst hcb
      rw [pk_us, (x_li_iff hls2 hi).mpr (x_comes_mem.mpr (Or.inl ⟨rfl, rfl⟩))]
    · rw [pk_un hcb, h1 c hc]
      congr 1
      refine (x_li_cong fun j => ?_).symm
      rw [x_comes_mem]
      constructor
      · rintro (⟨e, -⟩ | ⟨-, e⟩)
        · exact absurd e hcb
        · exact e
      · intro e; exact Or.inr ⟨hcb, e⟩
  · by_cases hcb : c = b
    · subst hcb
      rw [pk_us, xu_s]
      exact ⟨rfl, by omega⟩
    · rw [pk_un hcb, xu_n hcb]
      obtain ⟨j, hj, hm⟩ := hex
      rcases x_comes_mem.mp hm with ⟨e, -⟩ | ⟨-, e⟩
      · exact absurd e hcb
      · have := h2 c hc ⟨j, hj, e⟩
        exact ⟨this.1, by omega⟩
  · have base : (x_rm b (x_L X j)).Pairwise (fun a c => x_up t b K a < x_up t b K c) := by
      have p1 : (x_rm b (x_L X j)).Pairwise (fun a c => t a < t c) := List.Pairwise.filter _ (h3 j hj)
      refine List.Pairwise.imp_of_mem ?_ p1
      intro a c ha hc hac
      rw [xu_n (x_rm_mem.mp ha).2, xu_n (x_rm_mem.mp hc).2]
      exact hac
    show (if j = i then x_rm b (x_L X j) ++ [b] else x_rm b (x_L X j)).Pairwise _
    split
    · refine List.pairwise_append.mpr ⟨base, by simp, fun a ha c hc => ?_⟩
      have : c = b := by simpa using hc
      subst this
      obtain ⟨q1, q2⟩ := x_rm_mem.mp ha
      rw [xu_n q2, xu_s]
      exact (h2 a (hls.2.1 j a q1).1 ⟨j, hj, q1⟩).2
    · exact base
theorem r_sn_forget {li si : Nat → Int32} (h : r_sn K li si (x_L X)) {b : Nat} : r_sn K (upd li b 0) si (x_L (x_forget b X)) := by
  obtain ⟨t, h1, h2, h3⟩ := h
  refine ⟨t, fun c hc => ?_, fun c hc hex => ?_, fun j hj => List.Pairwise.filter _ (h3 j hj)⟩
  · by_cases hcb : c = b
    · subst hcb
      rw [pk_us, x_li_none (L := x_L (x_forget c X)) (fun j q => (x_rm_mem.mp q).2 rfl), nI_0]
    · rw [pk_un hcb, h1 c hc]
      congr 1
      refine (x_li_cong fun j => ?_).symm
      show c ∈ x_rm b (x_L X j) ↔ _
      rw [x_rm_mem]
      exact ⟨fun e => e.1, fun e => ⟨e, hcb⟩⟩
  · obtain ⟨j, hj, hm⟩ := hex
    exact h2 c hc ⟨j, hj, (x_rm_mem.mp hm).1⟩
theorem r_sn_si {K K2 : Nat} {li si si2 : Nat → Int32} {L : Nat → List Nat} (h : r_sn K li si L) (hK : K ≤ K2) (hs : ∀ b, (∃ i, i < 4 ∧ b ∈ L i) → si2 b = si b) : r_sn K2 li si2 L := by
  obtain ⟨t, h1, h2, h3⟩ := h
  exact ⟨t, h1, fun b hb hex => ⟨by rw [hs b hex]; exact (h2 b hb hex).1, by have := (h2 b hb hex).2; omega⟩, h3⟩
theorem m_comes (hr : r_m K sc ar X) (hls : x_ls (x_L X)) {b i : Nat} (hb : b < 16) (hi : i < 4) : ∃ sc' ar', ex_big S 59 0 [.inr 20, .inl (nI b), .inl (nI (i + 1))] [] (mk_W N sc ar) 0 0 = some (none, mk_W N sc' ar') ∧ r_m (K + 1) sc' ar' (x_comes b i X) ∧ s_X sc ar sc' ar' := by
  obtain ⟨h0, h1, h2, h3, h4, h5, h6, h7, h8, h9, h10, h11, h12, h13, h14, h15⟩ := hr
  refine ⟨upd sc 10 (nI (K + 1)), x_up (x_up ar 15 (upd (ar 15) b (nI (i + 1)))) 16 (upd (ar 16) b (nI K)), ?_, ?_, ?_⟩
  · have n16 : x_up ar 15 (upd (ar 15) b (nI (i + 1))) 16 = ar 16 := rfl
    simp only [e_59_0, e_59_1, e_59_4, e_59_5, e_59_6, e_59_7, e_59_8, e_59_11, e_59_12, e_59_13, e_59_16, e_59_17, e_59_18, e_59_19, e_59_22, e_59_23, e_59_24, e_59_27, Nat.reduceAdd, Option.bind_some, ft_0, ft_10, ft_11, rk_59, wg_18_6, wg_18_7, wg_18_8, ww_24 hb, ww_25 hb, n16, h8, nI_1, wp_18_8, if_true]
  · exact ⟨h0, h1, h2, h3, h4, h5, h6, r_sn_comes h7 hls hb hi, rfl, h9, h10, h11, h12, h13, h14, h15⟩
  · exact s_X_tr (s_X_ar (by omega) _) (s_X_tr (s_X_ar (by omega) _) (s_X_sc (by omega) _))
theorem m_comes0 (hr : r_m K sc ar X) {b : Nat} (hb : b < 16) : ∃ sc' ar', ex_big S 59 0 [.inr 20, .inl (nI b), .inl 0] [] (mk_W N sc ar) 0 0 = some (none, mk_W N sc' ar') ∧ r_m (K + 1) sc' ar' (x_forget b X) ∧ s_X sc ar sc' ar' := by
  obtain ⟨h0, h1, h2, h3, h4, h5, h6, h7, h8, h9, h10, h11, h12, h13, h14, h15⟩ := hr
  refine ⟨upd sc 10 (nI (K + 1)), x_up (x_up ar 15 (upd (ar 15) b 0)) 16 (upd (ar 16) b (nI K)), ?_, ?_, ?_⟩
  · have n16 : x_up ar 15 (upd (ar 15) b 0) 16 = ar 16 := rfl
    simp only [e_59_0, e_59_1, e_59_4, e_59_5, e_59_6, e_59_7, e_59_8, e_59_11, e_59_12, e_59_13, e_59_16, e_59_17, e_59_18, e_59_19, e_59_22, e_59_23, e_59_24, e_59_27, Nat.reduceAdd, Option.bind_some, ft_0, ft_10, ft_11, rk_59, wg_18_6, wg_18_7, wg_18_8, ww_24 hb, ww_25 hb, n16, h8, nI_1, wp_18_8, if_true]
  · refine ⟨h0, h1, h2, h3, h4, h5, h6, r_sn_si (r_sn_forget h7) (by omega) (fun c hex => ?_), rfl, h9, h10, h11, h12, h13, h14, h15⟩
    obtain ⟨j, -, hm⟩ := hex
    exact pk_un (x_rm_mem.mp hm).2
  · exact s_X_tr (s_X_ar (by omega) _) (s_X_tr (s_X_ar (by omega) _) (s_X_sc (by omega) _))
end RM2
