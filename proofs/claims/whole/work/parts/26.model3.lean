/-! the reference: sizes and places in its lists; giving up -/
section RM3
variable {K N : Nat} {sc : Nat → Int32} {ar : Nat → Nat → Int32} {X : xs_T} {S : ex_S}
def q_sz (f : Nat → Int32) (v : Int32) (k : Nat) : Nat := ((List.range k).filter (fun b => f b == v)).length
theorem q_sz_s (f : Nat → Int32) (v : Int32) (k : Nat) : q_sz f v (k + 1) = q_sz f v k + (if f k = v then 1 else 0) := by
  unfold q_sz
  rw [List.range_succ, List.filter_append, List.length_append]
  congr 1
  by_cases h : f k = v
  · simp [h]
  · simp [h]
theorem m_sizeOf_loop (v : Int32) : ∀ d k, 16 - k = d → k ≤ 16 → ex_big S 60 4 [.inr 20, .inl v, .inl (nI (q_sz (ar 15) v k)), .inl (nI k)] [] (mk_W N sc ar) 0 0 = some (some (nI (q_sz (ar 15) v 16)), mk_W N sc ar) := by
  intro d
  induction d with
  | zero =>
    intro k hd hk
    have hk16 : k = 16 := by omega
    subst hk16
    have h3 : (16 : Int32) ≤ nI 16 := by decide
    rw [e_60_4]
    simp only [e_60_5, e_60_7, e_60_10, e_60_11, e_60_14, e_60_15, e_60_16, e_60_17, e_60_20, e_60_21, e_60_22, e_60_23, e_60_26, e_60_27, e_60_28, e_60_31, e_60_34, e_60_35, Nat.reduceAdd, Option.bind_some, rk_60, if_pos h3]
  | succ d ih =>
    intro k hd hk
    have hlt : k < 16 := by omega
    have h3 : ¬ (16 : Int32) ≤ nI k := nI_ge (a := k) (b := 16) hlt (by omega)
    have ihk := ih (k + 1) (by omega) (by omega)
    rw [q_sz_s] at ihk
    rw [e_60_4]
    by_cases hg : ar 15 k = v
    · rw [if_pos hg] at ihk
      simp only [e_60_5, e_60_7, e_60_10, e_60_11, e_60_14, e_60_15, e_60_16, e_60_17, e_60_20, e_60_21, e_60_22, e_60_23, e_60_26, e_60_27, e_60_28, e_60_31, Nat.reduceAdd, Option.bind_some, if_neg h3, wg_18_6, wr_24 hlt, if_pos hg, nI_1, ihk]
    · rw [if_neg hg, Nat.add_zero (q_sz (ar 15) v k)] at ihk
      simp only [e_60_5, e_60_7, e_60_10, e_60_11, e_60_14, e_60_15, e_60_16, e_60_17, e_60_20, e_60_21, e_60_22, e_60_23, e_60_26, e_60_27, e_60_28, e_60_31, Nat.reduceAdd, Option.bind_some, if_neg h3, wg_18_6, wr_24 hlt, if_neg hg, nI_1, ihk]
theorem q_sz_eq (h : r_sn K (ar 15) (ar 16) (x_L X)) (hls : x_ls (x_L X)) {i : Nat} (hi : i < 4) : q_sz (ar 15) (nI (i + 1)) 16 = (x_L X i).length := by
  obtain ⟨t, h1, h2, h3⟩ := h
  unfold q_sz
  refine xl_eq (List.Pairwise.filter _ List.nodup_range) (hls.1 i) fun b => ?_
  rw [List.mem_filter, List.mem_range]
  constructor
  · rintro ⟨hb, he⟩
    have he : ar 15 b = nI (i + 1) := by simpa using he
    rw [h1 b hb] at he
    exact (x_li_eqI hls hi).mp he
  · intro hb
    have hb16 := (hls.2.1 i b hb).1
    refine ⟨hb16, ?_⟩
    have : ar 15 b = nI (i + 1) := by rw [h1 b hb16]; exact (x_li_eqI hls hi).mpr hb
    simpa using this
theorem m_sizeOf (hr : r_m K sc ar X) (hls : x_ls (x_L X)) {i : Nat} (hi : i < 4) : ex_big S 60 0 [.inr 20, .inl (nI (i + 1)), .inr 0, .inr 0] [] (mk_W N sc ar) 0 0 = some (some (nI (x_L X i).length), mk_W N sc ar) := by
  have e := m_sizeOf_loop (S := S) (N := N) (sc := sc) (ar := ar) (nI (i + 1)) 16 0 (by omega) (by omega)
  have e0 : q_sz (ar 15) (nI (i + 1)) 0 = 0 := rfl
  rw [e0, nI_0, q_sz_eq hr.2.2.2.2.2.2.2.1 hls hi] at e
  simp only [e_60_0, e_60_1, e_60_2, e_60_3, Nat.reduceAdd, e]
/-- how many of the list came before -/
def q_bf (f g : Nat → Int32) (v x : Int32) (k : Nat) : Nat := ((List.range k).filter (fun c => f c == v && decide (g c < x))).length
theorem q_bf_s (f g : Nat → Int32) (v x : Int32) (k : Nat) : q_bf f g v x (k + 1) = q_bf f g v x k + (if f k = v ∧ g k < x then 1 else 0) := by
  unfold q_bf
  rw [List.range_succ, List.filter_append, List.length_append]
  congr 1
  by_cases h : f k = v
  · by_cases h2 : g k < x
    · simp [h, h2]
    · simp [h, h2]
  · simp [h]
theorem q_bf_le (f g : Nat → Int32) (v x : Int32) (k : Nat) : q_bf f g v x k ≤ k := by
  unfold q_bf
  have := List.length_filter_le (fun c => f c == v && decide (g c < x)) (List.range k)
  rw [List.length_range] at this
  exact this
theorem m_nth_in {v kk : Int32} {b : Nat} (hb : b < 16) {R : Option ex_R} (hR : ex_big S 61 65 [.inr 20, .inl v, .inl kk, .inl (nI b), .inl (nI (q_bf (ar 15) (ar 16) v (ar 16 b) 16)), .inl (nI 16)] [] (mk_W N sc ar) 0 0 = R) : ∀ d c, 16 - c = d → c ≤ 16 → ex_big S 61 14 [.inr 20, .inl v, .inl kk, .inl (nI b), .inl (nI (q_bf (ar 15) (ar 16) v (ar 16 b) c)), .inl (nI c)] [] (mk_W N sc ar) 0 0 = R := by
  intro d
  induction d with
  | zero =>
    intro c hd hc
    have hc16 : c = 16 := by omega
    subst hc16
    have h3 : (16 : Int32) ≤ nI 16 := by decide
    rw [e_61_14]
    simp only [e_61_16, e_61_18, Nat.reduceAdd, if_pos h3, hR]
  | succ d ih =>
    intro c hd hc
    have hlt : c < 16 := by omega
    have h3 : ¬ (16 : Int32) ≤ nI c := nI_ge (a := c) (b := 16) hlt (by omega)
    have ihk := ih (c + 1) (by omega) (by omega)
    rw [q_bf_s] at ihk
    rw [e_61_14]
    by_cases hg : ar 15 c = v
    · by_cases hg2 : ar 16 c < ar 16 b
      · have hg3 : ¬ ar 16 b ≤ ar 16 c := fun q => Int32.lt_irrefl (Int32.lt_of_lt_of_le hg2 q)
        rw [if_pos ⟨hg, hg2⟩] at ihk
        simp only [e_61_16, e_61_18, e_61_21, e_61_22, e_61_25, e_61_27, e_61_28, e_61_29, e_61_32, e_61_33, e_61_36, e_61_38, e_61_39, e_61_40, e_61_43, e_61_44, e_61_45, e_61_48, e_61_50, e_61_51, e_61_52, e_61_55, e_61_57, e_61_59, e_61_62, Nat.reduceAdd, Option.bind_some, if_neg h3, wg_18_6, wg_18_7, wr_24 hlt, wr_25 hlt, wr_25 hb, if_pos hg, if_neg hg3, nI_1, ihk]
      · have hg3 : ar 16 b ≤ ar 16 c := Int32.not_lt.mp hg2
        rw [if_neg (fun z => hg2 z.2), Nat.add_zero (q_bf (ar 15) (ar 16) v (ar 16 b) c)] at ihk
        simp only [e_61_16, e_61_18, e_61_21, e_61_22, e_61_25, e_61_27, e_61_28, e_61_29, e_61_32, e_61_33, e_61_36, e_61_38, e_61_39, e_61_40, e_61_43, e_61_44, e_61_45, e_61_48, e_61_50, e_61_51, e_61_52, e_61_55, e_61_57, e_61_59, e_61_62, Nat.reduceAdd, Option.bind_some, if_neg h3, wg_18_6, wg_18_7, wr_24 hlt, wr_25 hlt, wr_25 hb, if_pos hg, if_pos hg3, nI_1, ihk]
    · rw [if_neg (fun z => hg z.1), Nat.add_zero (q_bf (ar 15) (ar 16) v (ar 16 b) c)] at ihk
      simp only [e_61_16, e_61_18, e_61_21, e_61_22, e_61_25, e_61_27, e_61_28, e_61_29, e_61_32, e_61_33, e_61_36, e_61_38, e_61_39, e_61_40, e_61_43, e_61_44, e_61_45, e_61_48, e_61_50, e_61_51, e_61_52, e_61_55, e_61_57, e_61_59, e_61_62, Nat.reduceAdd, Option.bind_some, if_neg h3, wg_18_6, wr_24 hlt, if_neg hg, nI_1, ihk]
theorem x_take_mem {l : List Nat} {t : Nat → Nat} (hp : l.Pairwise (fun a b => t a < t b)) {j b x : Nat} (hb : l[j]? = some b) : x ∈ l.take j ↔ x ∈ l ∧ t x < t b := by
  obtain ⟨hj, hjb⟩ := List.getElem?_eq_some_iff.mp hb
  rw [List.pairwise_iff_getElem] at hp
  constructor
  · intro hx
    obtain ⟨m, hm, rfl⟩ := List.mem_take_iff_getElem.mp hx
    have hmj : m < j := by omega
    refine ⟨List.getElem_mem _, ?_⟩
    rw [← hjb]
    exact hp m j (by omega) hj hmj
  · rintro ⟨hx, hlt⟩
    obtain ⟨m, hm, rfl⟩ := List.mem_iff_getElem.mp hx
    have hmj : m < j := by
      apply Classical.byContradiction
      intro hn
      by_cases he : m = j
      · subst he
        rw [← hjb] at hlt
        omega
      · have := hp j m hj hm (by omega)
        rw [hjb] at this
        omega
    exact List.mem_take_iff_getElem.mpr ⟨m, by omega, rfl⟩
theorem q_bf_pos (h : r_sn K (ar 15) (ar 16) (x_L X)) (hls : x_ls (x_L X)) (hK : K < 2 ^ 30) {i j b : Nat} (hi : i < 4) (hb : (x_L X i)[j]? = some b) : q_bf (ar 15) (ar 16) (nI (i + 1)) (ar 16 b) 16 = j := by
  obtain ⟨t, h1, h2, h3⟩ := h
  have hbm := List.mem_of_getElem? hb
  have hb16 := (hls.2.1 i b hbm).1
  obtain ⟨g1, g2⟩ := h2 b hb16 ⟨i, hi, hbm⟩
  have hj := (List.getElem?_eq_some_iff.mp hb).1
  have hlen : ((x_L X i).take j).length = j := by rw [List.length_take]; omega
  rw [← hlen]
  unfold q_bf
  refine xl_eq (List.Pairwise.filter _ List.nodup_range) (List.Pairwise.sublist (List.take_sublist _ _) (hls.1 i)) fun x => ?_
  rw [x_take_mem (h3 i hi) hb, List.mem_filter, List.mem_range]
  constructor
  · rintro ⟨hx, he⟩
    have he : ar 15 x = nI (i + 1) ∧ ar 16 x < ar 16 b := by simpa using he
    rw [h1 x hx] at he
    have hm := (x_li_eqI hls hi).mp he.1
    obtain ⟨k1, k2⟩ := h2 x hx ⟨i, hi, hm⟩
    have := he.2
    rw [k1, g1, nI_ltI (by omega) (by omega)] at this
    exact ⟨hm, this⟩
  · rintro ⟨hm, hlt⟩
    have hx := (hls.2.1 i x hm).1
    obtain ⟨k1, k2⟩ := h2 x hx ⟨i, hi, hm⟩
    refine ⟨hx, ?_⟩
    have q1 : ar 15 x = nI (i + 1) := by rw [h1 x hx]; exact (x_li_eqI hls hi).mpr hm
    have q2 : ar 16 x < ar 16 b := by rw [k1, g1]; exact nI_lt hlt (by omega)
    simp [q1, q2]
theorem m_nth_loop (hr : r_m K sc ar X) (hls : x_ls (x_L X)) (hK : K < 2 ^ 30) {i : Nat} (hi : i < 4) (hL16 : (x_L X i).length ≤ 16) (kk : Int32) : ∀ d b, 16 - b = d → b ≤ 16 → (∀ c, c < b → ∀ j, (x_L X i)[j]? = some c → kk ≠ nI j) → ∀ l4 l5 : ex_V, ex_big S 61 2 [.inr 20, .inl (nI (i + 1)), .inl kk, .inl (nI b), l4, l5] [] (mk_W N sc ar) 0 0 = some (some (x_at (x_L X i) kk), mk_W N sc ar) := by
  have hsn := hr.2.2.2.2.2.2.2.1
  intro d
  induction d with
  | zero =>
    intro b hd hb hno l4 l5
    have hb16 : b = 16 := by omega
    subst hb16
    have h3 : (16 : Int32) ≤ nI 16 := by decide
    have q : x_at (x_L X i) kk = -1 := by
      unfold x_at
      by_cases hc : kk < 0 ∨ nI (x_L X i).length ≤ kk
      · rw [if_pos hc]
      · exfalso
        rcases pk_ix kk (n := (x_L X i).length) (by omega) with g | g | ⟨j, hj, rfl⟩
        · exact hc (Or.inl g)
        · exact hc (Or.inr g)
        · have he := List.getElem?_eq_getElem hj
          exact hno _ (hls.2.1 i _ (List.getElem_mem hj)).1 j he rfl
    rw [q, e_61_2]
    simp only [e_61_3, e_61_5, Nat.reduceAdd, e_61_89, e_61_90, Nat.reduceAdd, rk_61, if_pos h3]
  | succ d ih =>
    intro b hd hb hno l4 l5
    have hlt : b < 16 := by omega
    have h3 : ¬ (16 : Int32) ≤ nI b := nI_ge (a := b) (b := 16) hlt (by omega)
    have hli : ar 15 b = nI (x_li (x_L X) b) := by
      obtain ⟨t, h1, -, -⟩ := hsn
      exact h1 b hlt
    have inner : ∀ R, ex_big S 61 65 [.inr 20, .inl (nI (i + 1)), .inl kk, .inl (nI b), .inl (nI (q_bf (ar 15) (ar 16) (nI (i + 1)) (ar 16 b) 16)), .inl (nI 16)] [] (mk_W N sc ar) 0 0 = R → ex_big S 61 14 [.inr 20, .inl (nI (i + 1)), .inl kk, .inl (nI b), .inl 0, .inl 0] [] (mk_W N sc ar) 0 0 = R := by
      intro R hR
      have e := m_nth_in (S := S) (N := N) (sc := sc) (ar := ar) hlt hR 16 0 (by omega) (by omega)
      have e0 : q_bf (ar 15) (ar 16) (nI (i + 1)) (ar 16 b) 0 = 0 := rfl
      rw [e0, nI_0] at e
      exact e
    rw [e_61_2]
    by_cases hm : b ∈ x_L X i
    · obtain ⟨j, hj⟩ := List.getElem?_of_mem hm
      have hpos := q_bf_pos hsn hls hK hi hj
      have hjlt := (List.getElem?_eq_some_iff.mp hj).1
      have g1 : ar 15 b = nI (i + 1) := by rw [hli]; exact (x_li_eqI hls hi).mpr hm
      by_cases hk : kk = nI j
      · have q : x_at (x_L X i) kk = nI b := by
          unfold x_at
          have hn : ¬ (kk < 0 ∨ nI (x_L X i).length ≤ kk) := by
            rw [hk]
            rintro (z | z)
            · exact nI_pos (by omega) z
            · exact nI_ge hjlt (by omega) z
          rw [if_neg hn, hk, nI_clamp (by omega)]
          congr 1
          rw [List.getD_eq_getElem?_getD, hj]
          rfl
        have g2 : nI j = kk := hk.symm
        have e1 := inner (some (some (nI b), mk_W N sc ar)) (by
          rw [hpos]
          simp only [e_61_65, e_61_66, e_61_69, e_61_70, e_61_71, e_61_72, e_61_75, e_61_77, e_61_78, e_61_81, e_61_82, Nat.reduceAdd, Option.bind_some, rk_61, wg_18_6, wr_24 hlt, if_pos g1, if_pos g2])
        rw [q]
        simp only [e_61_3, e_61_5, e_61_8, e_61_9, e_61_11, e_61_12, Nat.reduceAdd, if_neg h3, e1]
      · have g2 : ¬ nI j = kk := fun z => hk z.symm
        have ihk := ih (b + 1) (by omega) (by omega) (fun c hc j2 hj2 => by
          by_cases hcb : c = b
          · subst hcb
            have q2 := q_bf_pos hsn hls hK hi hj2
            rw [hpos] at q2
            rw [← q2]; exact hk
          · exact hno c (by omega) j2 hj2)
        have e1 := inner (some (some (x_at (x_L X i) kk), mk_W N sc ar)) (by
          rw [hpos]
          simp only [e_61_65, e_61_66, e_61_69, e_61_70, e_61_71, e_61_72, e_61_75, e_61_77, e_61_78, Nat.reduceAdd, Option.bind_some, e_61_83, e_61_86, Nat.reduceAdd, wg_18_6, wr_24 hlt, if_pos g1, if_neg g2, nI_1, ihk])
        simp only [e_61_3, e_61_5, e_61_8, e_61_9, e_61_11, e_61_12, Nat.reduceAdd, if_neg h3, e1]
    · have g1 : ¬ ar 15 b = nI (i + 1) := fun z => hm ((x_li_eqI hls hi).mp (hli.symm.trans z))
      have ihk := ih (b + 1) (by omega) (by omega) (fun c hc j2 hj2 => by
        by_cases hcb : c = b
        · subst hcb
          exact absurd (List.mem_of_getElem? hj2) hm
        · exact hno c (by omega) j2 hj2)
      have e1 := inner (some (some (x_at (x_L X i) kk), mk_W N sc ar)) (by
        simp only [e_61_65, e_61_66, e_61_69, e_61_70, e_61_71, e_61_72, Nat.reduceAdd, Option.bind_some, e_61_83, e_61_86, Nat.reduceAdd, wg_18_6, wr_24 hlt, if_neg g1, nI_1, ihk])
      simp only [e_61_3, e_61_5, e_61_8, e_61_9, e_61_11, e_61_12, Nat.reduceAdd, if_neg h3, e1]
theorem x_len16 {L : Nat → List Nat} (hls : x_ls L) (i : Nat) : (L i).length ≤ 16 := by
  have := xl_le _ (List.range 16) (hls.1 i) (fun a ha => List.mem_range.mpr (hls.2.1 i a ha).1)
  rw [List.length_range] at this
  exact this
theorem m_nth (hr : r_m K sc ar X) (hls : x_ls (x_L X)) (hK : K < 2 ^ 30) {i : Nat} (hi : i < 4) (kk : Int32) : ex_big S 61 0 [.inr 20, .inl (nI (i + 1)), .inl kk, .inr 0, .inr 0, .inr 0] [] (mk_W N sc ar) 0 0 = some (some (x_at (x_L X i) kk), mk_W N sc ar) := by
  have e := m_nth_loop (S := S) (N := N) hr hls hK hi (x_len16 hls i) kk 16 0 (by omega) (by omega) (fun c hc => absurd hc (Nat.not_lt_zero c)) (.inr 0) (.inr 0)
  rw [nI_0] at e
  simp only [e_61_0, e_61_1, Nat.reduceAdd, e]
theorem x_at_0 {l : List Nat} (hp : 0 < l.length) (h16 : l.length ≤ 16) : x_at l 0 = nI (l.headD 0) := by
  unfold x_at
  have h1 : ¬ ((0 : Int32) < 0 ∨ nI l.length ≤ 0) := by
    rintro (z | z)
    · exact Int32.lt_irrefl z
    · exact nI_nle hp (by omega) z
  rw [if_neg h1]
  cases l with
  | nil => simp at hp
  | cons a t => rfl
theorem x_at_0n : x_at [] 0 = -1 := by decide
theorem r_m_un (hr : r_m K sc ar X) {b : Nat} (hd : x_dt X b = none) : r_m K sc (x_up ar 12 (upd (ar 12) b (-1))) (x_unhold b X) := by
  obtain ⟨h0, h1, h2, h3, h4, h5, h6, h7, h8, h9, h10, h11, h12, h13, h14, h15⟩ := hr
  have hdd : x_up (x_dt X) b none = x_dt X := by rw [← hd, xu_id]
  refine ⟨h0, h1, h2, h3, fun c hc => ?_, fun c hc => ?_, fun c d hc hq => ?_, h7, h8, h9, h10, h11, h12, h13, h14, h15⟩
  · show upd (ar 12) b (-1) c = e_o (x_up (x_sl X) b none c)
    by_cases hcb : c = b
    · subst hcb
      rw [pk_us, xu_s]; rfl
    · rw [pk_un hcb, xu_n hcb]; exact h4 c hc
  · show ar 13 c = x_b (x_up (x_dt X) b none c).isSome
    rw [hdd]; exact h5 c hc
  · have hq : x_up (x_dt X) b none c = some d := hq
    rw [hdd] at hq
    exact h6 c d hc hq
/-- giving up, ahead of the list -/
theorem m_give (hr : r_m K sc ar X) (hbd : r_bd X) {b s : Nat} (hs : x_sl X b = some s) (hE : x_ep X < 2 ^ 29) (l1 l2 : ex_V) : ∃ sc' ar', r_m K sc' ar' (x_give b X) ∧ s_X sc ar sc' ar' ∧ ∃ l4 : ex_V, ex_big S 62 12 [.inr 20, l1, l2, .inl (nI b), .inr 0] [] (mk_W N sc ar) 0 0 = ex_big S 62 70 [.inr 20, l1, l2, .inl (nI b), l4] [] (mk_W N sc' ar') 0 0 := by
  have hb := (hbd.1 b s hs).1
  have h13 := hr.2.2.2.2.2.1 b hb
  have h14 := hr.2.2.2.2.2.2.1
  have hep : sc 12 = nI (x_ep X) := hr.2.2.2.2.2.2.2.2.2.2.1
  have z10 : ¬ (1 : Int32) = 0 := by decide
  cases hd : x_dt X b with
  | none =>
    have g1 : ar 13 b = 0 := by rw [h13, hd]; rfl
    have hg : x_give b X = x_unhold b X := by unfold x_give x_give0; rw [hd]
    refine ⟨sc, _, by rw [hg]; exact r_m_un hr hd, s_X_ar (by omega) _, .inr 0, ?_⟩
    simp only [e_62_12, e_62_13, e_62_16, e_62_17, e_62_18, e_62_21, e_62_22, e_62_25, e_62_26, e_62_27, e_62_28, e_62_31, e_62_34, e_62_35, e_62_38, e_62_40, e_62_41, e_62_44, e_62_45, e_62_46, e_62_49, e_62_50, e_62_51, e_62_54, e_62_55, e_62_56, e_62_57, e_62_58, e_62_61, e_62_63, e_62_64, e_62_67, e_62_68, e_62_69, List.length_cons, List.length_nil, Nat.reduceAdd, Nat.reduceLeDiff, Nat.zero_le, Option.bind_some, ck_62_54, ck_62_58, rl_n, rl_s, wg_18_4, wr_22 hb, g1, if_true, wg_18_3, ww_21 hb]
  | some d =>
    have g1 : ar 13 b = 1 := by rw [h13, hd]; rfl
    have g2 : ar 14 b = nI d := h14 b d hb hd
    have hd30 := (hbd.2.2.1 b d hd).1
    have heD : ∀ x, x < 2 ^ 30 → (nI (d + 1) ≤ nI x ↔ d + 1 ≤ x) := fun x hx => nI_leI (by omega) (by omega)
    have hmem : b ∈ x_elig (x_dt X) (d + 1) := x_elig_mem.mpr ⟨hb, d, hd, by omega⟩
    by_cases hde : d = x_ep X
    · have hg : x_give b X = x_unhold b (x_drains (d + 1) (x_flush X)) := by unfold x_give x_give0; rw [hd]; simp only [if_pos hde]
      obtain ⟨sc1, ar1, e2, r2, m2⟩ := m_flushed (S := S) (N := N) hr
      have k1 : ar1 13 b = 1 := by rw [r2.2.2.2.2.2.1 b hb, x_flush_dt, hd]; rfl
      have k2 : ar1 14 b = nI d := r2.2.2.2.2.2.2.1 b d hb hd
      obtain ⟨sc2, ar2, e3, r3, m3⟩ := m_drains (S := S) (N := N) r2 (r_bd_flush hbd) heD
      have hdn : x_dt (x_drains (d + 1) (x_flush X)) b = none := if_pos hmem
      have q4 : nI d = nI (x_ep X) := by rw [hde]
      refine ⟨sc2, _, by rw [hg]; exact r_m_un r3 hdn, s_X_tr m2 (s_X_tr m3 (s_X_ar (by omega) _)), .inl (nI (x_elig (x_dt (x_flush X)) (d + 1)).length), ?_⟩
      · simp only [e_62_12, e_62_13, e_62_16, e_62_17, e_62_18, e_62_21, e_62_22, e_62_25, e_62_26, e_62_27, e_62_28, e_62_31, e_62_34, e_62_35, e_62_38, e_62_40, e_62_41, e_62_44, e_62_45, e_62_46, e_62_49, e_62_50, e_62_51, e_62_54, e_62_55, e_62_56, e_62_57, e_62_58, e_62_61, e_62_63, e_62_64, e_62_67, e_62_68, e_62_69, List.length_cons, List.length_nil, Nat.reduceAdd, Nat.reduceLeDiff, Nat.zero_le, Option.bind_some, ck_62_54, ck_62_58, rl_n, rl_s, wg_18_4, wg_18_5, wg_18_10, wr_22 hb, wr_23 hb, g1, g2, k1, k2, if_neg z10, hep, if_pos q4, wo_18, e2, nI_1, e3, wg_18_3, ww_21 hb]
    · have hg : x_give b X = x_unhold b (x_drains (d + 1) X) := by unfold x_give x_give0; rw [hd]; simp only [if_neg hde]
      obtain ⟨sc2, ar2, e3, r3, m3⟩ := m_drains (S := S) (N := N) hr hbd heD
      have hdn : x_dt (x_drains (d + 1) X) b = none := if_pos hmem
      have q4 : ¬ nI d = nI (x_ep X) := fun q => hde ((nI_eq (by omega) (by omega)).mp q)
      refine ⟨sc2, _, by rw [hg]; exact r_m_un r3 hdn, s_X_tr m3 (s_X_ar (by omega) _), .inl (nI (x_elig (x_dt X) (d + 1)).length), ?_⟩
      · simp only [e_62_12, e_62_13, e_62_16, e_62_17, e_62_18, e_62_21, e_62_22, e_62_25, e_62_26, e_62_27, e_62_28, e_62_31, e_62_34, e_62_35, e_62_38, e_62_40, e_62_41, e_62_44, e_62_45, e_62_46, e_62_49, e_62_50, e_62_51, e_62_54, e_62_55, e_62_56, e_62_57, e_62_58, e_62_61, e_62_63, e_62_64, e_62_67, e_62_68, e_62_69, List.length_cons, List.length_nil, Nat.reduceAdd, Nat.reduceLeDiff, Nat.zero_le, Option.bind_some, ck_62_54, ck_62_58, rl_n, rl_s, wg_18_4, wg_18_5, wg_18_10, wr_22 hb, wr_23 hb, g1, g2, if_neg z10, hep, if_neg q4, wo_18, nI_1, e3, wg_18_3, ww_21 hb]
end RM3
