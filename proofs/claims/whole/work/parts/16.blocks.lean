/-! a list of blocks in an array -/
def r_ls (f : Nat → Int32) (n : Int32) (l : List Nat) : Prop := n = nI l.length ∧ l.length ≤ 16 ∧ (∀ j b, l[j]? = some b → f j = nI b) ∧ ∀ b ∈ l, b < 16
section BLK
variable {S : ex_S} {N : Nat} {sc : Nat → Int32} {ar : Nat → Nat → Int32} {i : Nat} {l : List Nat}
theorem sm_size (hi : i < 4) : ex_big S 1 0 [.inr (2 * i + 11)] [] (mk_W N sc ar) 0 0 = some (some (sc (i + 5)), mk_W N sc ar) := by
  simp only [e_1_0, e_1_1, e_1_4, Nat.reduceAdd, Option.bind_some, rk_1, bl_g1 hi]
/-- at a place of the list -/
theorem sm_at_in (hi : i < 4) (hl : r_ls (ar (i + 6)) (sc (i + 5)) l) {k b : Nat} (hk : l[k]? = some b) : ex_big S 2 0 [.inr (2 * i + 11), .inl (nI k)] [] (mk_W N sc ar) 0 0 = some (some (nI b), mk_W N sc ar) := by
  have hlt : k < l.length := (List.getElem?_eq_some_iff.mp hk).1
  have hL := hl.2.1
  have h1 : ¬ nI k < 0 := nI_pos (by omega)
  have h2 : ¬ nI l.length ≤ nI k := nI_ge hlt (by omega)
  simp only [e_2_0, e_2_1, e_2_4, e_2_5, e_2_6, e_2_9, e_2_12, e_2_13, e_2_16, e_2_17, e_2_18, e_2_21, e_2_22, Nat.reduceAdd, Option.bind_some, rk_2, bl_g1 hi, bl_g0 hi, hl.1, if_neg h1, if_neg h2, bl_rd hi (show k < 16 by omega), hl.2.2.1 k b hk]
theorem sm_at_out (hi : i < 4) (hl : r_ls (ar (i + 6)) (sc (i + 5)) l) {x : Int32} (hx : x < 0 ∨ nI l.length ≤ x) : ex_big S 2 0 [.inr (2 * i + 11), .inl x] [] (mk_W N sc ar) 0 0 = some (some (-1), mk_W N sc ar) := by
  by_cases h1 : x < 0
  · simp only [e_2_0, e_2_1, e_2_4, e_2_5, e_2_6, e_2_9, e_2_12, e_2_13, e_2_16, e_2_17, e_2_18, e_2_21, e_2_22, Nat.reduceAdd, Option.bind_some, rk_2, if_pos h1]
  · have h2 : nI l.length ≤ x := hx.resolve_left h1
    simp only [e_2_0, e_2_1, e_2_4, e_2_5, e_2_6, e_2_9, e_2_12, e_2_13, e_2_16, e_2_17, e_2_18, e_2_21, e_2_22, Nat.reduceAdd, Option.bind_some, rk_2, bl_g1 hi, hl.1, if_neg h1, if_pos h2]
/-- is this number that of a block of the list? -/
def x_any (l : List Nat) (b : Int32) : Bool := l.any (fun c => nI c == b)
theorem x_any_iff {l : List Nat} (hl : ∀ b ∈ l, b < 16) {b : Nat} (hb : b < 16) : (x_any l (nI b) = true) ↔ b ∈ l := by
  unfold x_any
  rw [List.any_eq_true]
  constructor
  · rintro ⟨c, hc, he⟩
    have he : nI c = nI b := by simpa using he
    have h1 := hl c hc
    rw [(nI_eq (by omega) (by omega)).mp he] at hc
    exact hc
  · intro h
    exact ⟨b, h, by simp⟩
theorem x_drop_cons {l : List Nat} {k c : Nat} (hc : l[k]? = some c) : l.drop k = c :: l.drop (k + 1) := by
  obtain ⟨hlt, he⟩ := List.getElem?_eq_some_iff.mp hc
  rw [List.drop_eq_getElem_cons hlt, he]
theorem sm_has_loop (hi : i < 4) (hl : r_ls (ar (i + 6)) (sc (i + 5)) l) (b : Int32) : ∀ d k, l.length - k = d → k ≤ l.length → ex_big S 3 2 [.inr (2 * i + 11), .inl b, .inl (nI k)] [] (mk_W N sc ar) 0 0 = some (some (if x_any (l.drop k) b = true then 1 else 0), mk_W N sc ar) := by
  have hL := hl.2.1
  intro d
  induction d with
  | zero =>
    intro k hd hk
    have h2 : nI l.length ≤ nI k := nI_le (by omega) (by omega)
    have h3 : l.drop k = [] := List.drop_eq_nil_of_le (by omega)
    simp only [e_3_0, e_3_1, e_3_2, e_3_3, e_3_4, e_3_7, e_3_10, e_3_11, e_3_14, e_3_15, e_3_16, e_3_17, e_3_20, e_3_21, e_3_22, e_3_25, e_3_28, e_3_29, Nat.reduceAdd, Option.bind_some, false_or, or_false, or_true, rk_3, true_or, bl_g1 hi, hl.1, if_pos h2]
    rw [h3]
    rfl
  | succ d ih =>
    intro k hd hk
    have hlt : k < l.length := by omega
    have h2 : ¬ nI l.length ≤ nI k := nI_ge hlt (by omega)
    obtain ⟨c, hc⟩ : ∃ c, l[k]? = some c := ⟨_, List.getElem?_eq_getElem hlt⟩
    have h3 := x_drop_cons hc
    have h4 := hl.2.2.1 k c hc
    have ihk := ih (k + 1) (by omega) (by omega)
    rw [e_3_2]
    by_cases hb : nI c = b
    · simp only [e_3_3, e_3_4, e_3_7, e_3_10, e_3_11, e_3_14, e_3_15, e_3_16, e_3_17, e_3_20, e_3_21, e_3_22, e_3_25, e_3_28, e_3_29, Nat.reduceAdd, Option.bind_some, false_or, or_false, or_true, rk_3, true_or, bl_g1 hi, bl_g0 hi, hl.1, if_neg h2, bl_rd hi (show k < 16 by omega), h4, if_pos hb]
      rw [h3]
      simp [x_any, hb]
    · simp only [e_3_3, e_3_4, e_3_7, e_3_10, e_3_11, e_3_14, e_3_15, e_3_16, e_3_17, e_3_20, e_3_21, e_3_22, e_3_25, e_3_28, e_3_29, Nat.reduceAdd, Option.bind_some, false_or, or_false, or_true, rk_3, true_or, bl_g1 hi, bl_g0 hi, hl.1, if_neg h2, bl_rd hi (show k < 16 by omega), h4, if_neg hb, nI_1, ihk]
      rw [h3]
      simp [x_any, hb]
theorem sm_has (hi : i < 4) (hl : r_ls (ar (i + 6)) (sc (i + 5)) l) (b : Int32) : ex_big S 3 0 [.inr (2 * i + 11), .inl b, .inr 0] [] (mk_W N sc ar) 0 0 = some (some (if x_any l b = true then 1 else 0), mk_W N sc ar) := by
  have h := sm_has_loop (S := S) (N := N) hi hl b l.length 0 (by omega) (by omega)
  rw [nI_0] at h
  simp only [e_3_0, e_3_1, Nat.reduceAdd, h, List.drop_zero]
theorem sm_add (hi : i < 4) (hl : r_ls (ar (i + 6)) (sc (i + 5)) l) {b : Nat} (hb : b < 16) (hn : l.length < 16) : ex_big S 4 0 [.inr (2 * i + 11), .inl (nI b)] [] (mk_W N sc ar) 0 0 = some (none, mk_W N (upd sc (i + 5) (nI (l.length + 1))) (x_up ar (i + 6) (upd (ar (i + 6)) l.length (nI b)))) ∧ r_ls (upd (ar (i + 6)) l.length (nI b)) (nI (l.length + 1)) (l ++ [b]) := by
  constructor
  · have h1 : ¬ (16 : Int32) ≤ nI l.length := by
      have := nI_ge (a := l.length) (b := 16) hn (by omega)
      exact this
    simp only [e_4_0, e_4_1, e_4_4, e_4_6, e_4_9, e_4_10, e_4_13, e_4_14, e_4_17, e_4_18, e_4_19, e_4_20, e_4_21, e_4_24, e_4_25, e_4_26, e_4_29, Nat.reduceAdd, Option.bind_some, ft_0, ft_10, ft_11, rk_4, bl_g1 hi, bl_g0 hi, hl.1, if_neg h1, bl_wt hi hn, bl_p1 hi, nI_1, if_true]
  · refine ⟨by simp, by simp; omega, fun j c hj => ?_, fun c hc => ?_⟩
    · by_cases hjl : j < l.length
      · rw [List.getElem?_append_left hjl] at hj
        have : j ≠ l.length := by omega
        rw [pk_un this]
        exact hl.2.2.1 j c hj
      · have hj2 : j < (l ++ [b]).length := (List.getElem?_eq_some_iff.mp hj).1
        have hj3 : j = l.length := by simp at hj2; omega
        subst hj3
        have : b = c := by simpa using hj
        rw [this, pk_us]
    · rcases List.mem_append.mp hc with h | h
      · exact hl.2.2.2 c h
      · have : c = b := by simpa using h
        rw [this]; exact hb
theorem sm_clear (hi : i < 4) : ex_big S 6 0 [.inr (2 * i + 11)] [] (mk_W N sc ar) 0 0 = some (none, mk_W N (upd sc (i + 5) 0) ar) ∧ ∀ f, r_ls f 0 [] := by
  constructor
  · simp only [e_6_0, e_6_1, e_6_2, e_6_5, Nat.reduceAdd, Option.bind_some, ft_0, ft_10, ft_11, rk_6, bl_p1 hi, if_true]
  · intro f
    exact ⟨by rw [List.length_nil, nI_0], by simp, fun j b h => by simp at h, fun b h => by simp at h⟩
theorem xu_s {α : Type} {f : Nat → α} {k : Nat} {v : α} : x_up f k v k = v := if_pos rfl
theorem xu_n {α : Type} {f : Nat → α} {j k : Nat} {v : α} (h : j ≠ k) : x_up f k v j = f j := if_neg h
theorem xu_u {α : Type} {f : Nat → α} {k : Nat} {v u : α} : x_up (x_up f k v) k u = x_up f k u := by
  funext j
  unfold x_up
  split <;> rfl
theorem xu_id {α : Type} {f : Nat → α} {k : Nat} : x_up f k (f k) = f := by
  funext j
  unfold x_up
  split
  · rename_i h; rw [h]
  · rfl
theorem x_rm_take {l : List Nat} {k b c : Nat} (hb : l[k]? = some b) : x_rm c (l.take (k + 1)) = x_rm c (l.take k) ++ (if b = c then [] else [b]) := by
  rw [List.take_succ, hb]
  unfold x_rm
  rw [List.filter_append]
  congr 1
  by_cases h : b = c
  · simp [h]
  · simp [h]
theorem sm_remove_loop (hi : i < 4) (hl : r_ls (ar (i + 6)) (sc (i + 5)) l) {c : Nat} (hc : c < 16) : ∀ (d k m : Nat) (g : Nat → Int32), l.length - k = d → k ≤ l.length → m ≤ k → m = (x_rm c (l.take k)).length → (∀ j b, (x_rm c (l.take k))[j]? = some b → g j = nI b) → (∀ j b, k ≤ j → l[j]? = some b → g j = nI b) →
    ∃ g', ex_big S 5 4 [.inr (2 * i + 11), .inl (nI c), .inl (nI m), .inl (nI k)] [] (mk_W N sc (x_up ar (i + 6) g)) 0 0 = some (none, mk_W N (upd sc (i + 5) (nI (x_rm c l).length)) (x_up ar (i + 6) g')) ∧ ∀ j b, (x_rm c l)[j]? = some b → g' j = nI b := by
  have hL := hl.2.1
  intro d
  induction d with
  | zero =>
    intro k m g hd hk hm he h1 h2
    have h3 : nI l.length ≤ nI k := nI_le (by omega) (by omega)
    have h4 : l.take k = l := List.take_of_length_le (by omega)
    rw [h4] at he h1
    refine ⟨g, ?_, h1⟩
    rw [e_5_4]
    simp only [e_5_5, e_5_6, e_5_9, e_5_12, e_5_13, e_5_16, e_5_17, e_5_18, e_5_19, e_5_22, e_5_23, e_5_26, e_5_27, e_5_28, e_5_31, e_5_32, e_5_33, e_5_34, e_5_37, e_5_40, e_5_43, e_5_44, e_5_45, e_5_48, Nat.reduceAdd, Option.bind_some, ft_0, ft_10, ft_11, rk_5, bl_g1 hi, hl.1, if_pos h3, bl_p1 hi, if_true, he]
  | succ d ih =>
    intro k m g hd hk hm he h1 h2
    have hlt : k < l.length := by omega
    have h3 : ¬ nI l.length ≤ nI k := nI_ge hlt (by omega)
    obtain ⟨b, hb⟩ : ∃ b, l[k]? = some b := ⟨_, List.getElem?_eq_getElem hlt⟩
    have hb16 := hl.2.2.2 b (List.mem_of_getElem? hb)
    have h4 : g k = nI b := h2 k b (Nat.le_refl _) hb
    have ht := x_rm_take (c := c) hb
    have hk16 : k < 16 := by omega
    have hm16 : m < 16 := by omega
    rw [e_5_4]
    by_cases hbc : b = c
    · have h5 : nI b = nI c := by rw [hbc]
      rw [if_pos hbc, List.append_nil] at ht
      obtain ⟨g', e1, e2⟩ := ih (k + 1) m g (by omega) (by omega) (by omega) (by rw [ht]; exact he) (by rw [ht]; exact h1) (fun j a hj ha => h2 j a (by omega) ha)
      refine ⟨g', ?_, e2⟩
      simp only [e_5_5, e_5_6, e_5_9, e_5_12, e_5_13, e_5_16, e_5_17, e_5_18, e_5_19, e_5_22, e_5_23, e_5_26, e_5_27, e_5_28, e_5_31, e_5_32, e_5_33, e_5_34, e_5_37, e_5_40, Nat.reduceAdd, Option.bind_some, bl_g1 hi, bl_g0 hi, hl.1, if_neg h3, bl_rd hi hk16, xu_s, h4, if_pos h5, nI_1, e1]
    · have h5 : ¬ nI b = nI c := fun q => hbc ((nI_eq (by omega) (by omega)).mp q)
      rw [if_neg hbc] at ht
      obtain ⟨g', e1, e2⟩ := ih (k + 1) (m + 1) (upd g m (nI b)) (by omega) (by omega) (by omega) (by rw [ht, List.length_append, ← he]; rfl) (by
        rw [ht]
        intro j a hj
        by_cases hjm : j < (x_rm c (l.take k)).length
        · rw [List.getElem?_append_left hjm] at hj
          rw [pk_un (by omega)]
          exact h1 j a hj
        · have hj2 := (List.getElem?_eq_some_iff.mp hj).1
          rw [List.length_append, List.length_singleton] at hj2
          have hj3 : j = (x_rm c (l.take k)).length := by omega
          subst hj3
          have : b = a := by simpa using hj
          rw [← this, he, pk_us]) (fun j a hj ha => by
        rw [pk_un (by omega)]
        exact h2 j a (by omega) ha)
      refine ⟨g', ?_, e2⟩
      simp only [e_5_5, e_5_6, e_5_9, e_5_12, e_5_13, e_5_16, e_5_17, e_5_18, e_5_19, e_5_22, e_5_23, e_5_26, e_5_27, e_5_28, e_5_31, e_5_32, e_5_33, e_5_34, e_5_37, e_5_40, Nat.reduceAdd, Option.bind_some, bl_g1 hi, bl_g0 hi, hl.1, if_neg h3, bl_rd hi hk16, bl_wt hi hm16, xu_s, xu_u, h4, if_neg h5, nI_1, e1]
theorem x_rm_le (c : Nat) (l : List Nat) : (x_rm c l).length ≤ l.length := List.length_filter_le _ _
theorem sm_remove (hi : i < 4) (hl : r_ls (ar (i + 6)) (sc (i + 5)) l) {c : Nat} (hc : c < 16) : ∃ g', ex_big S 5 0 [.inr (2 * i + 11), .inl (nI c), .inr 0, .inr 0] [] (mk_W N sc ar) 0 0 = some (none, mk_W N (upd sc (i + 5) (nI (x_rm c l).length)) (x_up ar (i + 6) g')) ∧ r_ls g' (nI (x_rm c l).length) (x_rm c l) := by
  obtain ⟨g', e1, e2⟩ := sm_remove_loop (S := S) (N := N) hi hl hc l.length 0 0 (ar (i + 6)) (by omega) (by omega) (by omega) (by simp [x_rm]) (by simp [x_rm]) (fun j b _ h => hl.2.2.1 j b h)
  rw [nI_0, xu_id] at e1
  have h1 := x_rm_le c l
  have h2 := hl.2.1
  refine ⟨g', ?_, rfl, by omega, e2, fun b hb => hl.2.2.2 b (x_rm_mem.mp hb).1⟩
  simp only [e_5_0, e_5_1, e_5_2, e_5_3, Nat.reduceAdd, e1]
end BLK
/-! placements: which block is in each slot -/
def e_o (o : Option Nat) : Int32 := match o with
  | none => -1
  | some d => nI d
def r_pl (N : Nat) (f g : Nat → Int32) (sl dt : Nat → Option Nat) : Prop := (∀ b s, sl b = some s → b < 16 ∧ s < N ∧ f s = nI b ∧ g s = e_o (dt b)) ∧ (∀ s, s < N → (∀ b, sl b ≠ some s) → f s = -1 ∧ g s = -1) ∧ ∀ b d, dt b = some d → d < 2 ^ 30 ∧ ∃ s, sl b = some s
def mk_P (h : Nat) (ar : Nat → Nat → Int32) (f g : Nat → Int32) : Nat → Nat → Int32 := x_up (x_up ar (2 * h + 2) f) (2 * h + 3) g
theorem nI_ne_m1 {n : Nat} (h : n < 2 ^ 31) : ¬ nI n = -1 := by
  intro q
  have h1 := nI_pos h
  rw [q] at h1
  exact h1 (by decide)
theorem mp_0 {h : Nat} {ar : Nat → Nat → Int32} {f g : Nat → Int32} : mk_P h ar f g (2 * h + 2) = f := by
  unfold mk_P
  rw [xu_n (by omega), xu_s]
theorem mp_1 {h : Nat} {ar : Nat → Nat → Int32} {f g : Nat → Int32} : mk_P h ar f g (2 * h + 3) = g := by
  unfold mk_P
  rw [xu_s]
theorem mp_o {h j : Nat} {ar : Nat → Nat → Int32} {f g : Nat → Int32} (h0 : j ≠ 2 * h + 2) (h1 : j ≠ 2 * h + 3) : mk_P h ar f g j = ar j := by
  unfold mk_P
  rw [xu_n h1, xu_n h0]
theorem mp_w0 {h : Nat} {ar : Nat → Nat → Int32} {f g f' : Nat → Int32} : x_up (mk_P h ar f g) (2 * h + 2) f' = mk_P h ar f' g := by
  funext j
  by_cases h0 : j = 2 * h + 2
  · subst h0
    rw [xu_s, mp_0]
  · rw [xu_n h0]
    by_cases h1 : j = 2 * h + 3
    · subst h1
      rw [mp_1, mp_1]
    · rw [mp_o h0 h1, mp_o h0 h1]
theorem mp_w1 {h : Nat} {ar : Nat → Nat → Int32} {f g g' : Nat → Int32} : x_up (mk_P h ar f g) (2 * h + 3) g' = mk_P h ar f g' := by
  funext j
  by_cases h1 : j = 2 * h + 3
  · subst h1
    rw [xu_s, mp_1]
  · rw [xu_n h1]
    by_cases h0 : j = 2 * h + 2
    · subst h0
      rw [mp_0, mp_0]
    · rw [mp_o h0 h1, mp_o h0 h1]
theorem mp_id {h : Nat} {ar : Nat → Nat → Int32} : mk_P h ar (ar (2 * h + 2)) (ar (2 * h + 3)) = ar := by
  funext j
  by_cases h0 : j = 2 * h + 2
  · subst h0
    rw [mp_0]
  · by_cases h1 : j = 2 * h + 3
    · subst h1
      rw [mp_1]
    · rw [mp_o h0 h1]
section PLC
variable {S : ex_S} {N : Nat} {sc : Nat → Int32} {ar : Nat → Nat → Int32} {h : Nat} {f g : Nat → Int32}
theorem sm_empty (hh : h < 2) (hN : N ≤ 14) {s : Nat} (hs : s < N) : ex_big S 8 0 [.inr (3 * h + 5), .inl (nI s)] [] (mk_W N sc (mk_P h ar f g)) 0 0 = some (none, mk_W N sc (mk_P h ar (upd f s (-1)) (upd g s (-1)))) := by
  simp only [e_8_0, e_8_1, e_8_4, e_8_5, e_8_6, e_8_7, e_8_8, e_8_11, e_8_12, e_8_13, e_8_14, Nat.reduceAdd, Option.bind_some, rk_8, pl_g0 hh, pl_g1 hh, pl_w0 hh hs hN, pl_w1 hh hs hN, mp_0, mp_1, mp_w0, mp_w1]
def p_cl (k : Nat) (f : Nat → Int32) : Nat → Int32 := fun s => if s < k then -1 else f s
theorem p_cl_up (k : Nat) (f : Nat → Int32) : upd (p_cl k f) k (-1) = p_cl (k + 1) f := by
  funext s
  unfold p_cl
  by_cases hs : s = k
  · subst hs
    rw [pk_us, if_pos (by omega)]
  · rw [pk_un hs]
    by_cases h1 : s < k
    · rw [if_pos h1, if_pos (by omega)]
    · rw [if_neg h1, if_neg (by omega)]
theorem p_cl_0 (f : Nat → Int32) : p_cl 0 f = f := by
  funext s
  unfold p_cl
  rw [if_neg (by omega)]
theorem sm_pclear_loop (hh : h < 2) (hN : N ≤ 14) : ∀ d k, N - k = d → k ≤ N → ex_big S 9 2 [.inr (3 * h + 5), .inl (nI k)] [] (mk_W N sc (mk_P h ar (p_cl k f) (p_cl k g))) 0 0 = some (none, mk_W N sc (mk_P h ar (p_cl N f) (p_cl N g))) := by
  intro d
  induction d with
  | zero =>
    intro k hd hk
    have h2 : nI N ≤ nI k := nI_le (by omega) (by omega)
    have hkN : k = N := by omega
    subst hkN
    rw [e_9_2]
    simp only [e_9_3, e_9_4, e_9_7, e_9_8, e_9_11, e_9_12, e_9_13, e_9_16, e_9_19, e_9_22, List.length_cons, List.length_nil, Nat.reduceAdd, Nat.reduceLeDiff, Nat.zero_le, Option.bind_some, ck_9_8, rk_9, rl_n, rl_s, pl_g0 hh, pl_l0 hh, if_pos h2]
  | succ d ih =>
    intro k hd hk
    have hlt : k < N := by omega
    have h2 : ¬ nI N ≤ nI k := nI_ge hlt (by omega)
    have ihk := ih (k + 1) (by omega) (by omega)
    rw [e_9_2]
    simp only [e_9_3, e_9_4, e_9_7, e_9_8, e_9_11, e_9_12, e_9_13, e_9_16, e_9_19, List.length_cons, List.length_nil, Nat.reduceAdd, Nat.reduceLeDiff, Nat.zero_le, Option.bind_some, ck_9_8, rl_n, rl_s, pl_g0 hh, pl_l0 hh, if_neg h2, pl_ob hh, sm_empty hh hN hlt, p_cl_up, nI_1, ihk]
theorem sm_pclear (hh : h < 2) (hN : N ≤ 14) : ex_big S 9 0 [.inr (3 * h + 5), .inr 0] [] (mk_W N sc (mk_P h ar f g)) 0 0 = some (none, mk_W N sc (mk_P h ar (p_cl N f) (p_cl N g))) := by
  have e := sm_pclear_loop (S := S) (sc := sc) (ar := ar) (f := f) (g := g) hh hN N 0 (by omega) (by omega)
  rw [p_cl_0, p_cl_0, nI_0] at e
  simp only [e_9_0, e_9_1, Nat.reduceAdd, e]
def p_cp (k : Nat) (f f2 : Nat → Int32) : Nat → Int32 := fun s => if s < k then f2 s else f s
theorem p_cp_up (k : Nat) (f f2 : Nat → Int32) : upd (p_cp k f f2) k (f2 k) = p_cp (k + 1) f f2 := by
  funext s
  unfold p_cp
  by_cases hs : s = k
  · subst hs
    rw [pk_us, if_pos (by omega)]
  · rw [pk_un hs]
    by_cases h1 : s < k
    · rw [if_pos h1, if_pos (by omega)]
    · rw [if_neg h1, if_neg (by omega)]
theorem p_cp_0 (f f2 : Nat → Int32) : p_cp 0 f f2 = f := by
  funext s
  unfold p_cp
  rw [if_neg (by omega)]
theorem sm_become_loop (hh : h < 2) (hN : N ≤ 14) {h2 : Nat} (hh2 : h2 < 2) (hne : h2 ≠ h) : ∀ d k, N - k = d → k ≤ N → ex_big S 10 2 [.inr (3 * h + 5), .inr (3 * h2 + 5), .inl (nI k)] [] (mk_W N sc (mk_P h ar (p_cp k f (ar (2 * h2 + 2))) (p_cp k g (ar (2 * h2 + 3))))) 0 0 = some (none, mk_W N sc (mk_P h ar (p_cp N f (ar (2 * h2 + 2))) (p_cp N g (ar (2 * h2 + 3))))) := by
  have n1 : 2 * h2 + 2 ≠ 2 * h + 2 := by omega
  have n2 : 2 * h2 + 2 ≠ 2 * h + 3 := by omega
  have n3 : 2 * h2 + 3 ≠ 2 * h + 2 := by omega
  have n4 : 2 * h2 + 3 ≠ 2 * h + 3 := by omega
  intro d
  induction d with
  | zero =>
    intro k hd hk
    have h3 : nI N ≤ nI k := nI_le (by omega) (by omega)
    have hkN : k = N := by omega
    subst hkN
    rw [e_10_2]
    simp only [e_10_3, e_10_4, e_10_7, e_10_8, e_10_11, e_10_12, e_10_15, e_10_16, e_10_17, e_10_20, e_10_21, e_10_22, e_10_23, e_10_24, e_10_27, e_10_28, e_10_29, e_10_32, e_10_33, e_10_34, e_10_35, e_10_38, e_10_41, Nat.reduceAdd, Option.bind_some, rk_10, pl_g0 hh, pl_l0 hh, if_pos h3]
  | succ d ih =>
    intro k hd hk
    have hlt : k < N := by omega
    have h3 : ¬ nI N ≤ nI k := nI_ge hlt (by omega)
    have ihk := ih (k + 1) (by omega) (by omega)
    rw [e_10_2]
    simp only [e_10_3, e_10_4, e_10_7, e_10_8, e_10_11, e_10_12, e_10_15, e_10_16, e_10_17, e_10_20, e_10_21, e_10_22, e_10_23, e_10_24, e_10_27, e_10_28, e_10_29, e_10_32, e_10_33, e_10_34, e_10_35, e_10_38, Nat.reduceAdd, Option.bind_some, pl_g0 hh, pl_l0 hh, pl_g1 hh, pl_g0 hh2, pl_g1 hh2, if_neg h3, pl_r0 hh2 hlt hN, pl_r1 hh2 hlt hN, pl_w0 hh hlt hN, pl_w1 hh hlt hN, mp_0, mp_1, mp_o n1 n2, mp_o n3 n4, mp_w0, mp_w1, p_cp_up, nI_1, ihk]
theorem sm_become (hh : h < 2) (hN : N ≤ 14) {h2 : Nat} (hh2 : h2 < 2) (hne : h2 ≠ h) : ex_big S 10 0 [.inr (3 * h + 5), .inr (3 * h2 + 5), .inr 0] [] (mk_W N sc (mk_P h ar f g)) 0 0 = some (none, mk_W N sc (mk_P h ar (p_cp N f (ar (2 * h2 + 2))) (p_cp N g (ar (2 * h2 + 3))))) := by
  have e := sm_become_loop (S := S) (sc := sc) (ar := ar) (f := f) (g := g) hh hN hh2 hne N 0 (by omega) (by omega)
  rw [p_cp_0, p_cp_0, nI_0] at e
  simp only [e_10_0, e_10_1, Nat.reduceAdd, e]
theorem r_pl_at {N : Nat} {f g : Nat → Int32} {sl dt : Nat → Option Nat} (hr : r_pl N f g sl dt) {s b : Nat} (hs : s < N) (hb : b < 16) : f s = nI b ↔ sl b = some s := by
  constructor
  · intro e
    apply Classical.byContradiction
    intro hno
    by_cases hx : ∃ b2, sl b2 = some s
    · obtain ⟨b2, hb2⟩ := hx
      obtain ⟨k1, k2, k3, k4⟩ := hr.1 b2 s hb2
      rw [k3] at e
      have := (nI_eq (by omega) (by omega)).mp e
      rw [this] at hb2
      exact hno hb2
    · have := (hr.2.1 s hs (fun b2 q => hx ⟨b2, q⟩)).1
      rw [this] at e
      exact nI_ne_m1 (by omega) e.symm
  · intro e
    exact (hr.1 b s e).2.2.1
theorem sm_slotOf_loop (hh : h < 2) (hN : N ≤ 14) {sl dt : Nat → Option Nat} (hr : r_pl N (ar (2 * h + 2)) (ar (2 * h + 3)) sl dt) {b : Nat} (hb : b < 16) : ∀ d k, N - k = d → k ≤ N → (∀ s, sl b = some s → k ≤ s) → ex_big S 11 9 [.inr (3 * h + 5), .inl (nI b), .inl (nI k)] [] (mk_W N sc ar) 0 0 = some (some (e_o (sl b)), mk_W N sc ar) := by
  intro d
  induction d with
  | zero =>
    intro k hd hk hge
    have h3 : nI N ≤ nI k := nI_le (by omega) (by omega)
    have hn : sl b = none := by
      cases hq : sl b with
      | none => rfl
      | some s =>
        have h1 := hge s hq
        have h2 := (hr.1 b s hq).2.1
        omega
    rw [e_11_9, hn]
    simp only [e_11_10, e_11_11, e_11_14, e_11_15, e_11_18, e_11_19, e_11_22, e_11_23, e_11_24, e_11_25, e_11_28, e_11_29, e_11_30, e_11_33, e_11_36, e_11_37, Nat.reduceAdd, Option.bind_some, rk_11, pl_g0 hh, pl_l0 hh, if_pos h3]
    rfl
  | succ d ih =>
    intro k hd hk hge
    have hlt : k < N := by omega
    have h3 : ¬ nI N ≤ nI k := nI_ge hlt (by omega)
    rw [e_11_9]
    by_cases he : ar (2 * h + 2) k = nI b
    · have hs := (r_pl_at hr hlt hb).mp he
      rw [hs]
      simp only [e_11_10, e_11_11, e_11_14, e_11_15, e_11_18, e_11_19, e_11_22, e_11_23, e_11_24, e_11_25, e_11_28, e_11_29, e_11_30, e_11_33, e_11_36, e_11_37, Nat.reduceAdd, Option.bind_some, rk_11, pl_g0 hh, pl_l0 hh, if_neg h3, pl_r0 hh hlt hN, if_pos he]
      rfl
    · have ihk := ih (k + 1) (by omega) (by omega) (fun s hs => by
        have h1 := hge s hs
        have : s ≠ k := fun q => by
          subst q
          exact he ((r_pl_at hr hlt hb).mpr hs)
        omega)
      simp only [e_11_10, e_11_11, e_11_14, e_11_15, e_11_18, e_11_19, e_11_22, e_11_23, e_11_24, e_11_25, e_11_28, e_11_29, e_11_30, e_11_33, e_11_36, e_11_37, Nat.reduceAdd, Option.bind_some, rk_11, pl_g0 hh, pl_l0 hh, if_neg h3, pl_r0 hh hlt hN, if_neg he, nI_1, ihk]
theorem sm_slotOf (hh : h < 2) (hN : N ≤ 14) {sl dt : Nat → Option Nat} (hr : r_pl N (ar (2 * h + 2)) (ar (2 * h + 3)) sl dt) {b : Nat} (hb : b < 16) : ex_big S 11 0 [.inr (3 * h + 5), .inl (nI b), .inr 0] [] (mk_W N sc ar) 0 0 = some (some (e_o (sl b)), mk_W N sc ar) := by
  have e := sm_slotOf_loop (S := S) (sc := sc) hh hN hr hb N 0 (by omega) (by omega) (fun s _ => Nat.zero_le _)
  rw [nI_0] at e
  have h1 : ¬ nI b = -1 := nI_ne_m1 (by omega)
  simp only [e_11_0, e_11_1, e_11_2, e_11_5, e_11_6, e_11_7, e_11_8, Nat.reduceAdd, rk_11, if_neg h1, e]
theorem sm_slotOf_out_loop (hh : h < 2) (hN : N ≤ 14) {x : Int32} (hx : ∀ s, s < N → ar (2 * h + 2) s ≠ x) : ∀ d k, N - k = d → k ≤ N → ex_big S 11 9 [.inr (3 * h + 5), .inl x, .inl (nI k)] [] (mk_W N sc ar) 0 0 = some (some (-1), mk_W N sc ar) := by
  intro d
  induction d with
  | zero =>
    intro k hd hk
    have h3 : nI N ≤ nI k := nI_le (by omega) (by omega)
    rw [e_11_9]
    simp only [e_11_10, e_11_11, e_11_14, e_11_15, e_11_18, e_11_19, e_11_22, e_11_23, e_11_24, e_11_25, e_11_28, e_11_29, e_11_30, e_11_33, e_11_36, e_11_37, Nat.reduceAdd, Option.bind_some, rk_11, pl_g0 hh, pl_l0 hh, if_pos h3]
  | succ d ih =>
    intro k hd hk
    have hlt : k < N := by omega
    have h3 : ¬ nI N ≤ nI k := nI_ge hlt (by omega)
    have ihk := ih (k + 1) (by omega) (by omega)
    rw [e_11_9]
    simp only [e_11_10, e_11_11, e_11_14, e_11_15, e_11_18, e_11_19, e_11_22, e_11_23, e_11_24, e_11_25, e_11_28, e_11_29, e_11_30, e_11_33, e_11_36, e_11_37, Nat.reduceAdd, Option.bind_some, rk_11, pl_g0 hh, pl_l0 hh, if_neg h3, pl_r0 hh hlt hN, if_neg (hx k hlt), nI_1, ihk]
theorem sm_slotOf_out (hh : h < 2) (hN : N ≤ 14) {sl dt : Nat → Option Nat} (hr : r_pl N (ar (2 * h + 2)) (ar (2 * h + 3)) sl dt) {x : Int32} (hx : ∀ b, b < 16 → x ≠ nI b) : ex_big S 11 0 [.inr (3 * h + 5), .inl x, .inr 0] [] (mk_W N sc ar) 0 0 = some (some (-1), mk_W N sc ar) := by
  by_cases h1 : x = -1
  · simp only [e_11_0, e_11_1, e_11_2, e_11_5, e_11_6, e_11_7, e_11_8, Nat.reduceAdd, rk_11, if_pos h1]
  · have e := sm_slotOf_out_loop (S := S) (sc := sc) (ar := ar) hh hN (x := x) (fun s hs q => by
      by_cases hq : ∃ b2, sl b2 = some s
      · obtain ⟨b2, hb2⟩ := hq
        obtain ⟨k1, k2, k3, k4⟩ := hr.1 b2 s hb2
        exact hx b2 k1 (q.symm.trans k3)
      · exact h1 (q.symm.trans (hr.2.1 s hs (fun b2 z => hq ⟨b2, z⟩)).1)) N 0 (by omega) (by omega)
    rw [nI_0] at e
    simp only [e_11_0, e_11_1, e_11_2, e_11_5, e_11_6, e_11_7, e_11_8, Nat.reduceAdd, rk_11, if_neg h1, e]
end PLC
