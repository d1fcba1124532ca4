/-! the reference's object and the mathematical state -/
def r_sn (K : Nat) (li si : Nat → Int32) (L : Nat → List Nat) : Prop := ∃ t : Nat → Nat, (∀ b, b < 16 → li b = nI (x_li L b)) ∧ (∀ b, b < 16 → (∃ i, i < 4 ∧ b ∈ L i) → si b = nI (t b) ∧ t b < K) ∧ ∀ i, i < 4 → (L i).Pairwise (fun a b => t a < t b)
def r_m (K : Nat) (sc : Nat → Int32) (ar : Nat → Nat → Int32) (X : xs_T) : Prop := (1 ≤ x_C X ∧ x_C X ≤ 7) ∧ sc 9 = nI (x_C X) ∧ (∀ b, b < 16 → ar 10 b = x_st X b) ∧ (∀ s, s < 2 * x_C X → ar 11 s = x_nu X s) ∧ (∀ b, b < 16 → ar 12 b = e_o (x_sl X b)) ∧ (∀ b, b < 16 → ar 13 b = x_b (x_dt X b).isSome) ∧ (∀ b d, b < 16 → x_dt X b = some d → ar 14 b = nI d) ∧ r_sn K (ar 15) (ar 16) (x_L X) ∧ sc 10 = nI K ∧ sc 11 = nI (x_go X) ∧ sc 12 = nI (x_ep X) ∧ sc 13 = x_b (x_hi X) ∧ sc 14 = x_dr X ∧ (∀ b, b < 16 → ar 17 b = e_o (x_js X b)) ∧ (∀ b, b < 16 → ar 18 b = x_b (x_jd X b).isSome) ∧ (∀ b d, b < 16 → x_jd X b = some d → ar 19 b = nI d)
def s_X (sc : Nat → Int32) (ar : Nat → Nat → Int32) (sc' : Nat → Int32) (ar' : Nat → Nat → Int32) : Prop := (∀ j, j < 9 → sc' j = sc j) ∧ ∀ j, j < 10 → ar' j = ar j
theorem s_X_rf {sc : Nat → Int32} {ar : Nat → Nat → Int32} : s_X sc ar sc ar := ⟨fun _ _ => rfl, fun _ _ => rfl⟩
theorem s_X_tr {s1 s2 s3 : Nat → Int32} {a1 a2 a3 : Nat → Nat → Int32} (h : s_X s1 a1 s2 a2) (h2 : s_X s2 a2 s3 a3) : s_X s1 a1 s3 a3 := ⟨fun j hj => (h2.1 j hj).trans (h.1 j hj), fun j hj => (h2.2 j hj).trans (h.2 j hj)⟩
theorem vn0 : vp_nar .boolean 0 = 0 := by decide
theorem vn1 : vp_nar .boolean 1 = 1 := by decide
theorem vnb (h : Bool) : vp_nar .boolean (x_b h) = x_b h := by cases h <;> decide
theorem x_b0 {h : Bool} : x_b h = 0 ↔ h = false := by cases h <;> decide
section RM
variable {K N : Nat} {sc : Nat → Int32} {ar : Nat → Nat → Int32} {X : xs_T}
theorem s_X_sc {j : Nat} (hj : 9 ≤ j) (v : Int32) : s_X sc ar (upd sc j v) ar := ⟨fun k hk => upd_ne (by omega), fun _ _ => rfl⟩
theorem s_X_ar {j : Nat} (hj : 10 ≤ j) (f : Nat → Int32) : s_X sc ar sc (x_up ar j f) := ⟨fun _ _ => rfl, fun k hk => xu_n (by omega)⟩
theorem e_o_eq {o : Option Nat} {s : Nat} (hs : s < 2 ^ 31) (ho : ∀ t, o = some t → t < 2 ^ 31) : e_o o = nI s ↔ o = some s := by
  cases o with
  | none =>
    constructor
    · intro q; exact absurd q.symm (nI_ne_m1 hs)
    · intro q; cases q
  | some t =>
    constructor
    · intro q
      rw [(nI_eq (ho t rfl) hs).mp q]
    · intro q; rw [Option.some.inj q]; rfl
theorem m_isBlock_t {S : ex_S} {w : ex_W} {b : Nat} (hb : b < 16) : ex_big S 50 0 [.inl (nI b)] [] w 0 0 = some (some 1, w) := by
  have h1 : ¬ nI b < 0 := nI_pos (by omega)
  have h2 : ¬ (16 : Int32) ≤ nI b := nI_ge (a := b) (b := 16) hb (by omega)
  simp only [e_50_0, e_50_1, e_50_4, e_50_5, e_50_7, e_50_10, e_50_11, e_50_14, e_50_15, Nat.reduceAdd, false_or, or_false, or_true, rk_50, true_or, if_neg h1, if_neg h2]
theorem m_isBlock_f {S : ex_S} {w : ex_W} {x : Int32} (hx : x < 0 ∨ nI 16 ≤ x) : ex_big S 50 0 [.inl x] [] w 0 0 = some (some 0, w) := by
  by_cases h1 : x < 0
  · simp only [e_50_0, e_50_1, e_50_4, e_50_5, e_50_7, e_50_10, e_50_11, e_50_14, e_50_15, Nat.reduceAdd, false_or, or_false, or_true, rk_50, true_or, if_pos h1]
  · have h2 : (16 : Int32) ≤ x := hx.resolve_left h1
    simp only [e_50_0, e_50_1, e_50_4, e_50_5, e_50_7, e_50_10, e_50_11, e_50_14, e_50_15, Nat.reduceAdd, false_or, or_false, or_true, rk_50, true_or, if_neg h1, if_pos h2]
/-- slots and epochs within their bounds -/
def r_bd (X : xs_T) : Prop := (∀ b s, x_sl X b = some s → b < 16 ∧ s < 2 * x_C X) ∧ (∀ b s, x_js X b = some s → b < 16 ∧ s < 2 * x_C X) ∧ (∀ b d, x_dt X b = some d → d < 2 ^ 30 ∧ ∃ s, x_sl X b = some s) ∧ (∀ b d, x_jd X b = some d → d < 2 ^ 30 ∧ ∃ s, x_js X b = some s)
theorem r_bd_of (h1 : x_pl (x_C X) (x_ep X) (x_sl X) (x_dt X)) (h2 : x_pl (x_C X) (x_ep X) (x_js X) (x_jd X)) (hE : x_ep X < 2 ^ 29) : r_bd X := ⟨h1.1, h2.1, fun b d h => ⟨by have := (h1.2.2.1 b d h).1; omega, (h1.2.2.1 b d h).2⟩, fun b d h => ⟨by have := (h2.2.2.1 b d h).1; omega, (h2.2.2.1 b d h).2⟩⟩
def x_fp (X : xs_T) (s b : Nat) : Bool := !(x_sl X b == some s) && !(x_js X b == some s)
variable {S : ex_S}
theorem m_isFree_loop (hr : r_m K sc ar X) (hbd : r_bd X) {s : Nat} (hs : s < 2 * x_C X) : ∀ d k, 16 - k = d → k ≤ 16 → ex_big S 51 4 [.inr 20, .inl (nI s), .inl (x_b ((List.range k).all (x_fp X s))), .inl (nI k)] [] (mk_W N sc ar) 0 0 = some (some (x_b ((List.range 16).all (x_fp X s))), mk_W N sc ar) := by
  have hC := hr.1
  have h12 := hr.2.2.2.2.1
  have h17 := hr.2.2.2.2.2.2.2.2.2.2.2.2.2.1
  have z10 : ¬ (1 : Int32) = 0 := by decide
  intro d
  induction d with
  | zero =>
    intro k hd hk
    have hk16 : k = 16 := by omega
    subst hk16
    have h3 : (16 : Int32) ≤ nI 16 := by decide
    have h4 : x_b ((List.range 16).all (x_fp X s)) = 0 ∨ x_b ((List.range 16).all (x_fp X s)) = 1 := by
      cases ((List.range 16).all (x_fp X s))
      · exact Or.inl rfl
      · exact Or.inr rfl
    rw [e_51_4]
    simp only [e_51_5, e_51_7, e_51_10, e_51_11, e_51_14, e_51_15, e_51_18, e_51_19, e_51_20, e_51_21, e_51_24, e_51_25, e_51_28, e_51_29, e_51_30, e_51_31, e_51_34, e_51_35, e_51_38, e_51_39, e_51_40, e_51_43, e_51_46, e_51_47, Nat.reduceAdd, Option.bind_some, false_or, or_false, or_true, rk_51, true_or, if_pos h3, h4]
  | succ d ih =>
    intro k hd hk
    have hlt : k < 16 := by omega
    have h3 : ¬ (16 : Int32) ≤ nI k := nI_ge (a := k) (b := 16) hlt (by omega)
    have ihk := ih (k + 1) (by omega) (by omega)
    have hall : (List.range (k + 1)).all (x_fp X s) = ((List.range k).all (x_fp X s) && x_fp X s k) := by
      rw [List.range_succ, List.all_append]
      simp
    rw [hall] at ihk
    rw [e_51_4]
    cases ha : (List.range k).all (x_fp X s) with
    | false =>
      rw [ha] at ihk
      have ihk : ex_big S 51 4 [.inr 20, .inl (nI s), .inl 0, .inl (nI (k + 1))] [] (mk_W N sc ar) 0 0 = some (some (x_b ((List.range 16).all (x_fp X s))), mk_W N sc ar) := ihk
      have q : x_b false = 0 := rfl
      simp only [e_51_5, e_51_7, e_51_10, e_51_11, e_51_14, e_51_15, e_51_18, e_51_19, e_51_20, e_51_21, e_51_24, e_51_25, e_51_28, e_51_29, e_51_30, e_51_31, e_51_34, e_51_35, e_51_38, e_51_39, e_51_40, e_51_43, Nat.reduceAdd, Option.bind_some, if_neg h3, q, if_true, nI_1, ihk]
    | true =>
      rw [ha, Bool.true_and] at ihk
      have q : x_b true = 1 := rfl
      have hsl : e_o (x_sl X k) = nI s ↔ x_sl X k = some s := e_o_eq (by omega) (fun t ht => by have := (hbd.1 k t ht).2; omega)
      have hjs : e_o (x_js X k) = nI s ↔ x_js X k = some s := e_o_eq (by omega) (fun t ht => by have := (hbd.2.1 k t ht).2; omega)
      by_cases c1 : x_sl X k = some s
      · have f : x_fp X s k = false := by simp [x_fp, c1]
        rw [f] at ihk
        have ihk : ex_big S 51 4 [.inr 20, .inl (nI s), .inl 0, .inl (nI (k + 1))] [] (mk_W N sc ar) 0 0 = some (some (x_b ((List.range 16).all (x_fp X s))), mk_W N sc ar) := ihk
        have g1 : e_o (x_sl X k) = nI s := hsl.mpr c1
        simp only [e_51_5, e_51_7, e_51_10, e_51_11, e_51_14, e_51_15, e_51_18, e_51_19, e_51_20, e_51_21, e_51_24, e_51_25, e_51_28, e_51_29, e_51_30, e_51_31, e_51_34, e_51_35, e_51_38, e_51_39, e_51_40, e_51_43, Nat.reduceAdd, Option.bind_some, if_neg h3, q, if_neg z10, wg_18_3, wr_21 hlt, h12 k hlt, if_pos g1, nI_1, ihk]
      · have g1 : ¬ e_o (x_sl X k) = nI s := fun z => c1 (hsl.mp z)
        by_cases c2 : x_js X k = some s
        · have f : x_fp X s k = false := by simp [x_fp, c2]
          rw [f] at ihk
          have ihk : ex_big S 51 4 [.inr 20, .inl (nI s), .inl 0, .inl (nI (k + 1))] [] (mk_W N sc ar) 0 0 = some (some (x_b ((List.range 16).all (x_fp X s))), mk_W N sc ar) := ihk
          have g2 : e_o (x_js X k) = nI s := hjs.mpr c2
          simp only [e_51_5, e_51_7, e_51_10, e_51_11, e_51_14, e_51_15, e_51_18, e_51_19, e_51_20, e_51_21, e_51_24, e_51_25, e_51_28, e_51_29, e_51_30, e_51_31, e_51_34, e_51_35, e_51_38, e_51_39, e_51_40, e_51_43, Nat.reduceAdd, Option.bind_some, if_neg h3, q, if_neg z10, wg_18_3, wg_18_13, wr_21 hlt, wr_26 hlt, h12 k hlt, h17 k hlt, if_neg g1, if_pos g2, nI_1, ihk]
        · have f : x_fp X s k = true := by simp [x_fp, c1, c2]
          rw [f] at ihk
          have ihk : ex_big S 51 4 [.inr 20, .inl (nI s), .inl 1, .inl (nI (k + 1))] [] (mk_W N sc ar) 0 0 = some (some (x_b ((List.range 16).all (x_fp X s))), mk_W N sc ar) := ihk
          have g2 : ¬ e_o (x_js X k) = nI s := fun z => c2 (hjs.mp z)
          simp only [e_51_5, e_51_7, e_51_10, e_51_11, e_51_14, e_51_15, e_51_18, e_51_19, e_51_20, e_51_21, e_51_24, e_51_25, e_51_28, e_51_29, e_51_30, e_51_31, e_51_34, e_51_35, e_51_38, e_51_39, e_51_40, e_51_43, Nat.reduceAdd, Option.bind_some, if_neg h3, q, if_neg z10, wg_18_3, wg_18_13, wr_21 hlt, wr_26 hlt, h12 k hlt, h17 k hlt, if_neg g1, if_neg g2, nI_1, ihk]
theorem m_isFree (hr : r_m K sc ar X) (hbd : r_bd X) {s : Nat} (hs : s < 2 * x_C X) : ex_big S 51 0 [.inr 20, .inl (nI s), .inr 0, .inr 0] [] (mk_W N sc ar) 0 0 = some (some (if x_free X s = true then 1 else 0), mk_W N sc ar) := by
  have e := m_isFree_loop (S := S) (N := N) hr hbd hs 16 0 (by omega) (by omega)
  have q : x_b ((List.range 0).all (x_fp X s)) = 1 := rfl
  rw [q, nI_0] at e
  have q2 : x_b ((List.range 16).all (x_fp X s)) = if x_free X s = true then 1 else 0 := rfl
  rw [q2] at e
  simp only [e_51_0, e_51_1, e_51_2, e_51_3, Nat.reduceAdd, e]
theorem m_leastFree_loop (hr : r_m K sc ar X) (hbd : r_bd X) : ∀ d k, 2 * x_C X - k = d → k ≤ 2 * x_C X → (∀ j, j < k → ¬ x_free X j = true) → ex_big S 52 2 [.inr 20, .inl (nI k)] [] (mk_W N sc ar) 0 0 = some (some (e_o (x_frees X).head?), mk_W N sc ar) := by
  have hC := hr.1
  have hm : sc 9 = nI (x_C X) := hr.2.1
  have h2C : (2 : Int32) * nI (x_C X) = nI (2 * x_C X) := pk_mul 2 (x_C X)
  intro d
  induction d with
  | zero =>
    intro k hd hk hb
    have h3 : nI (2 * x_C X) ≤ nI k := nI_le (by omega) (by omega)
    have hn : x_frees X = [] := by
      unfold x_frees
      rw [List.filter_eq_nil_iff]
      intro s hs
      have := List.mem_range.mp hs
      exact hb s (by omega)
    rw [hn, e_52_2]
    simp only [e_52_3, e_52_4, e_52_5, e_52_8, e_52_9, e_52_12, e_52_13, e_52_14, e_52_17, e_52_20, e_52_21, e_52_22, e_52_25, e_52_28, e_52_29, List.length_cons, List.length_nil, Nat.reduceAdd, Nat.reduceLeDiff, Nat.zero_le, Option.bind_some, ck_52_51, rk_52, rl_n, rl_s, wg_18_0, hm, h2C, if_pos h3]
    rfl
  | succ d ih =>
    intro k hd hk hb
    have hlt : k < 2 * x_C X := by omega
    have h3 : ¬ nI (2 * x_C X) ≤ nI k := nI_ge hlt (by omega)
    have e1 := m_isFree (S := S) (N := N) hr hbd hlt
    rw [e_52_2]
    by_cases hf : x_free X k = true
    · have q : (x_frees X).head? = some k := x_find_lt (by omega) hf hb
      rw [if_pos hf] at e1
      have z : ¬ (1 : Int32) = 0 := by decide
      rw [q]
      simp only [e_52_3, e_52_4, e_52_5, e_52_8, e_52_9, e_52_12, e_52_13, e_52_14, e_52_17, e_52_20, e_52_21, e_52_22, e_52_25, e_52_28, e_52_29, List.length_cons, List.length_nil, Nat.reduceAdd, Nat.reduceLeDiff, Nat.zero_le, Option.bind_some, ck_52_51, rk_52, rl_n, rl_s, wg_18_0, hm, h2C, wo_18, if_neg h3, e1, if_neg z]
      rfl
    · have ihk := ih (k + 1) (by omega) (by omega) (fun j hj => by
        by_cases hjk : j = k
        · subst hjk; exact hf
        · exact hb j (by omega))
      rw [if_neg hf] at e1
      simp only [e_52_3, e_52_4, e_52_5, e_52_8, e_52_9, e_52_12, e_52_13, e_52_14, e_52_17, e_52_20, e_52_21, e_52_22, e_52_25, e_52_28, e_52_29, List.length_cons, List.length_nil, Nat.reduceAdd, Nat.reduceLeDiff, Nat.zero_le, Option.bind_some, ck_52_51, rk_52, rl_n, rl_s, wg_18_0, hm, h2C, wo_18, if_neg h3, e1, if_true, nI_1, ihk]
theorem m_leastFree (hr : r_m K sc ar X) (hbd : r_bd X) : ex_big S 52 0 [.inr 20, .inr 0] [] (mk_W N sc ar) 0 0 = some (some (e_o (x_frees X).head?), mk_W N sc ar) := by
  have e := m_leastFree_loop (S := S) (N := N) hr hbd (2 * x_C X) 0 (by omega) (by omega) (fun j hj => absurd hj (Nat.not_lt_zero j))
  rw [nI_0] at e
  simp only [e_52_0, e_52_1, Nat.reduceAdd, e]
def mk_J (ar : Nat → Nat → Int32) (f g h : Nat → Int32) : Nat → Nat → Int32 := x_up (x_up (x_up ar 17 f) 18 g) 19 h
theorem xu_c {α : Type} {f : Nat → α} {j k : Nat} {u v : α} (h : j ≠ k) : x_up (x_up f j u) k v = x_up (x_up f k v) j u := by
  funext i
  unfold x_up
  by_cases h1 : i = k
  · by_cases h2 : i = j
    · omega
    · rw [if_pos h1, if_neg h2, if_pos h1]
  · by_cases h2 : i = j
    · rw [if_neg h1, if_pos h2, if_pos h2]
    · rw [if_neg h1, if_neg h2, if_neg h2, if_neg h1]
theorem mj_7 {ar : Nat → Nat → Int32} {f g h f' : Nat → Int32} : x_up (mk_J ar f g h) 17 f' = mk_J ar f' g h := by
  unfold mk_J
  rw [xu_c (by omega), xu_c (j := 18) (by omega), xu_u]
theorem mj_8 {ar : Nat → Nat → Int32} {f g h g' : Nat → Int32} : x_up (mk_J ar f g h) 18 g' = mk_J ar f g' h := by
  unfold mk_J
  rw [xu_c (by omega), xu_u]
theorem mj_9 {ar : Nat → Nat → Int32} {f g h h' : Nat → Int32} : x_up (mk_J ar f g h) 19 h' = mk_J ar f g h' := by
  unfold mk_J
  rw [xu_u]
theorem mj_id {ar : Nat → Nat → Int32} : mk_J ar (ar 17) (ar 18) (ar 19) = ar := by
  unfold mk_J
  rw [xu_id]
  rw [show ar 18 = ar 18 from rfl, xu_id, xu_id]
theorem m_write_loop (h13 : ∀ b, b < 16 → ar 13 b = x_b (x_dt X b).isSome) {f g h : Nat → Int32} : ∀ d k, 16 - k = d → k ≤ 16 → ex_big S 53 2 [.inr 20, .inl (nI k)] [] (mk_W N sc (mk_J ar (p_cp k f (ar 12)) (p_cp k g (ar 13)) (p_cp k h (ar 14)))) 0 0 = some (none, mk_W N sc (mk_J ar (p_cp 16 f (ar 12)) (p_cp 16 g (ar 13)) (p_cp 16 h (ar 14)))) := by
  have n12 : ∀ f g h, mk_J ar f g h 12 = ar 12 := fun _ _ _ => rfl
  have n13 : ∀ f g h, mk_J ar f g h 13 = ar 13 := fun _ _ _ => rfl
  have n14 : ∀ f g h, mk_J ar f g h 14 = ar 14 := fun _ _ _ => rfl
  have n17 : ∀ f g h, mk_J ar f g h 17 = f := fun _ _ _ => rfl
  have n18 : ∀ f g h, mk_J ar f g h 18 = g := fun _ _ _ => rfl
  have n19 : ∀ f g h, mk_J ar f g h 19 = h := fun _ _ _ => rfl
  intro d
  induction d with
  | zero =>
    intro k hd hk
    have hk16 : k = 16 := by omega
    subst hk16
    have h3 : (16 : Int32) ≤ nI 16 := by decide
    rw [e_53_2]
    simp only [e_53_3, e_53_5, e_53_8, e_53_9, e_53_12, e_53_13, e_53_14, e_53_17, e_53_18, e_53_19, e_53_20, e_53_21, e_53_24, e_53_25, e_53_26, e_53_29, e_53_30, e_53_31, e_53_32, e_53_33, e_53_36, e_53_37, e_53_38, e_53_41, e_53_42, e_53_43, e_53_44, e_53_47, e_53_50, Nat.reduceAdd, Option.bind_some, rk_53, if_pos h3]
  | succ d ih =>
    intro k hd hk
    have hlt : k < 16 := by omega
    have h3 : ¬ (16 : Int32) ≤ nI k := nI_ge (a := k) (b := 16) hlt (by omega)
    have ihk := ih (k + 1) (by omega) (by omega)
    have hv : vp_nar .boolean (ar 13 k) = ar 13 k := by rw [h13 k hlt]; exact vnb _
    rw [e_53_2]
    simp only [e_53_3, e_53_5, e_53_8, e_53_9, e_53_12, e_53_13, e_53_14, e_53_17, e_53_18, e_53_19, e_53_20, e_53_21, e_53_24, e_53_25, e_53_26, e_53_29, e_53_30, e_53_31, e_53_32, e_53_33, e_53_36, e_53_37, e_53_38, e_53_41, e_53_42, e_53_43, e_53_44, e_53_47, Nat.reduceAdd, Option.bind_some, if_neg h3, wg_18_13, wg_18_14, wg_18_15, wg_18_3, wg_18_4, wg_18_5, wr_21 hlt, wr_22 hlt, wr_23 hlt, ww_26 hlt, ww_27 hlt, ww_28 hlt, n12, n13, n14, n17, n18, n19, mj_7, mj_8, mj_9, hv, p_cp_up, nI_1, ihk]
theorem m_writeJournal (h13 : ∀ b, b < 16 → ar 13 b = x_b (x_dt X b).isSome) : ex_big S 53 0 [.inr 20, .inr 0] [] (mk_W N sc ar) 0 0 = some (none, mk_W N sc (mk_J ar (p_cp 16 (ar 17) (ar 12)) (p_cp 16 (ar 18) (ar 13)) (p_cp 16 (ar 19) (ar 14)))) := by
  have e := m_write_loop (S := S) (N := N) (sc := sc) h13 (f := ar 17) (g := ar 18) (h := ar 19) 16 0 (by omega) (by omega)
  rw [p_cp_0, p_cp_0, p_cp_0, mj_id, nI_0] at e
  simp only [e_53_0, e_53_1, Nat.reduceAdd, e]
theorem r_m_J (hr : r_m K sc ar X) : r_m K sc (mk_J ar (p_cp 16 (ar 17) (ar 12)) (p_cp 16 (ar 18) (ar 13)) (p_cp 16 (ar 19) (ar 14))) (x_setJ (x_sl X) (x_dt X) X) := by
  obtain ⟨h0, h1, h2, h3, h4, h5, h6, h7, h8, h9, h10, h11, h12, h13, h14, h15⟩ := hr
  refine ⟨h0, h1, h2, h3, h4, h5, h6, h7, h8, h9, h10, h11, h12, fun b hb => ?_, fun b hb => ?_, fun b d hb hd => ?_⟩
  · show p_cp 16 (ar 17) (ar 12) b = _
    rw [show p_cp 16 (ar 17) (ar 12) b = ar 12 b from if_pos hb]
    exact h4 b hb
  · show p_cp 16 (ar 18) (ar 13) b = _
    rw [show p_cp 16 (ar 18) (ar 13) b = ar 13 b from if_pos hb]
    exact h5 b hb
  · show p_cp 16 (ar 19) (ar 14) b = _
    rw [show p_cp 16 (ar 19) (ar 14) b = ar 14 b from if_pos hb]
    exact h6 b d hb hd
theorem s_X_J {f g h : Nat → Int32} : s_X sc ar sc (mk_J ar f g h) := s_X_tr (s_X_ar (by omega) _) (s_X_tr (s_X_ar (by omega) _) (s_X_ar (by omega) _))
theorem r_m_ep (hr : r_m K sc ar X) (e : Nat) : r_m K (upd sc 12 (nI e)) ar (x_setE e X) := by
  obtain ⟨h0, h1, h2, h3, h4, h5, h6, h7, h8, h9, h10, h11⟩ := hr
  exact ⟨h0, h1, h2, h3, h4, h5, h6, h7, h8, h9, rfl, h11⟩
theorem m_flushed (hr : r_m K sc ar X) : ∃ sc' ar', ex_big S 54 0 [.inr 20] [] (mk_W N sc ar) 0 0 = some (some (nI (x_ep X + 1)), mk_W N sc' ar') ∧ r_m K sc' ar' (x_flush X) ∧ s_X sc ar sc' ar' := by
  have e1 := m_writeJournal (S := S) (N := N) (sc := sc) hr.2.2.2.2.2.1
  have hep : sc 12 = nI (x_ep X) := hr.2.2.2.2.2.2.2.2.2.2.1
  refine ⟨upd sc 12 (nI (x_ep X + 1)), _, ?_, r_m_ep (r_m_J hr) (x_ep X + 1), s_X_tr s_X_J (s_X_sc (by omega) _)⟩
  simp only [e_54_0, e_54_1, e_54_4, e_54_5, e_54_6, e_54_9, e_54_10, e_54_11, e_54_14, e_54_15, e_54_18, List.length_cons, List.length_nil, Nat.reduceAdd, Nat.reduceLeDiff, Nat.zero_le, Option.bind_some, ck_54_53, ft_0, ft_10, ft_11, rk_54, rl_n, rl_s, wo_18, e1, wg_18_10, hep, nI_1, wp_18_10, pk_us, if_true]
theorem r_bd_flush (h : r_bd X) : r_bd (x_flush X) := ⟨h.1, h.1, h.2.2.1, h.2.2.1⟩
theorem m_newSlot (hr : r_m K sc ar X) (hbd : r_bd X) (hf : x_frees (x_room X) ≠ []) : ∃ sc' ar', ex_big S 55 0 [.inr 20, .inr 0, .inr 0] [] (mk_W N sc ar) 0 0 = some (some (nI (x_slot X)), mk_W N sc' ar') ∧ r_m K sc' ar' (x_room X) ∧ s_X sc ar sc' ar' := by
  have hC := hr.1
  have e1 := m_leastFree (S := S) (N := N) hr hbd
  by_cases hn : x_frees X = []
  · have hrm : x_room X = x_flush X := if_pos hn
    obtain ⟨sc', ar', e2, r2, m2⟩ := m_flushed (S := S) (N := N) hr
    have e3 := m_leastFree (S := S) (N := N) r2 (r_bd_flush hbd)
    rw [hn] at e1
    have e1 : ex_big S 52 0 [.inr 20, .inr 0] [] (mk_W N sc ar) 0 0 = some (some (-1), mk_W N sc ar) := e1
    have hq : e_o (x_frees (x_flush X)).head? = nI (x_slot X) := by
      unfold x_slot
      rw [hrm] at hf ⊢
      cases hl : x_frees (x_flush X) with
      | nil => exact absurd hl hf
      | cons a t => rfl
    rw [hq] at e3
    have z : ¬ (0 : Int32) ≤ -1 := by decide
    refine ⟨sc', ar', ?_, by rw [hrm]; exact r2, m2⟩
    simp only [e_55_0, e_55_1, e_55_4, e_55_5, e_55_6, e_55_9, e_55_10, e_55_13, e_55_14, e_55_15, e_55_18, e_55_19, e_55_20, List.length_cons, List.length_nil, Nat.reduceAdd, Nat.reduceLeDiff, Nat.zero_le, Option.bind_some, ck_55_52, ck_55_54, rk_55, rl_n, rl_s, wo_18, e1, e2, e3, if_neg z]
  · have hrm : x_room X = X := if_neg hn
    have hq : e_o (x_frees X).head? = nI (x_slot X) := by
      unfold x_slot
      rw [hrm]
      cases hl : x_frees X with
      | nil => exact absurd hl hn
      | cons a t => rfl
    rw [hq] at e1
    have hs : x_slot X < 2 * x_C X := by
      have : x_slot X ∈ x_frees (x_room X) := by
        unfold x_slot
        exact x_head_mem (List.length_pos_iff.mpr hf)
      have := (x_frees_mem.mp this).1
      rw [x_room_C] at this
      omega
    have q2 : (0 : Int32) ≤ nI (x_slot X) := nI_pos' (by omega)
    refine ⟨sc, ar, ?_, by rw [hrm]; exact hr, s_X_rf⟩
    simp only [e_55_0, e_55_1, e_55_4, e_55_5, e_55_6, e_55_9, e_55_10, e_55_13, e_55_14, e_55_15, e_55_18, e_55_19, e_55_20, List.length_cons, List.length_nil, Nat.reduceAdd, Nat.reduceLeDiff, Nat.zero_le, Option.bind_some, ck_55_52, ck_55_54, rk_55, rl_n, rl_s, wo_18, e1, if_pos q2]
end RM
