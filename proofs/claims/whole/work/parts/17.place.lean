/-! counting the dirty blocks, and the first of them -/
def p_dc (k : Nat) (g : Nat → Int32) : Nat := ((List.range k).filter (fun s => !(g s == -1))).length
theorem p_dc_s (k : Nat) (g : Nat → Int32) : p_dc (k + 1) g = p_dc k g + (if g k = -1 then 0 else 1) := by
  unfold p_dc
  rw [List.range_succ, List.filter_append, List.length_append]
  congr 1
  by_cases h : g k = -1
  · simp [h]
  · simp [h]
theorem p_dc_le (k : Nat) (g : Nat → Int32) : p_dc k g ≤ k := by
  unfold p_dc
  have := List.length_filter_le (fun s => !(g s == -1)) (List.range k)
  rw [List.length_range] at this
  exact this
theorem p_dc_cnt {N : Nat} {f g : Nat → Int32} {sl dt : Nat → Option Nat} (hr : r_pl N f g sl dt) : p_dc N g = x_cnt dt := by
  unfold p_dc x_cnt
  have dirty : ∀ s, s < N → (g s ≠ -1 ↔ ∃ b d, sl b = some s ∧ dt b = some d) := by
    intro s hs
    constructor
    · intro hg
      apply Classical.byContradiction
      intro hno
      by_cases hx : ∃ b, sl b = some s
      · obtain ⟨b, hb⟩ := hx
        cases hd : dt b with
        | none =>
          have := (hr.1 b s hb).2.2.2
          rw [hd] at this
          exact hg this
        | some d => exact hno ⟨b, d, hb, hd⟩
      · exact hg (hr.2.1 s hs (fun b q => hx ⟨b, q⟩)).2
    · rintro ⟨b, d, hb, hd⟩
      have h1 := (hr.1 b s hb).2.2.2
      rw [hd] at h1
      rw [h1]
      have := (hr.2.2 b d hd).1
      exact nI_ne_m1 (by omega)
  apply Nat.le_antisymm
  · refine Nat.le_trans (xl_le _ (((List.range 16).filter (fun b => (dt b).isSome)).filterMap sl) (List.Pairwise.filter _ List.nodup_range) fun s hs => ?_) (List.length_filterMap_le _ _)
    rw [List.mem_filter, List.mem_range] at hs
    obtain ⟨b, d, hb, hd⟩ := (dirty s hs.1).mp (by simpa using hs.2)
    exact List.mem_filterMap.mpr ⟨b, List.mem_filter.mpr ⟨List.mem_range.mpr (hr.1 b s hb).1, by rw [hd]; rfl⟩, hb⟩
  · refine Nat.le_trans (xl_le _ (((List.range N).filter (fun s => !(g s == -1))).filterMap (fun s => (List.range 16).find? (fun b => sl b == some s))) (List.Pairwise.filter _ List.nodup_range) fun b hb => ?_) (List.length_filterMap_le _ _)
    rw [List.mem_filter, List.mem_range] at hb
    obtain ⟨d, hd⟩ := Option.isSome_iff_exists.mp hb.2
    obtain ⟨-, s, hs⟩ := hr.2.2 b d hd
    obtain ⟨k1, k2, k3, k4⟩ := hr.1 b s hs
    refine List.mem_filterMap.mpr ⟨s, List.mem_filter.mpr ⟨List.mem_range.mpr k2, by simpa using (dirty s k2).mpr ⟨b, d, hs, hd⟩⟩, ?_⟩
    cases hf : (List.range 16).find? (fun b => sl b == some s) with
    | none =>
      have := List.find?_eq_none.mp hf b (List.mem_range.mpr k1)
      simp [hs] at this
    | some a =>
      have ha : sl a = some s := by simpa using List.find?_some hf
      obtain ⟨j1, j2, j3, j4⟩ := hr.1 a s ha
      rw [k3] at j3
      rw [(nI_eq (by omega) (by omega)).mp j3]
section PL2
variable {S : ex_S} {N : Nat} {sc : Nat → Int32} {ar : Nat → Nat → Int32} {h : Nat} {f g : Nat → Int32} {sl dt : Nat → Option Nat}
theorem sm_dirtyCount_loop (hh : h < 2) (hN : N ≤ 14) : ∀ d k, N - k = d → k ≤ N → ex_big S 12 4 [.inr (3 * h + 5), .inl (nI (p_dc k (ar (2 * h + 3)))), .inl (nI k)] [] (mk_W N sc ar) 0 0 = some (some (nI (p_dc N (ar (2 * h + 3)))), mk_W N sc ar) := by
  intro d
  induction d with
  | zero =>
    intro k hd hk
    have h3 : nI N ≤ nI k := nI_le (by omega) (by omega)
    have hkN : k = N := by omega
    subst hkN
    rw [e_12_4]
    simp only [e_12_5, e_12_6, e_12_9, e_12_10, e_12_13, e_12_14, e_12_17, e_12_18, e_12_19, e_12_20, e_12_23, e_12_26, e_12_29, e_12_32, e_12_33, Nat.reduceAdd, Option.bind_some, rk_12, pl_g0 hh, pl_l0 hh, if_pos h3]
  | succ d ih =>
    intro k hd hk
    have hlt : k < N := by omega
    have h3 : ¬ nI N ≤ nI k := nI_ge hlt (by omega)
    have ihk := ih (k + 1) (by omega) (by omega)
    rw [p_dc_s] at ihk
    rw [e_12_4]
    by_cases hg : ar (2 * h + 3) k = -1
    · rw [if_pos hg, Nat.add_zero (p_dc k (ar (2 * h + 3)))] at ihk
      simp only [e_12_5, e_12_6, e_12_9, e_12_10, e_12_13, e_12_14, e_12_17, e_12_18, e_12_19, e_12_20, e_12_23, e_12_26, e_12_29, e_12_32, e_12_33, Nat.reduceAdd, Option.bind_some, rk_12, pl_g0 hh, pl_l0 hh, pl_g1 hh, if_neg h3, pl_r1 hh hlt hN, if_pos hg, nI_1, ihk]
    · rw [if_neg hg] at ihk
      simp only [e_12_5, e_12_6, e_12_9, e_12_10, e_12_13, e_12_14, e_12_17, e_12_18, e_12_19, e_12_20, e_12_23, e_12_26, e_12_29, e_12_32, e_12_33, Nat.reduceAdd, Option.bind_some, rk_12, pl_g0 hh, pl_l0 hh, pl_g1 hh, if_neg h3, pl_r1 hh hlt hN, if_neg hg, nI_1, ihk]
theorem sm_dirtyCount (hh : h < 2) (hN : N ≤ 14) (hr : r_pl N (ar (2 * h + 2)) (ar (2 * h + 3)) sl dt) : ex_big S 12 0 [.inr (3 * h + 5), .inr 0, .inr 0] [] (mk_W N sc ar) 0 0 = some (some (nI (x_cnt dt)), mk_W N sc ar) := by
  have e := sm_dirtyCount_loop (S := S) (sc := sc) (ar := ar) hh hN N 0 (by omega) (by omega)
  rw [p_dc_cnt hr] at e
  have e0 : p_dc 0 (ar (2 * h + 3)) = 0 := rfl
  rw [e0, nI_0] at e
  simp only [e_12_0, e_12_1, e_12_2, e_12_3, Nat.reduceAdd, e]
/-- the best block so far -/
def p_bf (sl dt : Nat → Option Nat) (B k : Nat) (o : Option Nat) : Prop := match o with
  | none => ∀ b s, sl b = some s → s < k → b ∉ x_elig dt B
  | some b0 => ∃ s0, sl b0 = some s0 ∧ s0 < k ∧ b0 ∈ x_elig dt B ∧ ∀ b s, sl b = some s → s < k → b ∈ x_elig dt B → x_before dt b0 b = true
theorem p_bf_keep {B k : Nat} {o : Option Nat} (ho : p_bf sl dt B k o) (hk : ∀ b, sl b = some k → b ∈ x_elig dt B → ∃ b0, o = some b0 ∧ x_before dt b0 b = true) : p_bf sl dt B (k + 1) o := by
  cases o with
  | none =>
    intro b s hs hlt hel
    by_cases hsk : s = k
    · subst hsk
      obtain ⟨b0, h1, -⟩ := hk b hs hel
      cases h1
    · exact ho b s hs (by omega) hel
  | some b0 =>
    obtain ⟨s0, h1, h2, h3, h4⟩ := ho
    refine ⟨s0, h1, by omega, h3, fun b s hs hlt hel => ?_⟩
    by_cases hsk : s = k
    · subst hsk
      obtain ⟨b1, e1, e2⟩ := hk b hs hel
      cases e1
      exact e2
    · exact h4 b s hs (by omega) hel
theorem x_before_iff {a b da db : Nat} (ha : dt a = some da) (hb : dt b = some db) : x_before dt a b = true ↔ da < db ∨ (da = db ∧ a ≤ b) := by
  unfold x_before
  rw [ha, hb]
  simp
theorem x_before_rf (a : Nat) : x_before dt a a = true := by
  unfold x_before
  simp
theorem x_before_tr {a b c : Nat} (h1 : x_before dt a b = true) (h2 : x_before dt b c = true) : x_before dt a c = true := by
  unfold x_before at *
  simp at *
  omega
theorem x_before_as {a b : Nat} (h1 : x_before dt a b = true) (h2 : x_before dt b a = true) : a = b := by
  unfold x_before at *
  simp at *
  omega
theorem p_bf_take {B k b : Nat} {o : Option Nat} (hinj : ∀ a s, sl a = some s → sl b = some s → a = b) (ho : p_bf sl dt B k o) (hs : sl b = some k) (hel : b ∈ x_elig dt B) (hk : ∀ b0, o = some b0 → x_before dt b b0 = true) : p_bf sl dt B (k + 1) (some b) := by
  refine ⟨k, hs, by omega, hel, fun a s ha hlt hea => ?_⟩
  by_cases hsk : s = k
  · subst hsk
    rw [hinj a s ha hs]
    exact x_before_rf b
  · cases o with
    | none => exact absurd hea (ho a s ha (by omega))
    | some b0 =>
      obtain ⟨s0, h1, h2, h3, h4⟩ := ho
      exact x_before_tr (hk b0 rfl) (h4 a s ha (by omega) hea)
theorem x_first_none {B : Nat} (h : x_elig dt B = []) : x_first dt B = none := by
  unfold x_first
  rw [h]
  rfl
theorem x_first_some {B b : Nat} (hb : b ∈ x_elig dt B) (h : ∀ a ∈ x_elig dt B, x_before dt b a = true) : x_first dt B = some b := by
  unfold x_first
  cases hf : (x_elig dt B).find? (fun a => (x_elig dt B).all (x_before dt a)) with
  | none =>
    have := List.find?_eq_none.mp hf b hb
    rw [List.all_eq_true] at this
    exact absurd h this
  | some a =>
    have h1 := List.find?_some hf
    have h2 := List.mem_of_find?_eq_some hf
    rw [List.all_eq_true] at h1
    rw [x_before_as (h1 b hb) (h a h2)]
theorem x_first_mem {B b : Nat} (h : x_first dt B = some b) : b ∈ x_elig dt B := List.mem_of_find?_eq_some h
theorem x_first_nil {B : Nat} (h : x_first dt B = none) : x_elig dt B = [] := by
  apply Classical.byContradiction
  intro hne
  have key : ∀ l : List Nat, l ≠ [] → ∃ b ∈ l, ∀ a ∈ l, x_before dt b a = true := by
    intro l
    induction l with
    | nil => intro h; exact absurd rfl h
    | cons c t ih =>
      intro _
      by_cases ht : t = []
      · subst ht
        refine ⟨c, List.mem_cons_self, fun a ha => ?_⟩
        have : a = c := by simpa using ha
        rw [this]
        exact x_before_rf c
      · obtain ⟨b, hb, h1⟩ := ih ht
        by_cases hcb : x_before dt c b = true
        · refine ⟨c, List.mem_cons_self, fun a ha => ?_⟩
          rcases List.mem_cons.mp ha with rfl | ha
          · exact x_before_rf _
          · exact x_before_tr hcb (h1 a ha)
        · refine ⟨b, List.mem_cons_of_mem _ hb, fun a ha => ?_⟩
          rcases List.mem_cons.mp ha with rfl | ha
          · unfold x_before at *
            simp at *
            omega
          · exact h1 a ha
  obtain ⟨b, hb, h1⟩ := key _ hne
  rw [x_first_some hb h1] at h
  cases h
set_option maxHeartbeats 1000000 in
theorem sm_firstDirty_loop (hh : h < 2) (hN : N ≤ 14) (hr : r_pl N (ar (2 * h + 2)) (ar (2 * h + 3)) sl dt) {e : Int32} {B : Nat} (he : ∀ d, d < 2 ^ 30 → (nI d ≤ e ↔ d < B)) : ∀ d k o, N - k = d → k ≤ N → p_bf sl dt B k o → ex_big S 13 4 [.inr (3 * h + 5), .inl e, .inl (e_o (o.bind sl)), .inl (nI k)] [] (mk_W N sc ar) 0 0 = some (some (e_o ((x_first dt B).bind sl)), mk_W N sc ar) := by
  intro d
  induction d with
  | zero =>
    intro k o hd hk ho
    have h3 : nI N ≤ nI k := nI_le (by omega) (by omega)
    have hfo : x_first dt B = o := by
      cases o with
      | none =>
        apply x_first_none
        rw [List.eq_nil_iff_forall_not_mem]
        intro b hb
        obtain ⟨-, dd, h1, h2⟩ := x_elig_mem.mp hb
        obtain ⟨-, s, hs⟩ := hr.2.2 b dd h1
        exact ho b s hs (by have := (hr.1 b s hs).2.1; omega) hb
      | some b0 =>
        obtain ⟨s0, h1, h2, h4, h5⟩ := ho
        refine x_first_some h4 fun a ha => ?_
        obtain ⟨-, dd, g1, g2⟩ := x_elig_mem.mp ha
        obtain ⟨-, s, hs⟩ := hr.2.2 a dd g1
        exact h5 a s hs (by have := (hr.1 a s hs).2.1; omega) ha
    rw [hfo, e_13_4]
    simp only [e_13_5, e_13_6, e_13_9, e_13_10, e_13_13, e_13_14, e_13_17, e_13_18, e_13_19, e_13_20, e_13_23, e_13_24, e_13_27, e_13_28, e_13_29, e_13_30, e_13_33, e_13_36, e_13_37, e_13_38, e_13_41, e_13_42, e_13_45, e_13_46, e_13_47, e_13_48, e_13_51, e_13_52, e_13_53, e_13_56, e_13_57, e_13_60, e_13_61, e_13_62, e_13_63, e_13_66, e_13_67, e_13_68, e_13_71, e_13_72, e_13_75, e_13_76, e_13_77, e_13_78, e_13_81, e_13_82, e_13_83, e_13_86, e_13_87, e_13_88, e_13_91, e_13_94, e_13_95, Nat.reduceAdd, Option.bind_some, rk_13, pl_g0 hh, pl_l0 hh, if_pos h3]
  | succ d ih =>
    intro k o hd hk ho
    have hlt : k < N := by omega
    have h3 : ¬ nI N ≤ nI k := nI_ge hlt (by omega)
    rw [e_13_4]
    by_cases hg : ar (2 * h + 3) k = -1
    · have hno : ∀ b, sl b = some k → b ∈ x_elig dt B → False := by
        intro b hb hel
        obtain ⟨-, dd, g1, g2⟩ := x_elig_mem.mp hel
        have q := (hr.1 b k hb).2.2.2
        rw [g1, hg] at q
        exact nI_ne_m1 (by have := (hr.2.2 b dd g1).1; omega) q.symm
      have ihk := ih (k + 1) o (by omega) (by omega) (p_bf_keep ho (fun b hb hel => (hno b hb hel).elim))
      simp only [e_13_5, e_13_6, e_13_9, e_13_10, e_13_13, e_13_14, e_13_17, e_13_18, e_13_19, e_13_20, e_13_23, e_13_24, e_13_27, e_13_28, e_13_29, e_13_30, e_13_33, e_13_36, e_13_37, e_13_38, e_13_41, e_13_42, e_13_45, e_13_46, e_13_47, e_13_48, e_13_51, e_13_52, e_13_53, e_13_56, e_13_57, e_13_60, e_13_61, e_13_62, e_13_63, e_13_66, e_13_67, e_13_68, e_13_71, e_13_72, e_13_75, e_13_76, e_13_77, e_13_78, e_13_81, e_13_82, e_13_83, e_13_86, e_13_87, e_13_88, e_13_91, Nat.reduceAdd, Option.bind_some, pl_g0 hh, pl_l0 hh, pl_g1 hh, if_neg h3, pl_r1 hh hlt hN, if_pos hg, nI_1, ihk]
    · have hx : ∃ b, sl b = some k := by
        apply Classical.byContradiction
        intro hno
        exact hg (hr.2.1 k hlt (fun b q => hno ⟨b, q⟩)).2
      obtain ⟨b, hb⟩ := hx
      obtain ⟨b1, b2, b3, b4⟩ := hr.1 b k hb
      cases hdb : dt b with
      | none => rw [hdb] at b4; exact absurd b4 hg
      | some db =>
        rw [hdb] at b4
        have b4 : ar (2 * h + 3) k = nI db := b4
        have hdb30 := (hr.2.2 b db hdb).1
        have hinj : ∀ a s, sl a = some s → sl b = some s → a = b := by
          intro a s ha hb2
          have q1 := (hr.1 a s ha)
          have q2 := (hr.1 b s hb2).2.2.1
          rw [q1.2.2.1] at q2
          exact (nI_eq (by have := q1.1; omega) (by omega)).mp q2
        have hune : ∀ a, sl a = some k → a = b := fun a ha => hinj a k ha hb
        rw [b4] at hg
        by_cases hle : db < B
        · have hel : b ∈ x_elig dt B := x_elig_mem.mpr ⟨b1, db, hdb, hle⟩
          have hle2 : nI db ≤ e := (he db hdb30).mpr hle
          cases o with
          | none =>
            have ihk := ih (k + 1) (some b) (by omega) (by omega) (p_bf_take hinj ho hb hel (fun b0 q => by cases q))
            have q1 : e_o ((some b).bind sl) = nI k := by rw [Option.bind_some, hb]; rfl
            rw [q1] at ihk
            have q2 : e_o ((none : Option Nat).bind sl) = -1 := rfl
            rw [q2]
            simp only [e_13_5, e_13_6, e_13_9, e_13_10, e_13_13, e_13_14, e_13_17, e_13_18, e_13_19, e_13_20, e_13_23, e_13_24, e_13_27, e_13_28, e_13_29, e_13_30, e_13_33, e_13_36, e_13_37, e_13_38, e_13_41, e_13_42, e_13_45, e_13_46, e_13_47, e_13_48, e_13_51, e_13_52, e_13_53, e_13_56, e_13_57, e_13_60, e_13_61, e_13_62, e_13_63, e_13_66, e_13_67, e_13_68, e_13_71, e_13_72, e_13_75, e_13_76, e_13_77, e_13_78, e_13_81, e_13_82, e_13_83, e_13_86, e_13_87, e_13_88, e_13_91, Nat.reduceAdd, Option.bind_some, pl_g0 hh, pl_l0 hh, pl_g1 hh, if_neg h3, pl_r1 hh hlt hN, b4, if_neg hg, if_pos hle2, if_true, nI_1, ihk]
          | some b0 =>
            obtain ⟨s0, h1, h2, h4, h5⟩ := ho
            obtain ⟨c1, c2, c3, c4⟩ := hr.1 b0 s0 h1
            obtain ⟨-, d0, e1, e2⟩ := x_elig_mem.mp h4
            have hd030 := (hr.2.2 b0 d0 e1).1
            rw [e1] at c4
            have c4 : ar (2 * h + 3) s0 = nI d0 := c4
            have hs0 : s0 < N := c2
            have q2 : e_o ((some b0).bind sl) = nI s0 := by rw [Option.bind_some, h1]; rfl
            have q3 : ¬ nI s0 = -1 := nI_ne_m1 (by omega)
            have ho2 : p_bf sl dt B k (some b0) := ⟨s0, h1, h2, h4, h5⟩
            by_cases htake : db < d0 ∨ (db = d0 ∧ b < b0)
            · have ihk := ih (k + 1) (some b) (by omega) (by omega) (p_bf_take hinj ho2 hb hel (fun b' q => by
                cases q
                exact (x_before_iff hdb e1).mpr (by omega)))
              have q1 : e_o ((some b).bind sl) = nI k := by rw [Option.bind_some, hb]; rfl
              rw [q1] at ihk
              rw [q2]
              rcases htake with ht | ⟨ht, ht2⟩
              · have t1 : nI db < nI d0 := nI_lt ht (by omega)
                simp only [e_13_5, e_13_6, e_13_9, e_13_10, e_13_13, e_13_14, e_13_17, e_13_18, e_13_19, e_13_20, e_13_23, e_13_24, e_13_27, e_13_28, e_13_29, e_13_30, e_13_33, e_13_36, e_13_37, e_13_38, e_13_41, e_13_42, e_13_45, e_13_46, e_13_47, e_13_48, e_13_51, e_13_52, e_13_53, e_13_56, e_13_57, e_13_60, e_13_61, e_13_62, e_13_63, e_13_66, e_13_67, e_13_68, e_13_71, e_13_72, e_13_75, e_13_76, e_13_77, e_13_78, e_13_81, e_13_82, e_13_83, e_13_86, e_13_87, e_13_88, e_13_91, Nat.reduceAdd, Option.bind_some, pl_g0 hh, pl_l0 hh, pl_g1 hh, if_neg h3, pl_r1 hh hlt hN, pl_r1 hh hs0 hN, b4, c4, if_neg hg, if_pos hle2, if_neg q3, if_pos t1, nI_1, ihk]
              · have t1 : ¬ nI db < nI d0 := nI_nlt (by omega) (by omega)
                have t2 : nI db = nI d0 := by rw [ht]
                have t3 : ¬ nI b0 ≤ nI b := nI_ge ht2 (by omega)
                simp only [e_13_5, e_13_6, e_13_9, e_13_10, e_13_13, e_13_14, e_13_17, e_13_18, e_13_19, e_13_20, e_13_23, e_13_24, e_13_27, e_13_28, e_13_29, e_13_30, e_13_33, e_13_36, e_13_37, e_13_38, e_13_41, e_13_42, e_13_45, e_13_46, e_13_47, e_13_48, e_13_51, e_13_52, e_13_53, e_13_56, e_13_57, e_13_60, e_13_61, e_13_62, e_13_63, e_13_66, e_13_67, e_13_68, e_13_71, e_13_72, e_13_75, e_13_76, e_13_77, e_13_78, e_13_81, e_13_82, e_13_83, e_13_86, e_13_87, e_13_88, e_13_91, Nat.reduceAdd, Option.bind_some, pl_g0 hh, pl_l0 hh, pl_g1 hh, if_neg h3, pl_r1 hh hlt hN, pl_r1 hh hs0 hN, pl_r0 hh hlt hN, pl_r0 hh hs0 hN, b3, c3, b4, c4, if_neg hg, if_pos hle2, if_neg q3, if_neg t1, if_pos t2, if_neg t3, nI_1, ihk]
            · have ihk := ih (k + 1) (some b0) (by omega) (by omega) (p_bf_keep ho2 (fun a ha hea => by
                rw [hune a ha]
                exact ⟨b0, rfl, (x_before_iff e1 hdb).mpr (by omega)⟩))
              rw [q2] at ihk ⊢
              have t1 : ¬ nI db < nI d0 := nI_nlt (by omega) (by omega)
              by_cases hdd : db = d0
              · have t2 : nI db = nI d0 := by rw [hdd]
                have t3 : nI b0 ≤ nI b := nI_le (by omega) (by omega)
                simp only [e_13_5, e_13_6, e_13_9, e_13_10, e_13_13, e_13_14, e_13_17, e_13_18, e_13_19, e_13_20, e_13_23, e_13_24, e_13_27, e_13_28, e_13_29, e_13_30, e_13_33, e_13_36, e_13_37, e_13_38, e_13_41, e_13_42, e_13_45, e_13_46, e_13_47, e_13_48, e_13_51, e_13_52, e_13_53, e_13_56, e_13_57, e_13_60, e_13_61, e_13_62, e_13_63, e_13_66, e_13_67, e_13_68, e_13_71, e_13_72, e_13_75, e_13_76, e_13_77, e_13_78, e_13_81, e_13_82, e_13_83, e_13_86, e_13_87, e_13_88, e_13_91, Nat.reduceAdd, Option.bind_some, pl_g0 hh, pl_l0 hh, pl_g1 hh, if_neg h3, pl_r1 hh hlt hN, pl_r1 hh hs0 hN, pl_r0 hh hlt hN, pl_r0 hh hs0 hN, b3, c3, b4, c4, if_neg hg, if_pos hle2, if_neg q3, if_neg t1, if_pos t2, if_pos t3, nI_1, ihk]
              · have t2 : ¬ nI db = nI d0 := fun q => hdd ((nI_eq (by omega) (by omega)).mp q)
                simp only [e_13_5, e_13_6, e_13_9, e_13_10, e_13_13, e_13_14, e_13_17, e_13_18, e_13_19, e_13_20, e_13_23, e_13_24, e_13_27, e_13_28, e_13_29, e_13_30, e_13_33, e_13_36, e_13_37, e_13_38, e_13_41, e_13_42, e_13_45, e_13_46, e_13_47, e_13_48, e_13_51, e_13_52, e_13_53, e_13_56, e_13_57, e_13_60, e_13_61, e_13_62, e_13_63, e_13_66, e_13_67, e_13_68, e_13_71, e_13_72, e_13_75, e_13_76, e_13_77, e_13_78, e_13_81, e_13_82, e_13_83, e_13_86, e_13_87, e_13_88, e_13_91, Nat.reduceAdd, Option.bind_some, pl_g0 hh, pl_l0 hh, pl_g1 hh, if_neg h3, pl_r1 hh hlt hN, pl_r1 hh hs0 hN, b4, c4, if_neg hg, if_pos hle2, if_neg q3, if_neg t1, if_neg t2, nI_1, ihk]
        · have hle2 : ¬ nI db ≤ e := fun q => hle ((he db hdb30).mp q)
          have ihk := ih (k + 1) o (by omega) (by omega) (p_bf_keep ho (fun a ha hea => by
            rw [hune a ha] at hea
            obtain ⟨-, dd, g1, g2⟩ := x_elig_mem.mp hea
            rw [hdb] at g1
            cases g1
            exact absurd g2 hle))
          simp only [e_13_5, e_13_6, e_13_9, e_13_10, e_13_13, e_13_14, e_13_17, e_13_18, e_13_19, e_13_20, e_13_23, e_13_24, e_13_27, e_13_28, e_13_29, e_13_30, e_13_33, e_13_36, e_13_37, e_13_38, e_13_41, e_13_42, e_13_45, e_13_46, e_13_47, e_13_48, e_13_51, e_13_52, e_13_53, e_13_56, e_13_57, e_13_60, e_13_61, e_13_62, e_13_63, e_13_66, e_13_67, e_13_68, e_13_71, e_13_72, e_13_75, e_13_76, e_13_77, e_13_78, e_13_81, e_13_82, e_13_83, e_13_86, e_13_87, e_13_88, e_13_91, Nat.reduceAdd, Option.bind_some, pl_g0 hh, pl_l0 hh, pl_g1 hh, if_neg h3, pl_r1 hh hlt hN, b4, if_neg hg, if_neg hle2, nI_1, ihk]
theorem sm_firstDirty (hh : h < 2) (hN : N ≤ 14) (hr : r_pl N (ar (2 * h + 2)) (ar (2 * h + 3)) sl dt) {e : Int32} {B : Nat} (he : ∀ d, d < 2 ^ 30 → (nI d ≤ e ↔ d < B)) : ex_big S 13 0 [.inr (3 * h + 5), .inl e, .inr 0, .inr 0] [] (mk_W N sc ar) 0 0 = some (some (e_o ((x_first dt B).bind sl)), mk_W N sc ar) := by
  have e1 := sm_firstDirty_loop (S := S) (sc := sc) hh hN hr he N 0 none (by omega) (by omega) (fun b s _ q => absurd q (Nat.not_lt_zero s))
  have q2 : e_o ((none : Option Nat).bind sl) = -1 := rfl
  rw [nI_0, q2] at e1
  simp only [e_13_0, e_13_1, e_13_2, e_13_3, Nat.reduceAdd, e1]
end PL2
