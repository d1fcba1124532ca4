/-! lists of blocks -/
theorem xl_le {α : Type} [DecidableEq α] : ∀ (l1 l2 : List α), l1.Nodup → (∀ x ∈ l1, x ∈ l2) → l1.length ≤ l2.length := by
  intro l1
  induction l1 with
  | nil => intro l2 _ _; exact Nat.zero_le _
  | cons a t ih =>
    intro l2 hn hs
    have ha : a ∈ l2 := hs a List.mem_cons_self
    obtain ⟨h1, h2⟩ := List.nodup_cons.mp hn
    have h3 := ih (l2.erase a) h2 (fun x hx => (List.mem_erase_of_ne (fun (e : x = a) => h1 (e ▸ hx))).mpr (hs x (List.mem_cons_of_mem _ hx)))
    rw [List.length_erase_of_mem ha] at h3
    have h4 : 0 < l2.length := List.length_pos_of_mem ha
    rw [List.length_cons]
    omega
theorem xl_eq {α : Type} [DecidableEq α] {l1 l2 : List α} (h1 : l1.Nodup) (h2 : l2.Nodup) (h : ∀ x, x ∈ l1 ↔ x ∈ l2) : l1.length = l2.length :=
  Nat.le_antisymm (xl_le l1 l2 h1 (fun x hx => (h x).mp hx)) (xl_le l2 l1 h2 (fun x hx => (h x).mpr hx))
/-- a list without a block -/
def x_rm (b : Nat) (l : List Nat) : List Nat := l.filter (fun a => !(a == b))
theorem x_rm_mem {a b : Nat} {l : List Nat} : a ∈ x_rm b l ↔ a ∈ l ∧ a ≠ b := by
  unfold x_rm
  rw [List.mem_filter]
  simp
theorem x_rm_not {b : Nat} {l : List Nat} (h : b ∉ l) : x_rm b l = l := by
  unfold x_rm
  rw [List.filter_eq_self]
  intro a ha
  have : a ≠ b := fun e => h (e ▸ ha)
  simp [this]
theorem x_rm_nodup {b : Nat} {l : List Nat} (h : l.Nodup) : (x_rm b l).Nodup := List.Pairwise.filter _ h
theorem x_rm_len {b : Nat} {l : List Nat} (h : l.Nodup) (hb : b ∈ l) : (x_rm b l).length + 1 = l.length := by
  have h1 : (b :: x_rm b l).Nodup := List.nodup_cons.mpr ⟨fun q => (x_rm_mem.mp q).2 rfl, x_rm_nodup h⟩
  have h2 := xl_eq h1 h (fun x => by
    rw [List.mem_cons, x_rm_mem]
    constructor
    · rintro (rfl | h)
      · exact hb
      · exact h.1
    · intro hx
      by_cases e : x = b
      · exact Or.inl e
      · exact Or.inr ⟨hx, e⟩)
  exact h2
theorem x_rm_head {b : Nat} {l : List Nat} (h : (b :: l).Nodup) : x_rm b (b :: l) = l := by
  have hb : b ∉ l := (List.nodup_cons.mp h).1
  have : x_rm b (b :: l) = x_rm b l := by simp [x_rm]
  rw [this, x_rm_not hb]
/-! the mathematical state: C; store; numbers; a held block's slot; a dirty block's epoch; the journal's slot and epoch of a block; the lists; the target; the present epoch; how many drains; the latest access a hit -/
abbrev xs_T : Type := Nat × (Nat → Int32) × (Nat → Int32) × (Nat → Option Nat) × (Nat → Option Nat) × (Nat → Option Nat) × (Nat → Option Nat) × (Nat → List Nat) × Nat × Nat × Int32 × Bool
def x_C (X : xs_T) : Nat := X.1
def x_st (X : xs_T) : Nat → Int32 := X.2.1
def x_nu (X : xs_T) : Nat → Int32 := X.2.2.1
def x_sl (X : xs_T) : Nat → Option Nat := X.2.2.2.1
def x_dt (X : xs_T) : Nat → Option Nat := X.2.2.2.2.1
def x_js (X : xs_T) : Nat → Option Nat := X.2.2.2.2.2.1
def x_jd (X : xs_T) : Nat → Option Nat := X.2.2.2.2.2.2.1
def x_L (X : xs_T) : Nat → List Nat := X.2.2.2.2.2.2.2.1
def x_go (X : xs_T) : Nat := X.2.2.2.2.2.2.2.2.1
def x_ep (X : xs_T) : Nat := X.2.2.2.2.2.2.2.2.2.1
def x_dr (X : xs_T) : Int32 := X.2.2.2.2.2.2.2.2.2.2.1
def x_hi (X : xs_T) : Bool := X.2.2.2.2.2.2.2.2.2.2.2
def x_up {α : Type} (f : Nat → α) (k : Nat) (v : α) : Nat → α := fun j => if j = k then v else f j
/-- b comes into list i -/
def x_comes (b i : Nat) (X : xs_T) : xs_T := (x_C X, x_st X, x_nu X, x_sl X, x_dt X, x_js X, x_jd X, (fun j => if j = i then x_rm b (x_L X j) ++ [b] else x_rm b (x_L X j)), x_go X, x_ep X, x_dr X, x_hi X)
/-- b is in no list any more -/
def x_forget (b : Nat) (X : xs_T) : xs_T := (x_C X, x_st X, x_nu X, x_sl X, x_dt X, x_js X, x_jd X, (fun j => x_rm b (x_L X j)), x_go X, x_ep X, x_dr X, x_hi X)
def x_goal (g : Nat) (X : xs_T) : xs_T := (x_C X, x_st X, x_nu X, x_sl X, x_dt X, x_js X, x_jd X, x_L X, g, x_ep X, x_dr X, x_hi X)
def x_hit (h : Bool) (X : xs_T) : xs_T := (x_C X, x_st X, x_nu X, x_sl X, x_dt X, x_js X, x_jd X, x_L X, x_go X, x_ep X, x_dr X, h)
def x_flush (X : xs_T) : xs_T := (x_C X, x_st X, x_nu X, x_sl X, x_dt X, x_sl X, x_dt X, x_L X, x_go X, x_ep X + 1, x_dr X, x_hi X)
/-- what a block says -/
def x_says (X : xs_T) (b : Nat) : Int32 := match x_sl X b with
  | some s => x_nu X s
  | none => x_st X b
def x_drain (b : Nat) (X : xs_T) : xs_T := (x_C X, x_up (x_st X) b (x_says X b), x_nu X, x_sl X, x_up (x_dt X) b none, x_js X, x_jd X, x_L X, x_go X, x_ep X, x_dr X + 1, x_hi X)
/-- is b dirty with an epoch less than e? -/
def x_el (dt : Nat → Option Nat) (e b : Nat) : Bool := match dt b with
  | some d => decide (d < e)
  | none => false
def x_elig (dt : Nat → Option Nat) (e : Nat) : List Nat := (List.range 16).filter (x_el dt e)
/-- all dirty blocks with an epoch less than e are drained -/
def x_drains (e : Nat) (X : xs_T) : xs_T := (x_C X, (fun b => if b ∈ x_elig (x_dt X) e then x_says X b else x_st X b), x_nu X, x_sl X, (fun b => if b ∈ x_elig (x_dt X) e then none else x_dt X b), x_js X, x_jd X, x_L X, x_go X, x_ep X, x_dr X + nI (x_elig (x_dt X) e).length, x_hi X)
def x_unhold (b : Nat) (X : xs_T) : xs_T := (x_C X, x_st X, x_nu X, x_up (x_sl X) b none, x_up (x_dt X) b none, x_js X, x_jd X, x_L X, x_go X, x_ep X, x_dr X, x_hi X)
/-- b is in slot s, with this number, dirty with this epoch or clean -/
def x_put (b s : Nat) (n : Int32) (d : Option Nat) (X : xs_T) : xs_T := (x_C X, x_st X, x_up (x_nu X) s n, x_up (x_sl X) b (some s), x_up (x_dt X) b d, x_js X, x_jd X, x_L X, x_go X, x_ep X, x_dr X, x_hi X)
def x_free (X : xs_T) (s : Nat) : Bool := (List.range 16).all (fun b => !(x_sl X b == some s) && !(x_js X b == some s))
def x_frees (X : xs_T) : List Nat := (List.range (2 * x_C X)).filter (x_free X)
/-- the state in which a new slot is there, and the slot -/
def x_room (X : xs_T) : xs_T := if x_frees X = [] then x_flush X else X
def x_slot (X : xs_T) : Nat := (x_frees (x_room X)).headD 0
def x_give0 (b : Nat) (X : xs_T) : xs_T := match x_dt X b with
  | none => X
  | some e => x_drains (e + 1) (if e = x_ep X then x_flush X else X)
def x_give (b : Nat) (X : xs_T) : xs_T := x_unhold b (x_give0 b X)
def x_replace (b : Nat) (X : xs_T) : xs_T := if 0 < (x_L X 0).length ∧ (x_go X < (x_L X 0).length ∨ ((x_L X 0).length = x_go X ∧ b ∈ x_L X 3)) then x_comes ((x_L X 0).headD 0) 2 (x_give ((x_L X 0).headD 0) X) else if 0 < (x_L X 1).length then x_comes ((x_L X 1).headD 0) 3 (x_give ((x_L X 1).headD 0) X) else X
/-- room for a block that is in no list -/
def x_stranger (b : Nat) (X : xs_T) : xs_T :=
  if (x_L X 0).length + (x_L X 2).length = x_C X then
    if 0 < (x_L X 2).length then x_replace b (x_forget ((x_L X 2).headD 0) X) else x_forget ((x_L X 0).headD 0) (x_give ((x_L X 0).headD 0) X)
  else if x_C X ≤ (x_L X 0).length + (x_L X 2).length + (x_L X 1).length + (x_L X 3).length then
    if (x_L X 0).length + (x_L X 2).length + (x_L X 1).length + (x_L X 3).length = 2 * x_C X then x_replace b (x_forget ((x_L X 3).headD 0) X) else x_replace b X
  else X
def x_miss (b : Nat) (X : xs_T) : xs_T :=
  if b ∈ x_L X 2 then x_comes b 1 (x_replace b (x_goal (min (x_C X) (x_go X + max 1 ((x_L X 3).length / (x_L X 2).length))) X))
  else if b ∈ x_L X 3 then x_comes b 1 (x_replace b (x_goal (x_go X - max 1 ((x_L X 2).length / (x_L X 3).length)) X))
  else x_comes b 0 (x_stranger b X)
def x_place (b : Nat) (n : Int32) (dirty : Bool) (X : xs_T) : xs_T := x_put b (x_slot X) n (if dirty then some (x_ep (x_room X)) else none) (x_room X)
def x_access (b : Nat) (X : xs_T) : xs_T :=
  if b ∈ x_L X 0 ∨ b ∈ x_L X 1 then x_comes b 1 (x_hit true X)
  else let Y := x_miss b (x_hit false X)
    x_place b (x_st Y b) false Y
/-- the dirty block with an epoch less than e that is the first -/
def x_before (dt : Nat → Option Nat) (a b : Nat) : Bool := decide ((dt a).getD 0 < (dt b).getD 0) || (decide ((dt a).getD 0 = (dt b).getD 0) && decide (a ≤ b))
def x_first (dt : Nat → Option Nat) (e : Nat) : Option Nat := (x_elig dt e).find? (fun a => (x_elig dt e).all (x_before dt a))
def x_tick (X : xs_T) : xs_T := match x_first (x_dt X) (x_ep X) with
  | some b => x_drain b X
  | none => X
def x_detach (X : xs_T) : xs_T := let Y := x_drains (x_ep X + 1) X
  (x_C Y, x_st Y, x_nu Y, (fun _ => none), (fun _ => none), (fun _ => none), (fun _ => none), (fun _ => []), 0, x_ep Y, x_dr Y, x_hi Y)
def x_ofslots (C : Nat) (js : Nat → Option Nat) : List Nat := (List.range (2 * C)).filterMap (fun s => (List.range 16).find? (fun b => js b == some s))
def x_crash (X : xs_T) : xs_T := (x_C X, x_st X, x_nu X, x_js X, x_jd X, x_js X, x_jd X, (fun i => if i = 0 then x_ofslots (x_C X) (x_js X) else []), 0, x_ep X, x_dr X, x_hi X)
def x_lose (X : xs_T) : xs_T := (x_C X, x_st X, x_nu X, (fun _ => none), (fun _ => none), (fun _ => none), (fun _ => none), (fun _ => []), 0, 0, x_dr X, x_hi X)
def x_write (b : Nat) (n : Int32) (X : xs_T) : xs_T := x_place b n true (x_access b X)
def x_new (C : Nat) : xs_T := (C, (fun _ => 0), (fun _ => 0), (fun _ => none), (fun _ => none), (fun _ => none), (fun _ => none), (fun _ => []), 0, 0, 0, false)
theorem x_elig_mem {dt : Nat → Option Nat} {e b : Nat} : b ∈ x_elig dt e ↔ b < 16 ∧ ∃ d, dt b = some d ∧ d < e := by
  unfold x_elig
  rw [List.mem_filter, List.mem_range]
  constructor
  · rintro ⟨h1, h2⟩
    unfold x_el at h2
    split at h2
    · rename_i d hd
      exact ⟨h1, d, hd, by simpa using h2⟩
    · cases h2
  · rintro ⟨h1, d, h2, h3⟩
    refine ⟨h1, ?_⟩
    unfold x_el
    rw [h2]
    simpa using h3
theorem x_elig_nodup (dt : Nat → Option Nat) (e : Nat) : (x_elig dt e).Nodup := List.Pairwise.filter _ List.nodup_range
theorem x_elig_up (dt : Nat → Option Nat) (e b : Nat) : x_elig (x_up dt b none) e = x_rm b (x_elig dt e) := by
  unfold x_elig x_rm
  rw [List.filter_filter]
  refine List.filter_congr fun a _ => ?_
  unfold x_el x_up
  by_cases h : a = b
  · simp [h]
  · simp [h]
theorem x_drains_nil {e : Nat} {X : xs_T} (h : x_elig (x_dt X) e = []) : x_drains e X = X := by
  unfold x_drains
  rw [h]
  simp only [List.not_mem_nil, if_false, List.length_nil]
  rw [nI_0]
  obtain ⟨a1, a2, a3, a4, a5, a6, a7, a8, a9, a10, a11, a12⟩ := X
  simp [x_C, x_st, x_nu, x_sl, x_dt, x_js, x_jd, x_L, x_go, x_ep, x_dr, x_hi]
theorem x_drains_step {e b : Nat} {X : xs_T} (h : b ∈ x_elig (x_dt X) e) : x_drains e (x_drain b X) = x_drains e X := by
  have hel : x_elig (x_dt (x_drain b X)) e = x_rm b (x_elig (x_dt X) e) := x_elig_up _ _ _
  have hlen := x_rm_len (x_elig_nodup (x_dt X) e) h
  have e1 : (fun a => if a ∈ x_elig (x_dt (x_drain b X)) e then x_says (x_drain b X) a else x_st (x_drain b X) a) = (fun a => if a ∈ x_elig (x_dt X) e then x_says X a else x_st X a) := by
    funext a
    rw [hel]
    by_cases ha : a = b
    · subst ha
      rw [if_neg (fun q => (x_rm_mem.mp q).2 rfl), if_pos h]
      simp [x_drain, x_st, x_up]
    · have e2 : x_says (x_drain b X) a = x_says X a := by
        simp [x_says, x_drain, x_sl, x_nu, x_st, x_up, ha]
      have e3 : x_st (x_drain b X) a = x_st X a := by
        simp [x_drain, x_st, x_up, ha]
      rw [e2, e3]
      by_cases hm : a ∈ x_elig (x_dt X) e
      · rw [if_pos hm, if_pos (x_rm_mem.mpr ⟨hm, ha⟩)]
      · rw [if_neg hm, if_neg (fun q => hm (x_rm_mem.mp q).1)]
  have e4 : (fun a => if a ∈ x_elig (x_dt (x_drain b X)) e then none else x_dt (x_drain b X) a) = (fun a => if a ∈ x_elig (x_dt X) e then none else x_dt X a) := by
    funext a
    rw [hel]
    by_cases ha : a = b
    · subst ha
      rw [if_neg (fun q => (x_rm_mem.mp q).2 rfl), if_pos h]
      simp [x_drain, x_dt, x_up]
    · have e3 : x_dt (x_drain b X) a = x_dt X a := by
        simp [x_drain, x_dt, x_up, ha]
      rw [e3]
      by_cases hm : a ∈ x_elig (x_dt X) e
      · rw [if_pos hm, if_pos (x_rm_mem.mpr ⟨hm, ha⟩)]
      · rw [if_neg hm, if_neg (fun q => hm (x_rm_mem.mp q).1)]
  have e5 : x_dr (x_drain b X) + nI (x_elig (x_dt (x_drain b X)) e).length = x_dr X + nI (x_elig (x_dt X) e).length := by
    rw [hel, ← hlen, nI_succ]
    show x_dr X + 1 + _ = _
    rw [Int32.add_assoc, Int32.add_comm 1]
  unfold x_drains
  rw [e1, e4, e5]
  rfl
theorem x_drains_len {e b : Nat} {X : xs_T} (h : b ∈ x_elig (x_dt X) e) : (x_elig (x_dt (x_drain b X)) e).length + 1 = (x_elig (x_dt X) e).length := by
  rw [show x_elig (x_dt (x_drain b X)) e = x_rm b (x_elig (x_dt X) e) from x_elig_up _ _ _]
  exact x_rm_len (x_elig_nodup (x_dt X) e) h
/-! what holds of the mathematical state between calls -/
/-- how many blocks have a slot -/
def x_cnt (sl : Nat → Option Nat) : Nat := ((List.range 16).filter (fun b => (sl b).isSome)).length
theorem x_cnt_le {s1 s2 : Nat → Option Nat} (h : ∀ b s, s1 b = some s → ∃ t, s2 b = some t) : x_cnt s1 ≤ x_cnt s2 := by
  unfold x_cnt
  refine xl_le _ _ (List.Pairwise.filter _ List.nodup_range) fun b hb => ?_
  rw [List.mem_filter] at hb ⊢
  refine ⟨hb.1, ?_⟩
  obtain ⟨s, hs⟩ := Option.isSome_iff_exists.mp hb.2
  obtain ⟨t, ht⟩ := h b s hs
  rw [ht]; rfl
def x_pl (C ep : Nat) (sl dt : Nat → Option Nat) : Prop := (∀ b s, sl b = some s → b < 16 ∧ s < 2 * C) ∧ (∀ b b2 s, sl b = some s → sl b2 = some s → b = b2) ∧ (∀ b d, dt b = some d → d ≤ ep ∧ ∃ s, sl b = some s) ∧ x_cnt sl ≤ C
def x_ls (L : Nat → List Nat) : Prop := (∀ i, (L i).Nodup) ∧ (∀ i b, b ∈ L i → b < 16 ∧ i < 4) ∧ ∀ i j b, b ∈ L i → b ∈ L j → i = j
def x_he (sl : Nat → Option Nat) (L : Nat → List Nat) : Prop := ∀ b, (∃ s, sl b = some s) ↔ (b ∈ L 0 ∨ b ∈ L 1)
def x_sz (C : Nat) (L : Nat → List Nat) : Prop := (L 0).length + (L 1).length ≤ C ∧ (L 0).length + (L 2).length ≤ C ∧ (L 0).length + (L 1).length + (L 2).length + (L 3).length ≤ 2 * C ∧ (0 < (L 2).length + (L 3).length → (L 0).length + (L 1).length = C)
/-- all but the sizes -/
def x_wk (X : xs_T) : Prop := (1 ≤ x_C X ∧ x_C X ≤ 7) ∧ x_pl (x_C X) (x_ep X) (x_sl X) (x_dt X) ∧ x_pl (x_C X) (x_ep X) (x_js X) (x_jd X) ∧ x_ls (x_L X) ∧ x_he (x_sl X) (x_L X) ∧ x_go X ≤ x_C X
def x_iv (X : xs_T) : Prop := x_wk X ∧ x_sz (x_C X) (x_L X)
theorem x_pl_mono {C e1 e2 : Nat} {sl dt : Nat → Option Nat} (h : x_pl C e1 sl dt) (he : e1 ≤ e2) : x_pl C e2 sl dt := ⟨h.1, h.2.1, fun b d hd => ⟨Nat.le_trans (h.2.2.1 b d hd).1 he, (h.2.2.1 b d hd).2⟩, h.2.2.2⟩
theorem x_pl_up {C ep : Nat} {sl dt : Nat → Option Nat} (b : Nat) (h : x_pl C ep sl dt) : x_pl C ep (x_up sl b none) (x_up dt b none) := by
  have key : ∀ a s, x_up sl b none a = some s → sl a = some s := by
    intro a s hs
    unfold x_up at hs
    split at hs
    · cases hs
    · exact hs
  refine ⟨fun a s hs => h.1 a s (key a s hs), fun a a2 s h1 h2 => h.2.1 a a2 s (key _ _ h1) (key _ _ h2), fun a d hd => ?_, Nat.le_trans (x_cnt_le (fun a s hs => ⟨s, key a s hs⟩)) h.2.2.2⟩
  unfold x_up at hd ⊢
  split at hd
  · cases hd
  · rename_i hne
    rw [if_neg hne]
    exact h.2.2.1 a d hd
theorem x_pl_drains {C ep e : Nat} {sl dt : Nat → Option Nat} (h : x_pl C ep sl dt) : x_pl C ep sl (fun b => if b ∈ x_elig dt e then none else dt b) := by
  refine ⟨h.1, h.2.1, fun a d hd => ?_, h.2.2.2⟩
  dsimp only at hd
  split at hd
  · cases hd
  · exact h.2.2.1 a d hd
theorem x_give_C (b : Nat) (X : xs_T) : x_C (x_give b X) = x_C X := by
  unfold x_give x_give0
  split
  · rfl
  · split <;> rfl
theorem x_give_L (b : Nat) (X : xs_T) : x_L (x_give b X) = x_L X := by
  unfold x_give x_give0
  split
  · rfl
  · split <;> rfl
theorem x_give_go (b : Nat) (X : xs_T) : x_go (x_give b X) = x_go X := by
  unfold x_give x_give0
  split
  · rfl
  · split <;> rfl
theorem x_give_sl (b : Nat) (X : xs_T) : x_sl (x_give b X) = x_up (x_sl X) b none := by
  unfold x_give x_give0
  split
  · rfl
  · split <;> rfl
theorem x_give_ep (b : Nat) (X : xs_T) : x_ep X ≤ x_ep (x_give b X) ∧ x_ep (x_give b X) ≤ x_ep X + 1 := by
  unfold x_give x_give0
  split
  · exact ⟨Nat.le_refl _, Nat.le_succ _⟩
  · split
    · exact ⟨Nat.le_succ _, Nat.le_refl _⟩
    · exact ⟨Nat.le_refl _, Nat.le_succ _⟩
theorem x_give_pl (b : Nat) (X : xs_T) (h1 : x_pl (x_C X) (x_ep X) (x_sl X) (x_dt X)) (h2 : x_pl (x_C X) (x_ep X) (x_js X) (x_jd X)) : x_pl (x_C X) (x_ep (x_give b X)) (x_sl (x_give b X)) (x_dt (x_give b X)) ∧ x_pl (x_C X) (x_ep (x_give b X)) (x_js (x_give b X)) (x_jd (x_give b X)) := by
  unfold x_give x_give0
  split
  · exact ⟨x_pl_up b h1, h2⟩
  · split
    · exact ⟨x_pl_up b (x_pl_drains (x_pl_mono h1 (Nat.le_succ _))), x_pl_mono h1 (Nat.le_succ _)⟩
    · exact ⟨x_pl_up b (x_pl_drains h1), h2⟩
/-- lists behind a coming -/
theorem x_ls_comes {L : Nat → List Nat} (h : x_ls L) {b i : Nat} (hb : b < 16) (hi : i < 4) : x_ls (fun j => if j = i then x_rm b (L j) ++ [b] else x_rm b (L j)) := by
  have key : ∀ j a, a ∈ (if j = i then x_rm b (L j) ++ [b] else x_rm b (L j)) → (a = b ∧ j = i) ∨ (a ≠ b ∧ a ∈ L j) := by
    intro j a ha
    split at ha
    · rename_i hj
      rcases List.mem_append.mp ha with h1 | h1
      · exact Or.inr ⟨(x_rm_mem.mp h1).2, (x_rm_mem.mp h1).1⟩
      · exact Or.inl ⟨by simpa using h1, hj⟩
    · exact Or.inr ⟨(x_rm_mem.mp ha).2, (x_rm_mem.mp ha).1⟩
  refine ⟨fun j => ?_, fun j a ha => ?_, fun j k a h1 h2 => ?_⟩
  · dsimp only
    split
    · refine List.nodup_append.mpr ⟨x_rm_nodup (h.1 j), by simp, ?_⟩
      intro x hx y hy
      have : y = b := by simpa using hy
      rw [this]
      exact (x_rm_mem.mp hx).2
    · exact x_rm_nodup (h.1 j)
  · rcases key j a ha with ⟨rfl, rfl⟩ | ⟨-, h1⟩
    · exact ⟨hb, hi⟩
    · exact h.2.1 j a h1
  · rcases key j a h1 with ⟨e1, e2⟩ | ⟨e1, e2⟩ <;> rcases key k a h2 with ⟨e3, e4⟩ | ⟨e3, e4⟩
    · rw [e2, e4]
    · exact absurd e1 e3
    · exact absurd e3 e1
    · exact h.2.2 j k a e2 e4
theorem x_ls_forget {L : Nat → List Nat} (h : x_ls L) (b : Nat) : x_ls (fun j => x_rm b (L j)) := ⟨fun j => x_rm_nodup (h.1 j), fun j a ha => h.2.1 j a (x_rm_mem.mp ha).1, fun j k a h1 h2 => h.2.2 j k a (x_rm_mem.mp h1).1 (x_rm_mem.mp h2).1⟩
theorem x_comes_mem {X : xs_T} {b i j a : Nat} : a ∈ x_L (x_comes b i X) j ↔ (a = b ∧ j = i) ∨ (a ≠ b ∧ a ∈ x_L X j) := by
  show a ∈ (if j = i then x_rm b (x_L X j) ++ [b] else x_rm b (x_L X j)) ↔ _
  by_cases hj : j = i
  · rw [if_pos hj, List.mem_append, x_rm_mem, List.mem_singleton]
    constructor
    · rintro (h | h)
      · exact Or.inr ⟨h.2, h.1⟩
      · exact Or.inl ⟨h, hj⟩
    · rintro (h | h)
      · exact Or.inr h.1
      · exact Or.inl ⟨h.2, h.1⟩
  · rw [if_neg hj, x_rm_mem]
    constructor
    · rintro h
      exact Or.inr ⟨h.2, h.1⟩
    · rintro (h | h)
      · exact absurd h.2 hj
      · exact ⟨h.2, h.1⟩
/-- an old one is given up and comes into a list of ghosts -/
theorem x_wk_ghost {X : xs_T} (h : x_wk X) {o i : Nat} (ho : o < 16) (hi : i = 2 ∨ i = 3) : x_wk (x_comes o i (x_give o X)) := by
  obtain ⟨h1, h2, h3, h4, h5, h6⟩ := h
  obtain ⟨g1, g2⟩ := x_give_pl o X h2 h3
  refine ⟨?_, ?_, ?_, ?_, ?_, ?_⟩
  · show 1 ≤ x_C (x_give o X) ∧ x_C (x_give o X) ≤ 7
    rw [x_give_C]; exact h1
  · show x_pl (x_C (x_give o X)) (x_ep (x_give o X)) (x_sl (x_give o X)) (x_dt (x_give o X))
    rw [x_give_C]; exact g1
  · show x_pl (x_C (x_give o X)) (x_ep (x_give o X)) (x_js (x_give o X)) (x_jd (x_give o X))
    rw [x_give_C]; exact g2
  · show x_ls (fun j => if j = i then x_rm o (x_L (x_give o X) j) ++ [o] else x_rm o (x_L (x_give o X) j))
    rw [x_give_L]
    exact x_ls_comes h4 ho (by omega)
  · intro b
    rw [x_comes_mem, x_comes_mem]
    show (∃ s, x_sl (x_give o X) b = some s) ↔ _
    rw [x_give_sl, x_give_L]
    by_cases hb : b = o
    · subst hb
      constructor
      · rintro ⟨s, hs⟩
        simp [x_up] at hs
      · rintro ((⟨-, e⟩ | ⟨e, -⟩) | (⟨-, e⟩ | ⟨e, -⟩))
        · omega
        · exact absurd rfl e
        · omega
        · exact absurd rfl e
    · have e : x_up (x_sl X) o none b = x_sl X b := by simp [x_up, hb]
      rw [e, h5 b]
      constructor
      · rintro (e | e)
        · exact Or.inl (Or.inr ⟨hb, e⟩)
        · exact Or.inr (Or.inr ⟨hb, e⟩)
      · rintro ((⟨e, -⟩ | ⟨-, e⟩) | (⟨e, -⟩ | ⟨-, e⟩))
        · exact absurd e hb
        · exact Or.inl e
        · exact absurd e hb
        · exact Or.inr e
  · show x_go (x_give o X) ≤ x_C (x_give o X)
    rw [x_give_go, x_give_C]; exact h6
/-- the oldest of R1 is given up and is in no list -/
theorem x_wk_gone {X : xs_T} (h : x_wk X) {o : Nat} : x_wk (x_forget o (x_give o X)) := by
  obtain ⟨h1, h2, h3, h4, h5, h6⟩ := h
  obtain ⟨g1, g2⟩ := x_give_pl o X h2 h3
  refine ⟨?_, ?_, ?_, ?_, ?_, ?_⟩
  · show 1 ≤ x_C (x_give o X) ∧ x_C (x_give o X) ≤ 7
    rw [x_give_C]; exact h1
  · show x_pl (x_C (x_give o X)) (x_ep (x_give o X)) (x_sl (x_give o X)) (x_dt (x_give o X))
    rw [x_give_C]; exact g1
  · show x_pl (x_C (x_give o X)) (x_ep (x_give o X)) (x_js (x_give o X)) (x_jd (x_give o X))
    rw [x_give_C]; exact g2
  · show x_ls (fun j => x_rm o (x_L (x_give o X) j))
    rw [x_give_L]
    exact x_ls_forget h4 o
  · intro b
    show (∃ s, x_sl (x_give o X) b = some s) ↔ (b ∈ x_rm o (x_L (x_give o X) 0) ∨ b ∈ x_rm o (x_L (x_give o X) 1))
    rw [x_give_sl, x_give_L, x_rm_mem, x_rm_mem]
    by_cases hb : b = o
    · subst hb
      constructor
      · rintro ⟨s, hs⟩
        simp [x_up] at hs
      · rintro (⟨-, e⟩ | ⟨-, e⟩)
        · exact absurd rfl e
        · exact absurd rfl e
    · have e : x_up (x_sl X) o none b = x_sl X b := by simp [x_up, hb]
      rw [e, h5 b]
      constructor
      · rintro (e | e)
        · exact Or.inl ⟨e, hb⟩
        · exact Or.inr ⟨e, hb⟩
      · rintro (e | e)
        · exact Or.inl e.1
        · exact Or.inr e.1
  · show x_go (x_give o X) ≤ x_C (x_give o X)
    rw [x_give_go, x_give_C]; exact h6
/-- a ghost is forgotten -/
theorem x_wk_forget {X : xs_T} (h : x_wk X) {o i : Nat} (ho : o ∈ x_L X i) (hi : 2 ≤ i) : x_wk (x_forget o X) := by
  obtain ⟨h1, h2, h3, h4, h5, h6⟩ := h
  refine ⟨h1, h2, h3, x_ls_forget h4 o, fun b => ?_, h6⟩
  show (∃ s, x_sl X b = some s) ↔ (b ∈ x_rm o (x_L X 0) ∨ b ∈ x_rm o (x_L X 1))
  rw [x_rm_mem, x_rm_mem, h5 b]
  constructor
  · rintro (e | e)
    · refine Or.inl ⟨e, fun q => ?_⟩
      subst q
      have := h4.2.2 0 i b e ho
      omega
    · refine Or.inr ⟨e, fun q => ?_⟩
      subst q
      have := h4.2.2 1 i b e ho
      omega
  · rintro (e | e)
    · exact Or.inl e.1
    · exact Or.inr e.1
theorem x_head_mem {l : List Nat} (h : 0 < l.length) : l.headD 0 ∈ l := by
  cases l with
  | nil => simp at h
  | cons a t => simp
/-! the sizes of the lists -/
theorem x_comes_len {X : xs_T} (h : x_ls (x_L X)) {b i k : Nat} (hb : b ∈ x_L X k) (j : Nat) : (x_L (x_comes b i X) j).length + (if j = k then 1 else 0) = (x_L X j).length + (if j = i then 1 else 0) := by
  show (if j = i then x_rm b (x_L X j) ++ [b] else x_rm b (x_L X j)).length + _ = _
  have e : (x_rm b (x_L X j)).length + (if j = k then 1 else 0) = (x_L X j).length := by
    by_cases hj : j = k
    · subst hj
      rw [if_pos rfl]
      exact x_rm_len (h.1 j) hb
    · rw [if_neg hj, x_rm_not (fun q => hj (h.2.2 j k b q hb))]; rfl
  by_cases hj : j = i
  · rw [if_pos hj, if_pos hj, List.length_append, List.length_singleton]; omega
  · rw [if_neg hj, if_neg hj]; omega
theorem x_comes_len0 {X : xs_T} {b i : Nat} (hb : ∀ k, b ∉ x_L X k) (j : Nat) : (x_L (x_comes b i X) j).length = (x_L X j).length + (if j = i then 1 else 0) := by
  show (if j = i then x_rm b (x_L X j) ++ [b] else x_rm b (x_L X j)).length = _
  rw [x_rm_not (hb j)]
  by_cases hj : j = i
  · rw [if_pos hj, if_pos hj, List.length_append, List.length_singleton]
  · rw [if_neg hj, if_neg hj]; rfl
theorem x_forget_len {X : xs_T} (h : x_ls (x_L X)) {b k : Nat} (hb : b ∈ x_L X k) (j : Nat) : (x_L (x_forget b X) j).length + (if j = k then 1 else 0) = (x_L X j).length := by
  show (x_rm b (x_L X j)).length + _ = _
  by_cases hj : j = k
  · subst hj
    rw [if_pos rfl]
    exact x_rm_len (h.1 j) hb
  · rw [if_neg hj, x_rm_not (fun q => hj (h.2.2 j k b q hb))]; rfl
theorem x_replace_C (b : Nat) (X : xs_T) : x_C (x_replace b X) = x_C X := by
  unfold x_replace
  split
  · exact x_give_C _ _
  · split
    · exact x_give_C _ _
    · rfl
theorem x_replace_ep (b : Nat) (X : xs_T) : x_ep X ≤ x_ep (x_replace b X) ∧ x_ep (x_replace b X) ≤ x_ep X + 1 := by
  unfold x_replace
  split
  · exact x_give_ep _ _
  · split
    · exact x_give_ep _ _
    · exact ⟨Nat.le_refl _, Nat.le_succ _⟩
/-- replacing in a full cache: one block goes from R1 to G1, or from R2 to G2 -/
theorem x_replace_ok {X : xs_T} (h : x_wk X) (b : Nat) (hfull : (x_L X 0).length + (x_L X 1).length = x_C X) (h01 : (x_L X 0).length < x_C X ∨ (x_go X < (x_L X 0).length ∨ ((x_L X 0).length = x_go X ∧ b ∈ x_L X 3))) :
    x_wk (x_replace b X) ∧ ∃ (o i : Nat), i < 2 ∧ o ∈ x_L X i ∧ x_sl (x_replace b X) = x_up (x_sl X) o none ∧ (∀ a j, a ∈ x_L (x_replace b X) j ↔ (a = o ∧ j = i + 2) ∨ (a ≠ o ∧ a ∈ x_L X j)) ∧ (∀ j, (x_L (x_replace b X) j).length + (if j = i then 1 else 0) = (x_L X j).length + (if j = i + 2 then 1 else 0)) := by
  have hC := h.1
  unfold x_replace
  split
  · rename_i hc
    have hm := x_head_mem hc.1
    generalize (x_L X 0).headD 0 = o at hm ⊢
    refine ⟨x_wk_ghost h (h.2.2.2.1.2.1 0 o hm).1 (Or.inl rfl), o, 0, by omega, hm, ?_, fun a j => ?_, fun j => ?_⟩
    · exact x_give_sl o X
    · rw [x_comes_mem, x_give_L]
    · have := x_comes_len (X := x_give o X) (b := o) (i := 2) (k := 0) (by rw [x_give_L]; exact h.2.2.2.1) (by rw [x_give_L]; exact hm) j
      rw [x_give_L] at this
      exact this
  · rename_i hc
    split
    · rename_i h1
      have hm := x_head_mem h1
      generalize (x_L X 1).headD 0 = o at hm ⊢
      refine ⟨x_wk_ghost h (h.2.2.2.1.2.1 1 o hm).1 (Or.inr rfl), o, 1, by omega, hm, ?_, fun a j => ?_, fun j => ?_⟩
      · exact x_give_sl o X
      · rw [x_comes_mem, x_give_L]
      · have := x_comes_len (X := x_give o X) (b := o) (i := 3) (k := 1) (by rw [x_give_L]; exact h.2.2.2.1) (by rw [x_give_L]; exact hm) j
        rw [x_give_L] at this
        exact this
    · rename_i h1
      exfalso
      have e1 : (x_L X 0).length = x_C X := by omega
      rcases h01 with h2 | h2
      · omega
      · exact hc ⟨by omega, h2⟩
/-- what a miss makes of the state, ahead of the block's slot -/
def x_ms (b : Nat) (X Y : xs_T) : Prop := (1 ≤ x_C Y ∧ x_C Y ≤ 7) ∧ x_C Y = x_C X ∧ x_pl (x_C Y) (x_ep Y) (x_sl Y) (x_dt Y) ∧ x_pl (x_C Y) (x_ep Y) (x_js Y) (x_jd Y) ∧ x_ls (x_L Y) ∧ (∀ a, ((∃ s, x_sl Y a = some s) ∨ a = b) ↔ (a ∈ x_L Y 0 ∨ a ∈ x_L Y 1)) ∧ x_go Y ≤ x_C Y ∧ x_sl Y b = none ∧ x_sz (x_C Y) (x_L Y) ∧ x_ep X ≤ x_ep Y ∧ x_ep Y ≤ x_ep X + 1
theorem x_ms_of {X Y : xs_T} {b i : Nat} (hb : b < 16) (hi : i < 2) (h : x_wk Y) (hs : x_sl Y b = none) (hC : x_C Y = x_C X) (he : x_ep X ≤ x_ep Y ∧ x_ep Y ≤ x_ep X + 1) (hz : x_sz (x_C Y) (x_L (x_comes b i Y))) : x_ms b X (x_comes b i Y) := by
  obtain ⟨h1, h2, h3, h4, h5, h6⟩ := h
  refine ⟨h1, hC, h2, h3, x_ls_comes h4 hb (by omega), fun a => ?_, h6, hs, hz, he⟩
  rw [x_comes_mem, x_comes_mem]
  show ((∃ s, x_sl Y a = some s) ∨ a = b) ↔ _
  rw [h5 a]
  constructor
  · rintro ((e | e) | e)
    · by_cases hab : a = b
      · subst hab
        obtain ⟨s, hs2⟩ := (h5 a).mpr (Or.inl e)
        rw [hs] at hs2; cases hs2
      · exact Or.inl (Or.inr ⟨hab, e⟩)
    · by_cases hab : a = b
      · subst hab
        obtain ⟨s, hs2⟩ := (h5 a).mpr (Or.inr e)
        rw [hs] at hs2; cases hs2
      · exact Or.inr (Or.inr ⟨hab, e⟩)
    · rcases (show i = 0 ∨ i = 1 by omega) with rfl | rfl
      · exact Or.inl (Or.inl ⟨e, rfl⟩)
      · exact Or.inr (Or.inl ⟨e, rfl⟩)
  · rintro ((⟨e, -⟩ | ⟨-, e⟩) | (⟨e, -⟩ | ⟨-, e⟩))
    · exact Or.inr e
    · exact Or.inl (Or.inl e)
    · exact Or.inr e
    · exact Or.inl (Or.inr e)
theorem x_goal_C (g : Nat) (X : xs_T) : x_C (x_goal g X) = x_C X := rfl
theorem x_goal_L (g : Nat) (X : xs_T) : x_L (x_goal g X) = x_L X := rfl
theorem x_goal_sl (g : Nat) (X : xs_T) : x_sl (x_goal g X) = x_sl X := rfl
theorem x_goal_ep (g : Nat) (X : xs_T) : x_ep (x_goal g X) = x_ep X := rfl
theorem x_goal_go (g : Nat) (X : xs_T) : x_go (x_goal g X) = g := rfl
theorem x_forget_C (g : Nat) (X : xs_T) : x_C (x_forget g X) = x_C X := rfl
theorem x_forget_sl (g : Nat) (X : xs_T) : x_sl (x_forget g X) = x_sl X := rfl
theorem x_forget_ep (g : Nat) (X : xs_T) : x_ep (x_forget g X) = x_ep X := rfl
theorem x_wk_goal {X : xs_T} (h : x_wk X) {g : Nat} (hg : g ≤ x_C X) : x_wk (x_goal g X) := ⟨h.1, h.2.1, h.2.2.1, h.2.2.2.1, h.2.2.2.2.1, hg⟩
theorem x_up_none {f : Nat → Option Nat} {o b : Nat} (h : f b = none) : x_up f o none b = none := by
  unfold x_up
  split
  · rfl
  · exact h
set_option maxHeartbeats 1000000 in
theorem x_miss_ok {X : xs_T} (h : x_iv X) {b : Nat} (hb : b < 16) (h0 : b ∉ x_L X 0) (h1 : b ∉ x_L X 1) : x_ms b X (x_miss b X) := by
  obtain ⟨hw, hz⟩ := h
  have hls := hw.2.2.2.1
  have hsb : x_sl X b = none := by
    cases hq : x_sl X b with
    | none => rfl
    | some s =>
      rcases (hw.2.2.2.2.1 b).mp ⟨s, hq⟩ with e | e
      · exact absurd e h0
      · exact absurd e h1
  obtain ⟨z1, z2, z3, z4⟩ := hz
  unfold x_miss
  split
  · rename_i hg
    have hp := List.length_pos_of_mem hg
    generalize hgo : min (x_C X) (x_go X + max 1 ((x_L X 3).length / (x_L X 2).length)) = g
    have hgC : g ≤ x_C X := by omega
    obtain ⟨k1, o, i, k2, k3, k4, k5, k6⟩ := x_replace_ok (x_wk_goal hw hgC) b (by rw [x_goal_L, x_goal_C]; omega) (Or.inl (by rw [x_goal_L, x_goal_C]; omega))
    have hne : b ≠ o := fun e => by
      subst e
      rw [x_goal_L] at k3
      have := hls.2.2 i 2 b k3 hg
      omega
    have hbm : b ∈ x_L (x_replace b (x_goal g X)) 2 := (k5 b 2).mpr (Or.inr ⟨hne, by rw [x_goal_L]; exact hg⟩)
    refine x_ms_of hb (by omega) k1 (by rw [k4, x_goal_sl]; exact x_up_none hsb) ((x_replace_C b (x_goal g X)).trans (x_goal_C g X)) (by have q := x_replace_ep b (x_goal g X); rw [x_goal_ep] at q; exact q) ?_
    rw [x_replace_C]
    have l0 := x_comes_len (i := 1) k1.2.2.2.1 hbm 0
    have l1 := x_comes_len (i := 1) k1.2.2.2.1 hbm 1
    have l2 := x_comes_len (i := 1) k1.2.2.2.1 hbm 2
    have l3 := x_comes_len (i := 1) k1.2.2.2.1 hbm 3
    have m0 := k6 0
    have m1 := k6 1
    have m2 := k6 2
    have m3 := k6 3
    have d0 : (x_L (x_goal g X) 0).length = (x_L X 0).length := by rw [x_goal_L]
    have d1 : (x_L (x_goal g X) 1).length = (x_L X 1).length := by rw [x_goal_L]
    have d2 : (x_L (x_goal g X) 2).length = (x_L X 2).length := by rw [x_goal_L]
    have d3 : (x_L (x_goal g X) 3).length = (x_L X 3).length := by rw [x_goal_L]
    have dC : x_C (x_goal g X) = x_C X := x_goal_C g X
    rw [dC]
    unfold x_sz
    rcases (show i = 0 ∨ i = 1 by omega) with rfl | rfl <;> simp at l0 l1 l2 l3 m0 m1 m2 m3 <;> omega
  · rename_i hg2
    split
    · rename_i hg
      have hp := List.length_pos_of_mem hg
      generalize hgo : x_go X - max 1 ((x_L X 2).length / (x_L X 3).length) = g
      have hgl := hw.2.2.2.2.2
      have hgC : g ≤ x_C X := by omega
      obtain ⟨k1, o, i, k2, k3, k4, k5, k6⟩ := x_replace_ok (x_wk_goal hw hgC) b (by rw [x_goal_L, x_goal_C]; omega) (by
        rw [x_goal_L, x_goal_C, x_goal_go]
        by_cases q : (x_L X 0).length < x_C X
        · exact Or.inl q
        · by_cases q2 : g < (x_L X 0).length
          · exact Or.inr (Or.inl q2)
          · exact Or.inr (Or.inr ⟨by omega, hg⟩))
      have hne : b ≠ o := fun e => by
        subst e
        rw [x_goal_L] at k3
        have := hls.2.2 i 3 b k3 hg
        omega
      have hbm : b ∈ x_L (x_replace b (x_goal g X)) 3 := (k5 b 3).mpr (Or.inr ⟨hne, by rw [x_goal_L]; exact hg⟩)
      refine x_ms_of hb (by omega) k1 (by rw [k4, x_goal_sl]; exact x_up_none hsb) ((x_replace_C b (x_goal g X)).trans (x_goal_C g X)) (by have q := x_replace_ep b (x_goal g X); rw [x_goal_ep] at q; exact q) ?_
      rw [x_replace_C]
      have l0 := x_comes_len (i := 1) k1.2.2.2.1 hbm 0
      have l1 := x_comes_len (i := 1) k1.2.2.2.1 hbm 1
      have l2 := x_comes_len (i := 1) k1.2.2.2.1 hbm 2
      have l3 := x_comes_len (i := 1) k1.2.2.2.1 hbm 3
      have m0 := k6 0
      have m1 := k6 1
      have m2 := k6 2
      have m3 := k6 3
      have d0 : (x_L (x_goal g X) 0).length = (x_L X 0).length := by rw [x_goal_L]
      have d1 : (x_L (x_goal g X) 1).length = (x_L X 1).length := by rw [x_goal_L]
      have d2 : (x_L (x_goal g X) 2).length = (x_L X 2).length := by rw [x_goal_L]
      have d3 : (x_L (x_goal g X) 3).length = (x_L X 3).length := by rw [x_goal_L]
      have dC : x_C (x_goal g X) = x_C X := x_goal_C g X
      rw [dC]
      unfold x_sz
      rcases (show i = 0 ∨ i = 1 by omega) with rfl | rfl <;> simp at l0 l1 l2 l3 m0 m1 m2 m3 <;> omega
    · rename_i hg3
      have hbn : ∀ k, b ∉ x_L X k := by
        intro k hk
        have := (hls.2.1 k b hk).2
        rcases (show k = 0 ∨ k = 1 ∨ k = 2 ∨ k = 3 by omega) with rfl | rfl | rfl | rfl
        · exact h0 hk
        · exact h1 hk
        · exact hg2 hk
        · exact hg3 hk
      unfold x_stranger
      split
      · rename_i hc
        split
        · rename_i hc2
          have hm := x_head_mem hc2
          generalize (x_L X 2).headD 0 = o2 at hm ⊢
          have hwf := x_wk_forget hw hm (Nat.le_refl 2)
          have f0 := x_forget_len hls hm 0
          have f1 := x_forget_len hls hm 1
          have f2 := x_forget_len hls hm 2
          have f3 := x_forget_len hls hm 3
          have dC : x_C (x_forget o2 X) = x_C X := x_forget_C o2 X
          simp at f0 f1 f2 f3
          obtain ⟨k1, o, i, k2, k3, k4, k5, k6⟩ := x_replace_ok hwf b (by rw [dC]; omega) (Or.inl (by rw [dC]; omega))
          have hbn2 : ∀ k, b ∉ x_L (x_replace b (x_forget o2 X)) k := by
            intro k hk
            rcases (k5 b k).mp hk with ⟨e, -⟩ | ⟨-, e⟩
            · subst e
              exact hbn i (x_rm_mem.mp k3).1
            · exact hbn k (x_rm_mem.mp e).1
          refine x_ms_of hb (by omega) k1 (by rw [k4, x_forget_sl]; exact x_up_none hsb) ((x_replace_C b (x_forget o2 X)).trans dC) (by have q := x_replace_ep b (x_forget o2 X); rw [x_forget_ep] at q; exact q) ?_
          rw [x_replace_C, dC]
          have l0 := x_comes_len0 (i := 0) hbn2 0
          have l1 := x_comes_len0 (i := 0) hbn2 1
          have l2 := x_comes_len0 (i := 0) hbn2 2
          have l3 := x_comes_len0 (i := 0) hbn2 3
          have m0 := k6 0
          have m1 := k6 1
          have m2 := k6 2
          have m3 := k6 3
          unfold x_sz
          rcases (show i = 0 ∨ i = 1 by omega) with rfl | rfl <;> simp at l0 l1 l2 l3 m0 m1 m2 m3 <;> omega
        · rename_i hc2
          have hC1 := hw.1.1
          have hm := x_head_mem (l := x_L X 0) (by omega)
          generalize (x_L X 0).headD 0 = o at hm ⊢
          have hwf := x_wk_gone hw (o := o)
          have f0 := x_forget_len (X := x_give o X) (b := o) (k := 0) (by rw [x_give_L]; exact hls) (by rw [x_give_L]; exact hm) 0
          have f1 := x_forget_len (X := x_give o X) (b := o) (k := 0) (by rw [x_give_L]; exact hls) (by rw [x_give_L]; exact hm) 1
          have f2 := x_forget_len (X := x_give o X) (b := o) (k := 0) (by rw [x_give_L]; exact hls) (by rw [x_give_L]; exact hm) 2
          have f3 := x_forget_len (X := x_give o X) (b := o) (k := 0) (by rw [x_give_L]; exact hls) (by rw [x_give_L]; exact hm) 3
          rw [x_give_L] at f0 f1 f2 f3
          simp at f0 f1 f2 f3
          have dC : x_C (x_forget o (x_give o X)) = x_C X := x_give_C o X
          have hbn2 : ∀ k, b ∉ x_L (x_forget o (x_give o X)) k := by
            intro k hk
            have e := (x_rm_mem.mp hk).1
            rw [x_give_L] at e
            exact hbn k e
          refine x_ms_of hb (by omega) hwf ?_ dC (x_give_ep o X) ?_
          · show x_sl (x_give o X) b = none
            rw [x_give_sl]; exact x_up_none hsb
          · rw [dC]
            have l0 := x_comes_len0 (i := 0) hbn2 0
            have l1 := x_comes_len0 (i := 0) hbn2 1
            have l2 := x_comes_len0 (i := 0) hbn2 2
            have l3 := x_comes_len0 (i := 0) hbn2 3
            simp at l0 l1 l2 l3
            unfold x_sz
            omega
      · rename_i hc
        split
        · rename_i hc2
          split
          · rename_i hc3
            have hm := x_head_mem (l := x_L X 3) (by omega)
            generalize (x_L X 3).headD 0 = o2 at hm ⊢
            have hwf := x_wk_forget hw hm (by omega)
            have f0 := x_forget_len hls hm 0
            have f1 := x_forget_len hls hm 1
            have f2 := x_forget_len hls hm 2
            have f3 := x_forget_len hls hm 3
            have dC : x_C (x_forget o2 X) = x_C X := x_forget_C o2 X
            simp at f0 f1 f2 f3
            obtain ⟨k1, o, i, k2, k3, k4, k5, k6⟩ := x_replace_ok hwf b (by rw [dC]; omega) (Or.inl (by rw [dC]; omega))
            have hbn2 : ∀ k, b ∉ x_L (x_replace b (x_forget o2 X)) k := by
              intro k hk
              rcases (k5 b k).mp hk with ⟨e, -⟩ | ⟨-, e⟩
              · subst e
                exact hbn i (x_rm_mem.mp k3).1
              · exact hbn k (x_rm_mem.mp e).1
            refine x_ms_of hb (by omega) k1 (by rw [k4, x_forget_sl]; exact x_up_none hsb) ((x_replace_C b (x_forget o2 X)).trans dC) (by have q := x_replace_ep b (x_forget o2 X); rw [x_forget_ep] at q; exact q) ?_
            rw [x_replace_C, dC]
            have l0 := x_comes_len0 (i := 0) hbn2 0
            have l1 := x_comes_len0 (i := 0) hbn2 1
            have l2 := x_comes_len0 (i := 0) hbn2 2
            have l3 := x_comes_len0 (i := 0) hbn2 3
            have m0 := k6 0
            have m1 := k6 1
            have m2 := k6 2
            have m3 := k6 3
            unfold x_sz
            rcases (show i = 0 ∨ i = 1 by omega) with rfl | rfl <;> simp at l0 l1 l2 l3 m0 m1 m2 m3 <;> omega
          · rename_i hc3
            obtain ⟨k1, o, i, k2, k3, k4, k5, k6⟩ := x_replace_ok hw b (by omega) (Or.inl (by omega))
            have hbn2 : ∀ k, b ∉ x_L (x_replace b X) k := by
              intro k hk
              rcases (k5 b k).mp hk with ⟨e, -⟩ | ⟨-, e⟩
              · subst e
                exact hbn i k3
              · exact hbn k e
            refine x_ms_of hb (by omega) k1 (by rw [k4]; exact x_up_none hsb) (x_replace_C _ _) (x_replace_ep _ _) ?_
            rw [x_replace_C]
            have l0 := x_comes_len0 (i := 0) hbn2 0
            have l1 := x_comes_len0 (i := 0) hbn2 1
            have l2 := x_comes_len0 (i := 0) hbn2 2
            have l3 := x_comes_len0 (i := 0) hbn2 3
            have m0 := k6 0
            have m1 := k6 1
            have m2 := k6 2
            have m3 := k6 3
            unfold x_sz
            rcases (show i = 0 ∨ i = 1 by omega) with rfl | rfl <;> simp at l0 l1 l2 l3 m0 m1 m2 m3 <;> omega
        · rename_i hc2
          refine x_ms_of hb (by omega) hw hsb rfl ⟨Nat.le_refl _, Nat.le_succ _⟩ ?_
          have l0 := x_comes_len0 (i := 0) hbn 0
          have l1 := x_comes_len0 (i := 0) hbn 1
          have l2 := x_comes_len0 (i := 0) hbn 2
          have l3 := x_comes_len0 (i := 0) hbn 3
          simp at l0 l1 l2 l3
          unfold x_sz
          omega
/-! free slots -/
theorem x_frees_mem {X : xs_T} {s : Nat} : s ∈ x_frees X ↔ s < 2 * x_C X ∧ ∀ b, b < 16 → x_sl X b ≠ some s ∧ x_js X b ≠ some s := by
  unfold x_frees
  rw [List.mem_filter, List.mem_range]
  unfold x_free
  rw [List.all_eq_true]
  constructor
  · rintro ⟨h1, h2⟩
    refine ⟨h1, fun b hb => ?_⟩
    have := h2 b (List.mem_range.mpr hb)
    simpa using this
  · rintro ⟨h1, h2⟩
    refine ⟨h1, fun b hb => ?_⟩
    have := h2 b (List.mem_range.mp hb)
    simpa using this
theorem x_frees_flush {X : xs_T} (hC : 1 ≤ x_C X) (h : x_pl (x_C X) (x_ep X) (x_sl X) (x_dt X)) : x_frees (x_flush X) ≠ [] := by
  intro hn
  have h1 : ∀ s, s ∈ List.range (2 * x_C X) → s ∈ ((List.range 16).filter (fun b => (x_sl X b).isSome)).filterMap (x_sl X) := by
    intro s hs
    have hs := List.mem_range.mp hs
    have hnot : s ∉ x_frees (x_flush X) := by rw [hn]; exact List.not_mem_nil
    have : ∃ b, b < 16 ∧ x_sl X b = some s := by
      apply Classical.byContradiction
      intro hno
      refine hnot (x_frees_mem.mpr ⟨hs, fun b hb => ⟨fun q => hno ⟨b, hb, q⟩, fun q => hno ⟨b, hb, q⟩⟩⟩)
    obtain ⟨b, hb, hbs⟩ := this
    refine List.mem_filterMap.mpr ⟨b, List.mem_filter.mpr ⟨List.mem_range.mpr hb, by rw [hbs]; rfl⟩, hbs⟩
  have h2 := xl_le _ _ List.nodup_range h1
  rw [List.length_range] at h2
  have h3 := List.length_filterMap_le (x_sl X) ((List.range 16).filter (fun b => (x_sl X b).isSome))
  have h4 := h.2.2.2
  unfold x_cnt at h4
  omega
theorem x_room_C (X : xs_T) : x_C (x_room X) = x_C X := by
  unfold x_room
  split <;> rfl
theorem x_room_L (X : xs_T) : x_L (x_room X) = x_L X := by
  unfold x_room
  split <;> rfl
theorem x_room_sl (X : xs_T) : x_sl (x_room X) = x_sl X := by
  unfold x_room
  split <;> rfl
theorem x_room_ep (X : xs_T) : x_ep X ≤ x_ep (x_room X) ∧ x_ep (x_room X) ≤ x_ep X + 1 := by
  unfold x_room
  split
  · exact ⟨Nat.le_succ _, Nat.le_refl _⟩
  · exact ⟨Nat.le_refl _, Nat.le_succ _⟩
theorem x_room_pl {X : xs_T} (h1 : x_pl (x_C X) (x_ep X) (x_sl X) (x_dt X)) (h2 : x_pl (x_C X) (x_ep X) (x_js X) (x_jd X)) : x_pl (x_C X) (x_ep (x_room X)) (x_sl (x_room X)) (x_dt (x_room X)) ∧ x_pl (x_C X) (x_ep (x_room X)) (x_js (x_room X)) (x_jd (x_room X)) := by
  unfold x_room
  split
  · exact ⟨x_pl_mono h1 (Nat.le_succ _), x_pl_mono h1 (Nat.le_succ _)⟩
  · exact ⟨h1, h2⟩
theorem x_slot_mem {X : xs_T} (hC : 1 ≤ x_C X) (h : x_pl (x_C X) (x_ep X) (x_sl X) (x_dt X)) : x_slot X ∈ x_frees (x_room X) := by
  have hne : x_frees (x_room X) ≠ [] := by
    unfold x_room
    split
    · exact x_frees_flush hC h
    · assumption
  unfold x_slot
  exact x_head_mem (List.length_pos_iff.mpr hne)
/-- a block is put into a new slot -/
theorem x_place_pl {X : xs_T} {b : Nat} (hC : 1 ≤ x_C X) (hb : b < 16) (h1 : x_pl (x_C X) (x_ep X) (x_sl X) (x_dt X)) (h2 : x_pl (x_C X) (x_ep X) (x_js X) (x_jd X)) (hl : ∀ a, (∃ s, x_sl X a = some s) ∨ a = b → (a ∈ x_L X 0 ∨ a ∈ x_L X 1)) (hz : (x_L X 0).length + (x_L X 1).length ≤ x_C X) (n : Int32) (d : Bool) :
    x_pl (x_C X) (x_ep (x_place b n d X)) (x_sl (x_place b n d X)) (x_dt (x_place b n d X)) ∧ x_pl (x_C X) (x_ep (x_place b n d X)) (x_js (x_place b n d X)) (x_jd (x_place b n d X)) := by
  obtain ⟨g1, g2⟩ := x_room_pl h1 h2
  obtain ⟨m1, m2⟩ := x_frees_mem.mp (x_slot_mem hC h1)
  rw [x_room_C] at m1
  rw [x_room_sl] at m2
  refine ⟨⟨fun a s hs => ?_, fun a a2 s q1 q2 => ?_, fun a e he => ?_, ?_⟩, g2⟩
  · have hs : x_up (x_sl (x_room X)) b (some (x_slot X)) a = some s := hs
    unfold x_up at hs
    split at hs
    · rename_i ha
      rw [ha, ← Option.some.inj hs]
      exact ⟨hb, m1⟩
    · exact g1.1 a s hs
  · have q1 : x_up (x_sl (x_room X)) b (some (x_slot X)) a = some s := q1
    have q2 : x_up (x_sl (x_room X)) b (some (x_slot X)) a2 = some s := q2
    unfold x_up at q1 q2
    split at q1
    · rename_i e1
      split at q2
      · rename_i e2
        rw [e1, e2]
      · rw [x_room_sl] at q2
        rw [← Option.some.inj q1] at q2
        exact absurd q2 (m2 a2 (h1.1 a2 _ q2).1).1
    · split at q2
      · rw [x_room_sl] at q1
        rw [← Option.some.inj q2] at q1
        exact absurd q1 (m2 a (h1.1 a _ q1).1).1
      · exact g1.2.1 a a2 s q1 q2
  · have he : x_up (x_dt (x_room X)) b (if d then some (x_ep (x_room X)) else none) a = some e := he
    show e ≤ x_ep (x_room X) ∧ ∃ s, x_up (x_sl (x_room X)) b (some (x_slot X)) a = some s
    unfold x_up at he ⊢
    split at he
    · rename_i ha
      rw [if_pos ha]
      refine ⟨?_, _, rfl⟩
      split at he
      · rw [← Option.some.inj he]; exact Nat.le_refl _
      · cases he
    · rename_i ha
      rw [if_neg ha]
      exact g1.2.2.1 a e he
  · refine Nat.le_trans ?_ hz
    unfold x_cnt
    rw [← List.length_append]
    refine xl_le _ _ (List.Pairwise.filter _ List.nodup_range) fun a ha => ?_
    rw [List.mem_filter] at ha
    obtain ⟨s, hs⟩ := Option.isSome_iff_exists.mp ha.2
    have hs : x_up (x_sl (x_room X)) b (some (x_slot X)) a = some s := hs
    rw [List.mem_append]
    refine hl a ?_
    unfold x_up at hs
    split at hs
    · rename_i e; exact Or.inr e
    · rw [x_room_sl] at hs; exact Or.inl ⟨s, hs⟩
theorem x_place_ep (b : Nat) (n : Int32) (d : Bool) (X : xs_T) : x_ep X ≤ x_ep (x_place b n d X) ∧ x_ep (x_place b n d X) ≤ x_ep X + 1 := x_room_ep X
theorem x_place_go (b : Nat) (n : Int32) (d : Bool) (X : xs_T) : x_go (x_place b n d X) = x_go X := by
  show x_go (x_room X) = _
  unfold x_room
  split <;> rfl
theorem x_access_ok {X : xs_T} (h : x_iv X) {b : Nat} (hb : b < 16) : x_iv (x_access b X) ∧ (∃ s, x_sl (x_access b X) b = some s) ∧ x_C (x_access b X) = x_C X ∧ x_ep (x_access b X) ≤ x_ep X + 2 := by
  unfold x_access
  split
  · rename_i hm
    obtain ⟨⟨h1, h2, h3, h4, h5, h6⟩, hz⟩ := h
    refine ⟨⟨⟨h1, h2, h3, x_ls_comes h4 hb (by omega), fun a => ?_, h6⟩, ?_⟩, (h5 b).mpr hm, rfl, Nat.le_add_right _ 2⟩
    · rw [x_comes_mem, x_comes_mem]
      show (∃ s, x_sl X a = some s) ↔ ((a = b ∧ 0 = 1) ∨ (a ≠ b ∧ a ∈ x_L X 0)) ∨ ((a = b ∧ 1 = 1) ∨ (a ≠ b ∧ a ∈ x_L X 1))
      rw [h5 a]
      by_cases ha : a = b
      · subst ha
        constructor
        · intro _; exact Or.inr (Or.inl ⟨rfl, rfl⟩)
        · intro _; exact hm
      · constructor
        · rintro (e | e)
          · exact Or.inl (Or.inr ⟨ha, e⟩)
          · exact Or.inr (Or.inr ⟨ha, e⟩)
        · rintro ((⟨e, -⟩ | ⟨-, e⟩) | (⟨e, -⟩ | ⟨-, e⟩))
          · exact absurd e ha
          · exact Or.inl e
          · exact absurd e ha
          · exact Or.inr e
    · have key : ∃ k, (k = 0 ∨ k = 1) ∧ b ∈ x_L (x_hit true X) k := by
        rcases hm with e | e
        · exact ⟨0, Or.inl rfl, e⟩
        · exact ⟨1, Or.inr rfl, e⟩
      obtain ⟨k, hk, hbk⟩ := key
      have h4' : x_ls (x_L (x_hit true X)) := h4
      have l0 := x_comes_len (i := 1) h4' hbk 0
      have l1 := x_comes_len (i := 1) h4' hbk 1
      have l2 := x_comes_len (i := 1) h4' hbk 2
      have l3 := x_comes_len (i := 1) h4' hbk 3
      have d0 : (x_L (x_hit true X) 0).length = (x_L X 0).length := rfl
      have d1 : (x_L (x_hit true X) 1).length = (x_L X 1).length := rfl
      have d2 : (x_L (x_hit true X) 2).length = (x_L X 2).length := rfl
      have d3 : (x_L (x_hit true X) 3).length = (x_L X 3).length := rfl
      obtain ⟨z1, z2, z3, z4⟩ := hz
      show x_sz (x_C X) (x_L (x_comes b 1 (x_hit true X)))
      unfold x_sz
      rcases hk with rfl | rfl <;> simp at l0 l1 l2 l3 <;> omega
  · rename_i hm
    have hi : x_iv (x_hit false X) := h
    obtain ⟨m1, m2, m3, m4, m5, m6, m7, m8, m9, m10, m11⟩ := x_miss_ok hi hb (fun q => hm (Or.inl q)) (fun q => hm (Or.inr q))
    generalize x_miss b (x_hit false X) = Y at m1 m2 m3 m4 m5 m6 m7 m8 m9 m10 m11 ⊢
    have hx : x_C (x_hit false X) = x_C X := rfl
    have he : x_ep (x_hit false X) = x_ep X := rfl
    dsimp only
    obtain ⟨p1, p2⟩ := x_place_pl m1.1 hb m3 m4 (fun a => (m6 a).mp) m9.1 (x_st Y b) false
    have pe := x_place_ep b (x_st Y b) false Y
    have pC : x_C (x_place b (x_st Y b) false Y) = x_C Y := x_room_C Y
    have pL : x_L (x_place b (x_st Y b) false Y) = x_L Y := x_room_L Y
    have ps : x_sl (x_place b (x_st Y b) false Y) = x_up (x_sl Y) b (some (x_slot Y)) := by
      show x_up (x_sl (x_room Y)) b (some (x_slot Y)) = _
      rw [x_room_sl]
    refine ⟨⟨⟨by rw [pC]; exact m1, by rw [pC]; exact p1, by rw [pC]; exact p2, by rw [pL]; exact m5, ?_, by rw [x_place_go, pC]; exact m7⟩, by rw [pC, pL]; exact m9⟩, ⟨x_slot Y, by rw [ps]; simp [x_up]⟩, by rw [pC, m2]; rfl, by omega⟩
    rw [ps, pL]
    intro a
    rw [← m6 a]
    unfold x_up
    by_cases ha : a = b
    · rw [if_pos ha]
      exact ⟨fun _ => Or.inr ha, fun _ => ⟨_, rfl⟩⟩
    · rw [if_neg ha]
      exact ⟨fun q => Or.inl q, fun q => q.resolve_right ha⟩
theorem x_write_ok {X : xs_T} (h : x_iv X) {b : Nat} (hb : b < 16) (n : Int32) : x_iv (x_write b n X) ∧ x_C (x_write b n X) = x_C X ∧ x_ep (x_write b n X) ≤ x_ep X + 3 := by
  obtain ⟨⟨⟨h1, h2, h3, h4, h5, h6⟩, hz⟩, ⟨s0, hs0⟩, hC, hE⟩ := x_access_ok h hb
  unfold x_write
  generalize x_access b X = Y at h1 h2 h3 h4 h5 h6 hz hs0 hC hE ⊢
  have hbL := (h5 b).mp ⟨s0, hs0⟩
  obtain ⟨p1, p2⟩ := x_place_pl h1.1 hb h2 h3 (fun a q => by
    rcases q with q | rfl
    · exact (h5 a).mp q
    · exact hbL) hz.1 n true
  have pe := x_place_ep b n true Y
  have pC : x_C (x_place b n true Y) = x_C Y := x_room_C Y
  have pL : x_L (x_place b n true Y) = x_L Y := x_room_L Y
  have ps : x_sl (x_place b n true Y) = x_up (x_sl Y) b (some (x_slot Y)) := by
    show x_up (x_sl (x_room Y)) b (some (x_slot Y)) = _
    rw [x_room_sl]
  refine ⟨⟨⟨by rw [pC]; exact h1, by rw [pC]; exact p1, by rw [pC]; exact p2, by rw [pL]; exact h4, ?_, by rw [x_place_go, pC]; exact h6⟩, by rw [pC, pL]; exact hz⟩, by rw [pC, hC], by omega⟩
  rw [ps, pL]
  intro a
  rw [← h5 a]
  unfold x_up
  by_cases ha : a = b
  · rw [if_pos ha, ha]
    exact ⟨fun _ => ⟨s0, hs0⟩, fun _ => ⟨_, rfl⟩⟩
  · rw [if_neg ha]
theorem x_flush_ok {X : xs_T} (h : x_iv X) : x_iv (x_flush X) := ⟨⟨h.1.1, x_pl_mono h.1.2.1 (Nat.le_succ _), x_pl_mono h.1.2.1 (Nat.le_succ _), h.1.2.2.2.1, h.1.2.2.2.2.1, h.1.2.2.2.2.2⟩, h.2⟩
theorem x_tick_ok {X : xs_T} (h : x_iv X) : x_iv (x_tick X) ∧ x_C (x_tick X) = x_C X ∧ x_ep (x_tick X) = x_ep X := by
  unfold x_tick
  split
  · rename_i b hb
    refine ⟨⟨⟨h.1.1, ⟨h.1.2.1.1, h.1.2.1.2.1, fun a d hd => ?_, h.1.2.1.2.2.2⟩, h.1.2.2.1, h.1.2.2.2.1, h.1.2.2.2.2.1, h.1.2.2.2.2.2⟩, h.2⟩, rfl, rfl⟩
    have hd : x_up (x_dt X) b none a = some d := hd
    unfold x_up at hd
    split at hd
    · cases hd
    · exact h.1.2.1.2.2.1 a d hd
  · exact ⟨h, rfl, rfl⟩
theorem x_pl_none (C ep : Nat) : x_pl C ep (fun _ => none) (fun _ => none) := by
  refine ⟨fun b s h => ?_, fun b b2 s h _ => ?_, fun b d h => ?_, ?_⟩
  · cases h
  · cases h
  · cases h
  · have : x_cnt (fun _ => none) = 0 := by decide
    omega
theorem x_empty_ok {X : xs_T} (hC : 1 ≤ x_C X ∧ x_C X ≤ 7) (h1 : x_sl X = fun _ => none) (h2 : x_dt X = fun _ => none) (h3 : x_js X = fun _ => none) (h4 : x_jd X = fun _ => none) (h5 : x_L X = fun _ => []) (h6 : x_go X = 0) : x_iv X := by
  refine ⟨⟨hC, by rw [h1, h2]; exact x_pl_none _ _, by rw [h3, h4]; exact x_pl_none _ _, by rw [h5]; exact ⟨fun _ => List.nodup_nil, fun _ _ q => absurd q List.not_mem_nil, fun _ _ _ q => absurd q List.not_mem_nil⟩, ?_, by rw [h6]; exact Nat.zero_le _⟩, ?_⟩
  · rw [h1, h5]
    intro b
    constructor
    · rintro ⟨s, hs⟩; cases hs
    · rintro (e | e)
      · exact absurd e List.not_mem_nil
      · exact absurd e List.not_mem_nil
  · rw [h5]
    unfold x_sz
    simp
theorem x_ofslots_mem {C : Nat} {js : Nat → Option Nat} {b : Nat} (h2 : ∀ b b2 s, js b = some s → js b2 = some s → b = b2) (h1 : ∀ b s, js b = some s → b < 16 ∧ s < 2 * C) : b ∈ x_ofslots C js ↔ ∃ s, js b = some s := by
  unfold x_ofslots
  rw [List.mem_filterMap]
  constructor
  · rintro ⟨s, -, hs⟩
    have := List.find?_some hs
    exact ⟨s, by simpa using this⟩
  · rintro ⟨s, hs⟩
    obtain ⟨g1, g2⟩ := h1 b s hs
    refine ⟨s, List.mem_range.mpr g2, ?_⟩
    cases hf : (List.range 16).find? (fun b => js b == some s) with
    | none =>
      have := List.find?_eq_none.mp hf b (List.mem_range.mpr g1)
      simp [hs] at this
    | some a =>
      have := List.find?_some hf
      have ha : js a = some s := by simpa using this
      rw [h2 a b s ha hs]
theorem x_ofslots_nodup {C : Nat} {js : Nat → Option Nat} : (x_ofslots C js).Nodup := by
  unfold x_ofslots
  refine List.Pairwise.filterMap _ ?_ (List.nodup_range (n := 2 * C))
  intro s t hst b hb b2 hb2 e
  have e1 := List.find?_some hb
  have e2 := List.find?_some hb2
  subst e
  have e1 : js b = some s := by simpa using e1
  have e2 : js b = some t := by simpa using e2
  exact hst (Option.some.inj (e1.symm.trans e2))
theorem x_crash_ok {X : xs_T} (h : x_iv X) : x_iv (x_crash X) := by
  obtain ⟨⟨h1, h2, h3, h4, h5, h6⟩, hz⟩ := h
  have hm := fun b => x_ofslots_mem (b := b) h3.2.1 h3.1
  have hlen : (x_ofslots (x_C X) (x_js X)).length ≤ x_C X := by
    refine Nat.le_trans ?_ h3.2.2.2
    unfold x_cnt
    refine xl_le _ _ x_ofslots_nodup fun b hb => ?_
    obtain ⟨s, hs⟩ := (hm b).mp hb
    exact List.mem_filter.mpr ⟨List.mem_range.mpr (h3.1 b s hs).1, by rw [hs]; rfl⟩
  refine ⟨⟨h1, h3, h3, ⟨fun i => ?_, fun i b hb => ?_, fun i j b q1 q2 => ?_⟩, fun b => ?_, Nat.zero_le _⟩, ?_⟩
  · show (if i = 0 then x_ofslots (x_C X) (x_js X) else []).Nodup
    split
    · exact x_ofslots_nodup
    · exact List.nodup_nil
  · have hb : b ∈ (if i = 0 then x_ofslots (x_C X) (x_js X) else []) := hb
    split at hb
    · obtain ⟨s, hs⟩ := (hm b).mp hb
      exact ⟨(h3.1 b s hs).1, by omega⟩
    · exact absurd hb List.not_mem_nil
  · have q1 : b ∈ (if i = 0 then x_ofslots (x_C X) (x_js X) else []) := q1
    have q2 : b ∈ (if j = 0 then x_ofslots (x_C X) (x_js X) else []) := q2
    split at q1
    · split at q2
      · omega
      · exact absurd q2 List.not_mem_nil
    · exact absurd q1 List.not_mem_nil
  · show (∃ s, x_js X b = some s) ↔ (b ∈ x_ofslots (x_C X) (x_js X) ∨ b ∈ ([] : List Nat))
    rw [hm b]
    simp
  · show x_sz (x_C X) (fun i => if i = 0 then x_ofslots (x_C X) (x_js X) else [])
    unfold x_sz
    simp
    omega
