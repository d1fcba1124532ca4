/-! the class's object and the mathematical state -/
def x_b (h : Bool) : Int32 := if h = true then 1 else 0
def r_x (N : Nat) (sc : Nat → Int32) (ar : Nat → Nat → Int32) (X : xs_T) : Prop := (N = 2 * x_C X ∧ 1 ≤ x_C X ∧ x_C X ≤ 7) ∧ sc 0 = nI (x_C X) ∧ (∀ b, b < 16 → ar 0 b = x_st X b) ∧ (∀ s, s < N → ar 1 s = x_nu X s) ∧ r_pl N (ar 2) (ar 3) (x_sl X) (x_dt X) ∧ r_pl N (ar 4) (ar 5) (x_js X) (x_jd X) ∧ (∀ i, i < 4 → r_ls (ar (i + 6)) (sc (i + 5)) (x_L X i)) ∧ sc 1 = nI (x_go X) ∧ sc 2 = nI (x_ep X) ∧ sc 3 = x_dr X ∧ sc 4 = x_b (x_hi X)
/-- the reference's part of the world is as it was -/
def s_M (sc : Nat → Int32) (ar : Nat → Nat → Int32) (sc' : Nat → Int32) (ar' : Nat → Nat → Int32) : Prop := (∀ j, 9 ≤ j → sc' j = sc j) ∧ ∀ j, 10 ≤ j → ar' j = ar j
theorem s_M_rf {sc : Nat → Int32} {ar : Nat → Nat → Int32} : s_M sc ar sc ar := ⟨fun _ _ => rfl, fun _ _ => rfl⟩
theorem s_M_tr {s1 s2 s3 : Nat → Int32} {a1 a2 a3 : Nat → Nat → Int32} (h : s_M s1 a1 s2 a2) (h2 : s_M s2 a2 s3 a3) : s_M s1 a1 s3 a3 := ⟨fun j hj => (h2.1 j hj).trans (h.1 j hj), fun j hj => (h2.2 j hj).trans (h.2 j hj)⟩
def x_setP (sl dt : Nat → Option Nat) (X : xs_T) : xs_T := (x_C X, x_st X, x_nu X, sl, dt, x_js X, x_jd X, x_L X, x_go X, x_ep X, x_dr X, x_hi X)
def x_setJ (js jd : Nat → Option Nat) (X : xs_T) : xs_T := (x_C X, x_st X, x_nu X, x_sl X, x_dt X, js, jd, x_L X, x_go X, x_ep X, x_dr X, x_hi X)
def x_setE (e : Nat) (X : xs_T) : xs_T := (x_C X, x_st X, x_nu X, x_sl X, x_dt X, x_js X, x_jd X, x_L X, x_go X, e, x_dr X, x_hi X)
def x_setD (d : Int32) (X : xs_T) : xs_T := (x_C X, x_st X, x_nu X, x_sl X, x_dt X, x_js X, x_jd X, x_L X, x_go X, x_ep X, d, x_hi X)
def x_setL (i : Nat) (l : List Nat) (X : xs_T) : xs_T := (x_C X, x_st X, x_nu X, x_sl X, x_dt X, x_js X, x_jd X, x_up (x_L X) i l, x_go X, x_ep X, x_dr X, x_hi X)
def x_setS (b : Nat) (v : Int32) (X : xs_T) : xs_T := (x_C X, x_up (x_st X) b v, x_nu X, x_sl X, x_dt X, x_js X, x_jd X, x_L X, x_go X, x_ep X, x_dr X, x_hi X)
def x_setN (s : Nat) (v : Int32) (X : xs_T) : xs_T := (x_C X, x_st X, x_up (x_nu X) s v, x_sl X, x_dt X, x_js X, x_jd X, x_L X, x_go X, x_ep X, x_dr X, x_hi X)
section RX
variable {N : Nat} {sc : Nat → Int32} {ar : Nat → Nat → Int32} {X : xs_T}
theorem r_x_P0 (h : r_x N sc ar X) {f g : Nat → Int32} {sl dt : Nat → Option Nat} (hp : r_pl N f g sl dt) : r_x N sc (mk_P 0 ar f g) (x_setP sl dt X) := by
  obtain ⟨h1, h2, h3, h4, h5, h6, h7, h8⟩ := h
  exact ⟨h1, h2, h3, h4, hp, h6, fun i hi => by rw [mp_o (by omega) (by omega)]; exact h7 i hi, h8⟩
theorem r_x_P1 (h : r_x N sc ar X) {f g : Nat → Int32} {sl dt : Nat → Option Nat} (hp : r_pl N f g sl dt) : r_x N sc (mk_P 1 ar f g) (x_setJ sl dt X) := by
  obtain ⟨h1, h2, h3, h4, h5, h6, h7, h8⟩ := h
  exact ⟨h1, h2, h3, h4, h5, hp, fun i hi => by rw [mp_o (by omega) (by omega)]; exact h7 i hi, h8⟩
theorem upd_ne {f : Nat → Int32} {k j : Nat} {x : Int32} (h : j ≠ k) : upd f k x j = f j := if_neg h
theorem r_x_go (h : r_x N sc ar X) (g : Nat) : r_x N (upd sc 1 (nI g)) ar (x_goal g X) := by
  obtain ⟨h1, h2, h3, h4, h5, h6, h7, h8, h9⟩ := h
  exact ⟨h1, h2, h3, h4, h5, h6, fun i hi => by rw [upd_ne (by omega)]; exact h7 i hi, rfl, h9⟩
theorem r_x_ep (h : r_x N sc ar X) (e : Nat) : r_x N (upd sc 2 (nI e)) ar (x_setE e X) := by
  obtain ⟨h1, h2, h3, h4, h5, h6, h7, h8, h9, h10⟩ := h
  exact ⟨h1, h2, h3, h4, h5, h6, fun i hi => by rw [upd_ne (by omega)]; exact h7 i hi, h8, rfl, h10⟩
theorem r_x_dr (h : r_x N sc ar X) (d : Int32) : r_x N (upd sc 3 d) ar (x_setD d X) := by
  obtain ⟨h1, h2, h3, h4, h5, h6, h7, h8, h9, h10, h11⟩ := h
  exact ⟨h1, h2, h3, h4, h5, h6, fun i hi => by rw [upd_ne (by omega)]; exact h7 i hi, h8, h9, rfl, h11⟩
theorem r_x_hi (h : r_x N sc ar X) (b : Bool) : r_x N (upd sc 4 (x_b b)) ar (x_hit b X) := by
  obtain ⟨h1, h2, h3, h4, h5, h6, h7, h8, h9, h10, h11⟩ := h
  exact ⟨h1, h2, h3, h4, h5, h6, fun i hi => by rw [upd_ne (by omega)]; exact h7 i hi, h8, h9, h10, rfl⟩
theorem r_x_L (h : r_x N sc ar X) {i : Nat} (hi : i < 4) {f : Nat → Int32} {n : Int32} {l : List Nat} (hl : r_ls f n l) : r_x N (upd sc (i + 5) n) (x_up ar (i + 6) f) (x_setL i l X) := by
  obtain ⟨h1, h2, h3, h4, h5, h6, h7, h8, h9, h10, h11⟩ := h
  refine ⟨h1, by rw [upd_ne (by omega)]; exact h2, by rw [xu_n (by omega)]; exact h3, by rw [xu_n (by omega)]; exact h4, by rw [xu_n (by omega), xu_n (by omega)]; exact h5, by rw [xu_n (by omega), xu_n (by omega)]; exact h6, fun j hj => ?_, by rw [upd_ne (by omega)]; exact h8, by rw [upd_ne (by omega)]; exact h9, by rw [upd_ne (by omega)]; exact h10, by rw [upd_ne (by omega)]; exact h11⟩
  show r_ls (x_up ar (i + 6) f (j + 6)) (upd sc (i + 5) n (j + 5)) (x_up (x_L X) i l j)
  by_cases hij : j = i
  · subst hij
    rw [xu_s, xu_s, pk_us]; exact hl
  · rw [xu_n (by omega), xu_n hij, upd_ne (by omega)]
    exact h7 j hj
theorem r_x_S (h : r_x N sc ar X) {b : Nat} (v : Int32) : r_x N sc (x_up ar 0 (upd (ar 0) b v)) (x_setS b v X) := by
  obtain ⟨h1, h2, h3, h4, h5, h6, h7, h8⟩ := h
  refine ⟨h1, h2, fun c hc => ?_, h4, h5, h6, fun i hi => by rw [xu_n (by omega)]; exact h7 i hi, h8⟩
  show upd (ar 0) b v c = x_up (x_st X) b v c
  by_cases hcb : c = b
  · subst hcb
    rw [pk_us, xu_s]
  · rw [pk_un hcb, xu_n hcb]; exact h3 c hc
theorem r_x_N (h : r_x N sc ar X) {s : Nat} (v : Int32) : r_x N sc (x_up ar 1 (upd (ar 1) s v)) (x_setN s v X) := by
  obtain ⟨h1, h2, h3, h4, h5, h6, h7, h8⟩ := h
  refine ⟨h1, h2, h3, fun c hc => ?_, h5, h6, fun i hi => by rw [xu_n (by omega)]; exact h7 i hi, h8⟩
  show upd (ar 1) s v c = x_up (x_nu X) s v c
  by_cases hcb : c = s
  · subst hcb
    rw [pk_us, xu_s]
  · rw [pk_un hcb, xu_n hcb]; exact h4 c hc
theorem s_M_sc {j : Nat} (hj : j < 9) (v : Int32) : s_M sc ar (upd sc j v) ar := ⟨fun k hk => upd_ne (by omega), fun _ _ => rfl⟩
theorem s_M_ar {j : Nat} (hj : j < 10) (f : Nat → Int32) : s_M sc ar sc (x_up ar j f) := ⟨fun _ _ => rfl, fun k hk => xu_n (by omega)⟩
theorem s_M_P {h : Nat} (hh : h < 2) (f g : Nat → Int32) : s_M sc ar sc (mk_P h ar f g) := ⟨fun _ _ => rfl, fun k hk => mp_o (by omega) (by omega)⟩
theorem s_M_sa {j i : Nat} (hj : j < 9) (hi : i < 10) (v : Int32) (f : Nat → Int32) : s_M sc ar (upd sc j v) (x_up ar i f) := ⟨fun k hk => upd_ne (by omega), fun k hk => xu_n (by omega)⟩
theorem r_pl_cp {f f' g g' : Nat → Int32} {sl dt : Nat → Option Nat} (h : r_pl N f g sl dt) (hf : ∀ s, s < N → f' s = f s) (hg : ∀ s, s < N → g' s = g s) : r_pl N f' g' sl dt := by
  refine ⟨fun b s hs => ?_, fun s hs hn => ?_, h.2.2⟩
  · obtain ⟨k1, k2, k3, k4⟩ := h.1 b s hs
    exact ⟨k1, k2, by rw [hf s k2]; exact k3, by rw [hg s k2]; exact k4⟩
  · rw [hf s hs, hg s hs]
    exact h.2.1 s hs hn
theorem r_pl_emp {f g : Nat → Int32} {sl dt : Nat → Option Nat} (h : r_pl N f g sl dt) {b s : Nat} (hb : sl b = some s) : r_pl N (upd f s (-1)) (upd g s (-1)) (x_up sl b none) (x_up dt b none) := by
  obtain ⟨k1, k2, k3, k4⟩ := h.1 b s hb
  have key : ∀ c t, x_up sl b none c = some t → c ≠ b ∧ sl c = some t := by
    intro c t hc
    unfold x_up at hc
    split at hc
    · cases hc
    · rename_i hne; exact ⟨hne, hc⟩
  refine ⟨fun c t hc => ?_, fun t ht hn => ?_, fun c d hc => ?_⟩
  · obtain ⟨hcb, hc⟩ := key c t hc
    obtain ⟨j1, j2, j3, j4⟩ := h.1 c t hc
    have hts : t ≠ s := by
      intro q
      subst q
      rw [k3] at j3
      exact hcb ((nI_eq (by omega) (by omega)).mp j3).symm
    rw [pk_un hts, pk_un hts, xu_n hcb]
    exact ⟨j1, j2, j3, j4⟩
  · by_cases hts : t = s
    · subst hts
      rw [pk_us, pk_us]
      exact ⟨rfl, rfl⟩
    · rw [pk_un hts, pk_un hts]
      refine h.2.1 t ht fun c hc => ?_
      by_cases hcb : c = b
      · subst hcb
        rw [hb] at hc
        exact hts (Option.some.inj hc).symm
      · exact hn c (by rw [xu_n hcb]; exact hc)
  · unfold x_up at hc ⊢
    split at hc
    · cases hc
    · rename_i hne
      rw [if_neg hne]
      exact h.2.2 c d hc
theorem r_pl_cln {f g : Nat → Int32} {sl dt : Nat → Option Nat} (h : r_pl N f g sl dt) {b s : Nat} (hb : sl b = some s) : r_pl N f (upd g s (-1)) sl (x_up dt b none) := by
  obtain ⟨k1, k2, k3, k4⟩ := h.1 b s hb
  refine ⟨fun c t hc => ?_, fun t ht hn => ?_, fun c d hc => ?_⟩
  · obtain ⟨j1, j2, j3, j4⟩ := h.1 c t hc
    refine ⟨j1, j2, j3, ?_⟩
    by_cases hts : t = s
    · subst hts
      rw [k3] at j3
      have := (nI_eq (by omega) (by omega)).mp j3
      subst this
      rw [pk_us, xu_s]; rfl
    · have hcb : c ≠ b := by
        intro q
        subst q
        rw [hb] at hc
        exact hts (Option.some.inj hc).symm
      rw [pk_un hts, xu_n hcb]; exact j4
  · have hts : t ≠ s := by
      intro q
      subst q
      exact hn b hb
    rw [pk_un hts]
    exact h.2.1 t ht hn
  · unfold x_up at hc
    split at hc
    · cases hc
    · exact h.2.2 c d hc
theorem r_pl_put {f g : Nat → Int32} {sl dt : Nat → Option Nat} (h : r_pl N f g sl dt) {b s : Nat} {d : Option Nat} (hb : b < 16) (hs : s < N) (hn : sl b = none) (hf : ∀ c, sl c ≠ some s) (hd : ∀ e, d = some e → e < 2 ^ 30) : r_pl N (upd f s (nI b)) (upd g s (e_o d)) (x_up sl b (some s)) (x_up dt b d) := by
  refine ⟨fun c t hc => ?_, fun t ht hno => ?_, fun c e hc => ?_⟩
  · by_cases hcb : c = b
    · subst hcb
      rw [xu_s] at hc
      rw [← Option.some.inj hc, pk_us, pk_us, xu_s]
      exact ⟨hb, hs, rfl, rfl⟩
    · rw [xu_n hcb] at hc
      obtain ⟨j1, j2, j3, j4⟩ := h.1 c t hc
      have hts : t ≠ s := by
        intro q
        subst q
        exact hf c hc
      rw [pk_un hts, pk_un hts, xu_n hcb]
      exact ⟨j1, j2, j3, j4⟩
  · have hts : t ≠ s := by
      intro q
      subst q
      exact hno b xu_s
    rw [pk_un hts, pk_un hts]
    refine h.2.1 t ht fun c hc => ?_
    by_cases hcb : c = b
    · subst hcb
      rw [hn] at hc; cases hc
    · exact hno c (by rw [xu_n hcb]; exact hc)
  · by_cases hcb : c = b
    · subst hcb
      rw [xu_s] at hc ⊢
      exact ⟨hd e hc, s, rfl⟩
    · rw [xu_n hcb] at hc ⊢
      exact h.2.2 c e hc
theorem r_pl_clr {f g : Nat → Int32} : r_pl N (p_cl N f) (p_cl N g) (fun _ => none) (fun _ => none) := by
  refine ⟨fun b s h => by (cases h), fun s hs _ => ?_, fun b d h => by (cases h)⟩
  unfold p_cl
  rw [if_pos hs, if_pos hs]
  exact ⟨rfl, rfl⟩
end RX
/-! the methods of the lists and the placements, at their places -/
section INST
variable {S : ex_S} {N : Nat} {sc : Nat → Int32} {ar : Nat → Nat → Int32} {l : List Nat} {sl dt : Nat → Option Nat}
theorem sm_size_0 : ex_big S 1 0 [.inr 11] [] (mk_W N sc ar) 0 0 = some (some (sc 5), mk_W N sc ar) := sm_size (i := 0) (by omega)
theorem sm_at0_0 (hl : r_ls (ar 6) (sc 5) l) (hp : 0 < l.length) : ex_big S 2 0 [.inr 11, .inl 0] [] (mk_W N sc ar) 0 0 = some (some (nI (l.headD 0)), mk_W N sc ar) := by
  have hk : l[0]? = some (l.headD 0) := by
    cases l with
    | nil => simp at hp
    | cons a t => rfl
  have e := sm_at_in (S := S) (N := N) (i := 0) (by omega) hl hk
  rw [nI_0] at e
  exact e
theorem sm_has_0 (hl : r_ls (ar 6) (sc 5) l) {b : Nat} (hb : b < 16) : ex_big S 3 0 [.inr 11, .inl (nI b), .inr 0] [] (mk_W N sc ar) 0 0 = some (some (if b ∈ l then 1 else 0), mk_W N sc ar) := by
  have e := sm_has (S := S) (N := N) (i := 0) (by omega) hl (nI b)
  simp only [x_any_iff hl.2.2.2 hb] at e
  exact e
theorem sm_add_0 (hl : r_ls (ar 6) (sc 5) l) {b : Nat} (hb : b < 16) (hn : l.length < 16) : ex_big S 4 0 [.inr 11, .inl (nI b)] [] (mk_W N sc ar) 0 0 = some (none, mk_W N (upd sc 5 (nI (l.length + 1))) (x_up ar 6 (upd (ar 6) l.length (nI b)))) ∧ r_ls (upd (ar 6) l.length (nI b)) (nI (l.length + 1)) (l ++ [b]) := sm_add (i := 0) (by omega) hl hb hn
theorem sm_remove_0 (hl : r_ls (ar 6) (sc 5) l) {c : Nat} (hc : c < 16) : ∃ g, ex_big S 5 0 [.inr 11, .inl (nI c), .inr 0, .inr 0] [] (mk_W N sc ar) 0 0 = some (none, mk_W N (upd sc 5 (nI (x_rm c l).length)) (x_up ar 6 g)) ∧ r_ls g (nI (x_rm c l).length) (x_rm c l) := sm_remove (i := 0) (by omega) hl hc
theorem sm_clear_0 : ex_big S 6 0 [.inr 11] [] (mk_W N sc ar) 0 0 = some (none, mk_W N (upd sc 5 0) ar) := (sm_clear (i := 0) (by omega)).1
theorem sm_size_1 : ex_big S 1 0 [.inr 13] [] (mk_W N sc ar) 0 0 = some (some (sc 6), mk_W N sc ar) := sm_size (i := 1) (by omega)
theorem sm_at0_1 (hl : r_ls (ar 7) (sc 6) l) (hp : 0 < l.length) : ex_big S 2 0 [.inr 13, .inl 0] [] (mk_W N sc ar) 0 0 = some (some (nI (l.headD 0)), mk_W N sc ar) := by
  have hk : l[0]? = some (l.headD 0) := by
    cases l with
    | nil => simp at hp
    | cons a t => rfl
  have e := sm_at_in (S := S) (N := N) (i := 1) (by omega) hl hk
  rw [nI_0] at e
  exact e
theorem sm_has_1 (hl : r_ls (ar 7) (sc 6) l) {b : Nat} (hb : b < 16) : ex_big S 3 0 [.inr 13, .inl (nI b), .inr 0] [] (mk_W N sc ar) 0 0 = some (some (if b ∈ l then 1 else 0), mk_W N sc ar) := by
  have e := sm_has (S := S) (N := N) (i := 1) (by omega) hl (nI b)
  simp only [x_any_iff hl.2.2.2 hb] at e
  exact e
theorem sm_add_1 (hl : r_ls (ar 7) (sc 6) l) {b : Nat} (hb : b < 16) (hn : l.length < 16) : ex_big S 4 0 [.inr 13, .inl (nI b)] [] (mk_W N sc ar) 0 0 = some (none, mk_W N (upd sc 6 (nI (l.length + 1))) (x_up ar 7 (upd (ar 7) l.length (nI b)))) ∧ r_ls (upd (ar 7) l.length (nI b)) (nI (l.length + 1)) (l ++ [b]) := sm_add (i := 1) (by omega) hl hb hn
theorem sm_remove_1 (hl : r_ls (ar 7) (sc 6) l) {c : Nat} (hc : c < 16) : ∃ g, ex_big S 5 0 [.inr 13, .inl (nI c), .inr 0, .inr 0] [] (mk_W N sc ar) 0 0 = some (none, mk_W N (upd sc 6 (nI (x_rm c l).length)) (x_up ar 7 g)) ∧ r_ls g (nI (x_rm c l).length) (x_rm c l) := sm_remove (i := 1) (by omega) hl hc
theorem sm_clear_1 : ex_big S 6 0 [.inr 13] [] (mk_W N sc ar) 0 0 = some (none, mk_W N (upd sc 6 0) ar) := (sm_clear (i := 1) (by omega)).1
theorem sm_size_2 : ex_big S 1 0 [.inr 15] [] (mk_W N sc ar) 0 0 = some (some (sc 7), mk_W N sc ar) := sm_size (i := 2) (by omega)
theorem sm_at0_2 (hl : r_ls (ar 8) (sc 7) l) (hp : 0 < l.length) : ex_big S 2 0 [.inr 15, .inl 0] [] (mk_W N sc ar) 0 0 = some (some (nI (l.headD 0)), mk_W N sc ar) := by
  have hk : l[0]? = some (l.headD 0) := by
    cases l with
    | nil => simp at hp
    | cons a t => rfl
  have e := sm_at_in (S := S) (N := N) (i := 2) (by omega) hl hk
  rw [nI_0] at e
  exact e
theorem sm_has_2 (hl : r_ls (ar 8) (sc 7) l) {b : Nat} (hb : b < 16) : ex_big S 3 0 [.inr 15, .inl (nI b), .inr 0] [] (mk_W N sc ar) 0 0 = some (some (if b ∈ l then 1 else 0), mk_W N sc ar) := by
  have e := sm_has (S := S) (N := N) (i := 2) (by omega) hl (nI b)
  simp only [x_any_iff hl.2.2.2 hb] at e
  exact e
theorem sm_add_2 (hl : r_ls (ar 8) (sc 7) l) {b : Nat} (hb : b < 16) (hn : l.length < 16) : ex_big S 4 0 [.inr 15, .inl (nI b)] [] (mk_W N sc ar) 0 0 = some (none, mk_W N (upd sc 7 (nI (l.length + 1))) (x_up ar 8 (upd (ar 8) l.length (nI b)))) ∧ r_ls (upd (ar 8) l.length (nI b)) (nI (l.length + 1)) (l ++ [b]) := sm_add (i := 2) (by omega) hl hb hn
theorem sm_remove_2 (hl : r_ls (ar 8) (sc 7) l) {c : Nat} (hc : c < 16) : ∃ g, ex_big S 5 0 [.inr 15, .inl (nI c), .inr 0, .inr 0] [] (mk_W N sc ar) 0 0 = some (none, mk_W N (upd sc 7 (nI (x_rm c l).length)) (x_up ar 8 g)) ∧ r_ls g (nI (x_rm c l).length) (x_rm c l) := sm_remove (i := 2) (by omega) hl hc
theorem sm_clear_2 : ex_big S 6 0 [.inr 15] [] (mk_W N sc ar) 0 0 = some (none, mk_W N (upd sc 7 0) ar) := (sm_clear (i := 2) (by omega)).1
theorem sm_size_3 : ex_big S 1 0 [.inr 17] [] (mk_W N sc ar) 0 0 = some (some (sc 8), mk_W N sc ar) := sm_size (i := 3) (by omega)
theorem sm_at0_3 (hl : r_ls (ar 9) (sc 8) l) (hp : 0 < l.length) : ex_big S 2 0 [.inr 17, .inl 0] [] (mk_W N sc ar) 0 0 = some (some (nI (l.headD 0)), mk_W N sc ar) := by
  have hk : l[0]? = some (l.headD 0) := by
    cases l with
    | nil => simp at hp
    | cons a t => rfl
  have e := sm_at_in (S := S) (N := N) (i := 3) (by omega) hl hk
  rw [nI_0] at e
  exact e
theorem sm_has_3 (hl : r_ls (ar 9) (sc 8) l) {b : Nat} (hb : b < 16) : ex_big S 3 0 [.inr 17, .inl (nI b), .inr 0] [] (mk_W N sc ar) 0 0 = some (some (if b ∈ l then 1 else 0), mk_W N sc ar) := by
  have e := sm_has (S := S) (N := N) (i := 3) (by omega) hl (nI b)
  simp only [x_any_iff hl.2.2.2 hb] at e
  exact e
theorem sm_add_3 (hl : r_ls (ar 9) (sc 8) l) {b : Nat} (hb : b < 16) (hn : l.length < 16) : ex_big S 4 0 [.inr 17, .inl (nI b)] [] (mk_W N sc ar) 0 0 = some (none, mk_W N (upd sc 8 (nI (l.length + 1))) (x_up ar 9 (upd (ar 9) l.length (nI b)))) ∧ r_ls (upd (ar 9) l.length (nI b)) (nI (l.length + 1)) (l ++ [b]) := sm_add (i := 3) (by omega) hl hb hn
theorem sm_remove_3 (hl : r_ls (ar 9) (sc 8) l) {c : Nat} (hc : c < 16) : ∃ g, ex_big S 5 0 [.inr 17, .inl (nI c), .inr 0, .inr 0] [] (mk_W N sc ar) 0 0 = some (none, mk_W N (upd sc 8 (nI (x_rm c l).length)) (x_up ar 9 g)) ∧ r_ls g (nI (x_rm c l).length) (x_rm c l) := sm_remove (i := 3) (by omega) hl hc
theorem sm_clear_3 : ex_big S 6 0 [.inr 17] [] (mk_W N sc ar) 0 0 = some (none, mk_W N (upd sc 8 0) ar) := (sm_clear (i := 3) (by omega)).1
theorem sm_slotOf_h (hN : N ≤ 14) (hr : r_pl N (ar 2) (ar 3) sl dt) {b : Nat} (hb : b < 16) : ex_big S 11 0 [.inr 5, .inl (nI b), .inr 0] [] (mk_W N sc ar) 0 0 = some (some (e_o (sl b)), mk_W N sc ar) := sm_slotOf (h := 0) (by omega) hN hr hb
theorem sm_slotOf_j (hN : N ≤ 14) (hr : r_pl N (ar 4) (ar 5) sl dt) {b : Nat} (hb : b < 16) : ex_big S 11 0 [.inr 8, .inl (nI b), .inr 0] [] (mk_W N sc ar) 0 0 = some (some (e_o (sl b)), mk_W N sc ar) := sm_slotOf (h := 1) (by omega) hN hr hb
theorem sm_slotOf_ho (hN : N ≤ 14) (hr : r_pl N (ar 2) (ar 3) sl dt) {x : Int32} (hx : ∀ b, b < 16 → x ≠ nI b) : ex_big S 11 0 [.inr 5, .inl x, .inr 0] [] (mk_W N sc ar) 0 0 = some (some (-1), mk_W N sc ar) := sm_slotOf_out (h := 0) (by omega) hN hr hx
theorem sm_slotOf_jo (hN : N ≤ 14) (hr : r_pl N (ar 4) (ar 5) sl dt) {x : Int32} (hx : ∀ b, b < 16 → x ≠ nI b) : ex_big S 11 0 [.inr 8, .inl x, .inr 0] [] (mk_W N sc ar) 0 0 = some (some (-1), mk_W N sc ar) := sm_slotOf_out (h := 1) (by omega) hN hr hx
theorem sm_empty_h (hN : N ≤ 14) {s : Nat} (hs : s < N) : ex_big S 8 0 [.inr 5, .inl (nI s)] [] (mk_W N sc ar) 0 0 = some (none, mk_W N sc (mk_P 0 ar (upd (ar 2) s (-1)) (upd (ar 3) s (-1)))) := by
  have e := sm_empty (S := S) (sc := sc) (ar := ar) (h := 0) (f := ar 2) (g := ar 3) (by omega) hN hs
  rw [show mk_P 0 ar (ar 2) (ar 3) = ar from mp_id (h := 0)] at e
  exact e
theorem sm_pclear_h (hN : N ≤ 14) : ex_big S 9 0 [.inr 5, .inr 0] [] (mk_W N sc ar) 0 0 = some (none, mk_W N sc (mk_P 0 ar (p_cl N (ar 2)) (p_cl N (ar 3)))) := by
  have e := sm_pclear (S := S) (sc := sc) (ar := ar) (h := 0) (f := ar 2) (g := ar 3) (by omega) hN
  rw [show mk_P 0 ar (ar 2) (ar 3) = ar from mp_id (h := 0)] at e
  exact e
theorem sm_pclear_j (hN : N ≤ 14) : ex_big S 9 0 [.inr 8, .inr 0] [] (mk_W N sc ar) 0 0 = some (none, mk_W N sc (mk_P 1 ar (p_cl N (ar 4)) (p_cl N (ar 5)))) := by
  have e := sm_pclear (S := S) (sc := sc) (ar := ar) (h := 1) (f := ar 4) (g := ar 5) (by omega) hN
  rw [show mk_P 1 ar (ar 4) (ar 5) = ar from mp_id (h := 1)] at e
  exact e
theorem sm_become_jh (hN : N ≤ 14) : ex_big S 10 0 [.inr 8, .inr 5, .inr 0] [] (mk_W N sc ar) 0 0 = some (none, mk_W N sc (mk_P 1 ar (p_cp N (ar 4) (ar 2)) (p_cp N (ar 5) (ar 3)))) := by
  have e := sm_become (S := S) (sc := sc) (ar := ar) (h := 1) (h2 := 0) (f := ar 4) (g := ar 5) (by omega) hN (by omega) (by omega)
  rw [show mk_P 1 ar (ar 4) (ar 5) = ar from mp_id (h := 1)] at e
  exact e
theorem sm_become_hj (hN : N ≤ 14) : ex_big S 10 0 [.inr 5, .inr 8, .inr 0] [] (mk_W N sc ar) 0 0 = some (none, mk_W N sc (mk_P 0 ar (p_cp N (ar 2) (ar 4)) (p_cp N (ar 3) (ar 5)))) := by
  have e := sm_become (S := S) (sc := sc) (ar := ar) (h := 0) (h2 := 1) (f := ar 2) (g := ar 3) (by omega) hN (by omega) (by omega)
  rw [show mk_P 0 ar (ar 2) (ar 3) = ar from mp_id (h := 0)] at e
  exact e
theorem sm_dirtyCount_h (hN : N ≤ 14) (hr : r_pl N (ar 2) (ar 3) sl dt) : ex_big S 12 0 [.inr 5, .inr 0, .inr 0] [] (mk_W N sc ar) 0 0 = some (some (nI (x_cnt dt)), mk_W N sc ar) := sm_dirtyCount (h := 0) (by omega) hN hr
theorem sm_firstDirty_h (hN : N ≤ 14) (hr : r_pl N (ar 2) (ar 3) sl dt) {e : Int32} {B : Nat} (he : ∀ d, d < 2 ^ 30 → (nI d ≤ e ↔ d < B)) : ex_big S 13 0 [.inr 5, .inl e, .inr 0, .inr 0] [] (mk_W N sc ar) 0 0 = some (some (e_o ((x_first dt B).bind sl)), mk_W N sc ar) := sm_firstDirty (h := 0) (by omega) hN hr he
end INST
