/-! the small machine without its count of steps -/
theorem ex_mono {S : ex_S} : ∀ (n y pc : Nat) (ls st : List ex_V) (w : ex_W) (c s : Nat) (x : ex_R), ex_run S n y pc ls st w c s = some x → ex_run S (n + 1) y pc ls st w c s = some x := by
  intro n
  induction n with
  | zero => intro y pc ls st w c s x h; cases h
  | succ n ih =>
    intro y pc ls st w c s x h
    unfold ex_run at h ⊢
    cases hd : ex_dec S y pc ls st w c s with
    | none => rw [hd] at h; cases h
    | some N =>
      rw [hd] at h
      rcases N with r | F | q
      · exact h
      · exact ih _ _ _ _ _ _ _ _ h
      · simp only at h ⊢
        cases hr : ex_run S n q.1.1 0 (ex_pad q.1.1 q.1.2) [] w 0 0 with
        | none => rw [hr] at h; cases h
        | some r =>
          rw [hr] at h
          rw [ih _ _ _ _ _ _ _ _ hr]
          exact ih _ _ _ _ _ _ _ _ h
theorem ex_mono_le {S : ex_S} {n k y pc : Nat} {ls st : List ex_V} {w : ex_W} {c s : Nat} {x : ex_R} (hk : n ≤ k) (h : ex_run S n y pc ls st w c s = some x) : ex_run S k y pc ls st w c s = some x := by
  obtain ⟨d, rfl⟩ := Nat.le.dest hk
  induction d with
  | zero => exact h
  | succ d ih => exact ex_mono _ _ _ _ _ _ _ _ _ (ih (Nat.le_add_right _ _))
noncomputable def ex_big (S : ex_S) (y pc : Nat) (ls st : List ex_V) (w : ex_W) (c s : Nat) : Option ex_R :=
  @dite (Option ex_R) (∃ (x : ex_R) (n : Nat), ex_run S n y pc ls st w c s = some x) (Classical.propDecidable _) (fun h => some h.choose) (fun _ => none)
theorem ex_big_iff {S : ex_S} {y pc : Nat} {ls st : List ex_V} {w : ex_W} {c s : Nat} {x : ex_R} : ex_big S y pc ls st w c s = some x ↔ ∃ n, ex_run S n y pc ls st w c s = some x := by
  unfold ex_big
  constructor
  · intro h
    split at h
    · rename_i hx
      obtain ⟨n, hn⟩ := hx.choose_spec
      exact ⟨n, by rw [hn]; exact h⟩
    · cases h
  · rintro ⟨n, hn⟩
    have hx : ∃ (x : ex_R) (n : Nat), ex_run S n y pc ls st w c s = some x := ⟨x, n, hn⟩
    rw [dif_pos hx]
    obtain ⟨k, hk⟩ := hx.choose_spec
    have e1 := ex_mono_le (Nat.le_max_left n k) hn
    have e2 := ex_mono_le (Nat.le_max_right n k) hk
    exact e2.symm.trans e1
theorem ex_big_ext {S : ex_S} {y pc : Nat} {ls st : List ex_V} {w : ex_W} {c s : Nat} {o : Option ex_R} (h : ∀ x, (∃ n, ex_run S n y pc ls st w c s = some x) ↔ o = some x) : ex_big S y pc ls st w c s = o := by
  cases o with
  | some x => exact ex_big_iff.mpr ((h x).mpr rfl)
  | none =>
    cases hb : ex_big S y pc ls st w c s with
    | none => rfl
    | some x => exact absurd ((h x).mp (ex_big_iff.mp hb)) (by simp)
theorem ex_big_ret {S : ex_S} {y pc : Nat} {ls st : List ex_V} {w : ex_W} {c s : Nat} {r : ex_R} (hd : ex_dec S y pc ls st w c s = some (.inl r)) : ex_big S y pc ls st w c s = some r := by
  refine ex_big_iff.mpr ⟨1, ?_⟩
  unfold ex_run
  rw [hd]
theorem ex_big_next {S : ex_S} {y pc pc' : Nat} {ls st ls' st' : List ex_V} {w w' : ex_W} {c s c' s' : Nat} (hd : ex_dec S y pc ls st w c s = ex_nx pc' ls' st' w' c' s') : ex_big S y pc ls st w c s = ex_big S y pc' ls' st' w' c' s' := by
  have hd : ex_dec S y pc ls st w c s = some (.inr (.inl (pc', ls', st', w', c', s'))) := hd
  refine ex_big_ext fun x => ?_
  rw [ex_big_iff]
  constructor
  · rintro ⟨n, hn⟩
    cases n with
    | zero => cases hn
    | succ n =>
      unfold ex_run at hn
      rw [hd] at hn
      exact ⟨n, hn⟩
  · rintro ⟨n, hn⟩
    refine ⟨n + 1, ?_⟩
    unfold ex_run
    rw [hd]
    exact hn
theorem ex_big_none {S : ex_S} {y pc : Nat} {ls st : List ex_V} {w : ex_W} {c s : Nat} (hd : ex_dec S y pc ls st w c s = none) : ex_big S y pc ls st w c s = none := by
  refine ex_big_ext fun x => ⟨?_, fun h => by cases h⟩
  rintro ⟨n, hn⟩
  cases n with
  | zero => cases hn
  | succ n =>
    unfold ex_run at hn
    rw [hd] at hn
    cases hn
theorem ex_big_call {S : ex_S} {y pc y2 : Nat} {ls st as rest : List ex_V} {w : ex_W} {c s : Nat} (hd : ex_dec S y pc ls st w c s = some (.inr (.inr ((y2, as), rest)))) : ex_big S y pc ls st w c s = (ex_big S y2 0 (ex_pad y2 as) [] w 0 0).bind fun r => ex_big S y (pc + 3) ls (ex_rl r.1 ++ rest) r.2 (c + ex_mc y2) (s + ex_ms y2) := by
  refine ex_big_ext fun x => ?_
  constructor
  · rintro ⟨n, hn⟩
    cases n with
    | zero => cases hn
    | succ n =>
      unfold ex_run at hn
      rw [hd] at hn
      simp only at hn
      cases hr : ex_run S n y2 0 (ex_pad y2 as) [] w 0 0 with
      | none => rw [hr] at hn; cases hn
      | some r =>
        rw [hr] at hn
        rw [ex_big_iff.mpr ⟨n, hr⟩]
        exact ex_big_iff.mpr ⟨n, hn⟩
  · intro h
    cases hr : ex_big S y2 0 (ex_pad y2 as) [] w 0 0 with
    | none => rw [hr] at h; cases h
    | some r =>
      rw [hr] at h
      obtain ⟨n, hn⟩ := ex_big_iff.mp hr
      have h : ex_big S y (pc + 3) ls (ex_rl r.1 ++ rest) r.2 (c + ex_mc y2) (s + ex_ms y2) = some x := h
      obtain ⟨k, hk⟩ := ex_big_iff.mp h
      refine ⟨max n k + 1, ?_⟩
      unfold ex_run
      rw [hd]
      simp only
      rw [ex_mono_le (Nat.le_max_left n k) hn]
      exact ex_mono_le (Nat.le_max_right n k) hk
/-! what each instruction makes of the small machine: equations -/
section BG
variable {S : ex_S} {y pc : Nat} {ls st : List ex_V} {w : ex_W} {c s : Nat}
theorem bg_iconst {n : Int} (hd : decode (ex_cod y) pc = .ok (.iconst n, 1)) : ex_big S y pc ls st w c s = ex_big S y (pc + 1) ls (.inl (Int32.ofInt n) :: st) w c s := ex_big_next (by simp only [ex_dec, hd])
theorem bg_bipush {n : Int} (hd : decode (ex_cod y) pc = .ok (.bipush n, 2)) : ex_big S y pc ls st w c s = ex_big S y (pc + 2) ls (.inl (Int8.ofInt n).toInt32 :: st) w c s := ex_big_next (by simp only [ex_dec, hd])
theorem bg_sipush {n : Int} (hd : decode (ex_cod y) pc = .ok (.sipush n, 3)) : ex_big S y pc ls st w c s = ex_big S y (pc + 3) ls (.inl (Int16.ofInt n).toInt32 :: st) w c s := ex_big_next (by simp only [ex_dec, hd])
theorem bg_ldc {i : Nat} {v : Int32} (hd : decode (ex_cod y) pc = .ok (.ldc i, 2)) (hk : ex_kn y i = some v) : ex_big S y pc ls st w c s = ex_big S y (pc + 2) ls (.inl v :: st) w c s := ex_big_next (by simp only [ex_dec, hd, hk])
theorem bg_iload_n {k : Fin 4} {x : Int32} (hd : decode (ex_cod y) pc = .ok (.iload_n k, 1)) (hx : ls[(k : Nat)]? = some (.inl x)) : ex_big S y pc ls st w c s = ex_big S y (pc + 1) ls (.inl x :: st) w c s := ex_big_next (by simp only [ex_dec, hd, ex_ldI, hx])
theorem bg_iload {k : Nat} {x : Int32} (hd : decode (ex_cod y) pc = .ok (.iload k, 2)) (hx : ls[k]? = some (.inl x)) : ex_big S y pc ls st w c s = ex_big S y (pc + 2) ls (.inl x :: st) w c s := ex_big_next (by simp only [ex_dec, hd, ex_ldI, hx])
theorem bg_aload_n {k : Fin 4} {q : Nat} (hd : decode (ex_cod y) pc = .ok (.aload_n k, 1)) (hx : ls[(k : Nat)]? = some (.inr (q + 1))) : ex_big S y pc ls st w c s = ex_big S y (pc + 1) ls (.inr (q + 1) :: st) w c s := ex_big_next (by simp only [ex_dec, hd, ex_ldA, hx])
theorem bg_aload {k : Nat} {q : Nat} (hd : decode (ex_cod y) pc = .ok (.aload k, 2)) (hx : ls[k]? = some (.inr (q + 1))) : ex_big S y pc ls st w c s = ex_big S y (pc + 2) ls (.inr (q + 1) :: st) w c s := ex_big_next (by simp only [ex_dec, hd, ex_ldA, hx])
theorem bg_istore_n {k : Fin 4} {x : Int32} (hd : decode (ex_cod y) pc = .ok (.istore_n k, 1)) (hk : (k : Nat) < ex_mxl y) : ex_big S y pc ls (.inl x :: st) w c s = ex_big S y (pc + 1) (ls.set k (.inl x)) st w c s := ex_big_next (by simp only [ex_dec, hd, if_pos hk])
theorem bg_istore {k : Nat} {x : Int32} (hd : decode (ex_cod y) pc = .ok (.istore k, 2)) (hk : k < ex_mxl y) : ex_big S y pc ls (.inl x :: st) w c s = ex_big S y (pc + 2) (ls.set k (.inl x)) st w c s := ex_big_next (by simp only [ex_dec, hd, if_pos hk])
theorem bg_astore_n {k : Fin 4} {q : Nat} (hd : decode (ex_cod y) pc = .ok (.astore_n k, 1)) (hk : (k : Nat) < ex_mxl y) : ex_big S y pc ls (.inr (q + 1) :: st) w c s = ex_big S y (pc + 1) (ls.set k (.inr (q + 1))) st w c s := ex_big_next (by simp only [ex_dec, hd, if_pos hk])
theorem bg_astore {k : Nat} {q : Nat} (hd : decode (ex_cod y) pc = .ok (.astore k, 2)) (hk : k < ex_mxl y) : ex_big S y pc ls (.inr (q + 1) :: st) w c s = ex_big S y (pc + 2) (ls.set k (.inr (q + 1))) st w c s := ex_big_next (by simp only [ex_dec, hd, if_pos hk])
theorem bg_iinc {k : Nat} {n : Int} {x : Int32} (hd : decode (ex_cod y) pc = .ok (.iinc k n, 3)) (hx : ls[k]? = some (.inl x)) (hk : k < ex_mxl y) : ex_big S y pc ls st w c s = ex_big S y (pc + 3) (ls.set k (.inl (x + Int32.ofInt n))) st w c s := ex_big_next (by simp only [ex_dec, hd, ex_ldI, hx, if_pos hk])
theorem bg_iadd {a b : Int32} (hd : decode (ex_cod y) pc = .ok (.iadd, 1)) : ex_big S y pc ls (.inl b :: .inl a :: st) w c s = ex_big S y (pc + 1) ls (.inl (a + b) :: st) w c s := ex_big_next (by simp only [ex_dec, hd])
theorem bg_isub {a b : Int32} (hd : decode (ex_cod y) pc = .ok (.isub, 1)) : ex_big S y pc ls (.inl b :: .inl a :: st) w c s = ex_big S y (pc + 1) ls (.inl (a - b) :: st) w c s := ex_big_next (by simp only [ex_dec, hd])
theorem bg_imul {a b : Int32} (hd : decode (ex_cod y) pc = .ok (.imul, 1)) : ex_big S y pc ls (.inl b :: .inl a :: st) w c s = ex_big S y (pc + 1) ls (.inl (a * b) :: st) w c s := ex_big_next (by simp only [ex_dec, hd])
theorem bg_iand {a b : Int32} (hd : decode (ex_cod y) pc = .ok (.iand, 1)) : ex_big S y pc ls (.inl b :: .inl a :: st) w c s = ex_big S y (pc + 1) ls (.inl (a &&& b) :: st) w c s := ex_big_next (by simp only [ex_dec, hd])
theorem bg_idiv {a b : Int32} (hd : decode (ex_cod y) pc = .ok (.idiv, 1)) : ex_big S y pc ls (.inl b :: .inl a :: st) w c s = if b = 0 then none else ex_big S y (pc + 1) ls (.inl (a / b) :: st) w c s := by
  by_cases hb : b = 0
  · rw [if_pos hb]
    exact ex_big_none (by simp only [ex_dec, hd, if_pos hb])
  · rw [if_neg hb]
    exact ex_big_next (by simp only [ex_dec, hd, if_neg hb])
theorem bg_dup {v : ex_V} (hd : decode (ex_cod y) pc = .ok (.dup, 1)) : ex_big S y pc ls (v :: st) w c s = ex_big S y (pc + 1) ls (v :: v :: st) w c s := ex_big_next (by simp only [ex_dec, hd])
theorem bg_pop {v : ex_V} (hd : decode (ex_cod y) pc = .ok (.pop, 1)) : ex_big S y pc ls (v :: st) w c s = ex_big S y (pc + 1) ls st w c s := ex_big_next (by simp only [ex_dec, hd])
theorem bg_goto {off : Int} {t : Nat} (hd : decode (ex_cod y) pc = .ok (.goto off, 3)) (ht : (pc : Int) + off = Int.ofNat t) : ex_big S y pc ls st w c s = ex_big S y t ls st w c s := ex_big_next (by simp only [ex_dec, hd, ex_go, ht])
theorem bg_if {k0 : ClassFile.Cond} {off : Int} {t : Nat} {x : Int32} (hd : decode (ex_cod y) pc = .ok (.ifCond k0 off, 3)) (ht : (pc : Int) + off = Int.ofNat t) : ex_big S y pc ls (.inl x :: st) w c s = if ex_cnd k0 x 0 = true then ex_big S y t ls st w c s else ex_big S y (pc + 3) ls st w c s := by
  by_cases hc : ex_cnd k0 x 0 = true
  · rw [if_pos hc]
    exact ex_big_next (by simp only [ex_dec, hd, ex_br, ht, if_pos hc])
  · rw [if_neg hc]
    exact ex_big_next (by simp only [ex_dec, hd, ex_br, ht, if_neg hc])
theorem bg_icmp {k0 : ClassFile.Cond} {off : Int} {t : Nat} {a b : Int32} (hd : decode (ex_cod y) pc = .ok (.if_icmp k0 off, 3)) (ht : (pc : Int) + off = Int.ofNat t) : ex_big S y pc ls (.inl b :: .inl a :: st) w c s = if ex_cnd k0 a b = true then ex_big S y t ls st w c s else ex_big S y (pc + 3) ls st w c s := by
  by_cases hc : ex_cnd k0 a b = true
  · rw [if_pos hc]
    exact ex_big_next (by simp only [ex_dec, hd, ex_br, ht, if_pos hc])
  · rw [if_neg hc]
    exact ex_big_next (by simp only [ex_dec, hd, ex_br, ht, if_neg hc])
theorem ex_ite_not {P : Prop} [Decidable P] {α : Type} {x z : α} : (if (!decide P) = true then x else z) = if P then z else x := by
  by_cases h : P
  · rw [if_pos h, if_neg (by simp [h])]
  · rw [if_neg h, if_pos (by simp [h])]
theorem ex_ite_dec {P : Prop} [Decidable P] {α : Type} {x z : α} : (if decide P = true then x else z) = if P then x else z := by
  by_cases h : P
  · rw [if_pos h, if_pos (by simp [h])]
  · rw [if_neg h, if_neg (by simp [h])]
theorem bg_if_eq {off : Int} {t : Nat} {x : Int32} (hd : decode (ex_cod y) pc = .ok (.ifCond .eq off, 3)) (ht : (pc : Int) + off = Int.ofNat t) : ex_big S y pc ls (.inl x :: st) w c s = if x = 0 then ex_big S y t ls st w c s else ex_big S y (pc + 3) ls st w c s := (bg_if hd ht).trans ex_ite_dec
theorem bg_if_ne {off : Int} {t : Nat} {x : Int32} (hd : decode (ex_cod y) pc = .ok (.ifCond .ne off, 3)) (ht : (pc : Int) + off = Int.ofNat t) : ex_big S y pc ls (.inl x :: st) w c s = if x = 0 then ex_big S y (pc + 3) ls st w c s else ex_big S y t ls st w c s := (bg_if hd ht).trans ex_ite_not
theorem bg_if_lt {off : Int} {t : Nat} {x : Int32} (hd : decode (ex_cod y) pc = .ok (.ifCond .lt off, 3)) (ht : (pc : Int) + off = Int.ofNat t) : ex_big S y pc ls (.inl x :: st) w c s = if x < 0 then ex_big S y t ls st w c s else ex_big S y (pc + 3) ls st w c s := (bg_if hd ht).trans ex_ite_dec
theorem bg_if_ge {off : Int} {t : Nat} {x : Int32} (hd : decode (ex_cod y) pc = .ok (.ifCond .ge off, 3)) (ht : (pc : Int) + off = Int.ofNat t) : ex_big S y pc ls (.inl x :: st) w c s = if 0 ≤ x then ex_big S y t ls st w c s else ex_big S y (pc + 3) ls st w c s := (bg_if hd ht).trans ex_ite_dec
theorem bg_if_gt {off : Int} {t : Nat} {x : Int32} (hd : decode (ex_cod y) pc = .ok (.ifCond .gt off, 3)) (ht : (pc : Int) + off = Int.ofNat t) : ex_big S y pc ls (.inl x :: st) w c s = if 0 < x then ex_big S y t ls st w c s else ex_big S y (pc + 3) ls st w c s := (bg_if hd ht).trans ex_ite_dec
theorem bg_if_le {off : Int} {t : Nat} {x : Int32} (hd : decode (ex_cod y) pc = .ok (.ifCond .le off, 3)) (ht : (pc : Int) + off = Int.ofNat t) : ex_big S y pc ls (.inl x :: st) w c s = if x ≤ 0 then ex_big S y t ls st w c s else ex_big S y (pc + 3) ls st w c s := (bg_if hd ht).trans ex_ite_dec
theorem bg_icmp_eq {off : Int} {t : Nat} {a b : Int32} (hd : decode (ex_cod y) pc = .ok (.if_icmp .eq off, 3)) (ht : (pc : Int) + off = Int.ofNat t) : ex_big S y pc ls (.inl b :: .inl a :: st) w c s = if a = b then ex_big S y t ls st w c s else ex_big S y (pc + 3) ls st w c s := (bg_icmp hd ht).trans ex_ite_dec
theorem bg_icmp_ne {off : Int} {t : Nat} {a b : Int32} (hd : decode (ex_cod y) pc = .ok (.if_icmp .ne off, 3)) (ht : (pc : Int) + off = Int.ofNat t) : ex_big S y pc ls (.inl b :: .inl a :: st) w c s = if a = b then ex_big S y (pc + 3) ls st w c s else ex_big S y t ls st w c s := (bg_icmp hd ht).trans ex_ite_not
theorem bg_icmp_lt {off : Int} {t : Nat} {a b : Int32} (hd : decode (ex_cod y) pc = .ok (.if_icmp .lt off, 3)) (ht : (pc : Int) + off = Int.ofNat t) : ex_big S y pc ls (.inl b :: .inl a :: st) w c s = if a < b then ex_big S y t ls st w c s else ex_big S y (pc + 3) ls st w c s := (bg_icmp hd ht).trans ex_ite_dec
theorem bg_icmp_ge {off : Int} {t : Nat} {a b : Int32} (hd : decode (ex_cod y) pc = .ok (.if_icmp .ge off, 3)) (ht : (pc : Int) + off = Int.ofNat t) : ex_big S y pc ls (.inl b :: .inl a :: st) w c s = if b ≤ a then ex_big S y t ls st w c s else ex_big S y (pc + 3) ls st w c s := (bg_icmp hd ht).trans ex_ite_dec
theorem bg_icmp_gt {off : Int} {t : Nat} {a b : Int32} (hd : decode (ex_cod y) pc = .ok (.if_icmp .gt off, 3)) (ht : (pc : Int) + off = Int.ofNat t) : ex_big S y pc ls (.inl b :: .inl a :: st) w c s = if b < a then ex_big S y t ls st w c s else ex_big S y (pc + 3) ls st w c s := (bg_icmp hd ht).trans ex_ite_dec
theorem bg_icmp_le {off : Int} {t : Nat} {a b : Int32} (hd : decode (ex_cod y) pc = .ok (.if_icmp .le off, 3)) (ht : (pc : Int) + off = Int.ofNat t) : ex_big S y pc ls (.inl b :: .inl a :: st) w c s = if a ≤ b then ex_big S y t ls st w c s else ex_big S y (pc + 3) ls st w c s := (bg_icmp hd ht).trans ex_ite_dec
theorem bg_switch {dflt lo hi off : Int} {offs : Array Int} {len t : Nat} {x : Int32} (hd : decode (ex_cod y) pc = .ok (.tableswitch dflt lo hi offs, len)) (hs : ex_sw lo hi dflt offs x = some off) (ht : (pc : Int) + off = Int.ofNat t) : ex_big S y pc ls (.inl x :: st) w c s = ex_big S y t ls st w c s := ex_big_next (by simp only [ex_dec, hd, hs, ex_go, ht])
theorem bg_getfield {i q ci k fk : Nat} {fin : Bool} (hd : decode (ex_cod y) pc = .ok (.getfield i, 3)) (hf : ex_fr y i = some (ci, k, fk, fin)) : ex_big S y pc ls (.inr q :: st) w c s = (ex_gf w q ci k).bind fun v => ex_big S y (pc + 3) ls (v :: st) w c s := by
  cases hg : ex_gf w q ci k with
  | none => exact ex_big_none (by simp only [ex_dec, hd, hf, hg])
  | some v => exact ex_big_next (by simp only [ex_dec, hd, hf, hg])
theorem bg_putfield {i q ci k fk : Nat} {fin : Bool} {v : ex_V} (hd : decode (ex_cod y) pc = .ok (.putfield i, 3)) (hf : ex_fr y i = some (ci, k, fk, fin)) (hfin : fin = false ∨ (ex_ini y = true ∧ ex_cix y = ci)) : ex_big S y pc ls (v :: .inr q :: st) w c s = if ex_fits fk v = true then (ex_pf w q ci k v).bind fun w2 => ex_big S y (pc + 3) ls st w2 c s else none := by
  by_cases hv : ex_fits fk v = true
  · rw [if_pos hv]
    cases hg : ex_pf w q ci k v with
    | none => exact ex_big_none (by simp only [ex_dec, hd, hf, hg, if_pos (And.intro hv hfin)])
    | some w2 => exact ex_big_next (by simp only [ex_dec, hd, hf, hg, if_pos (And.intro hv hfin)])
  · rw [if_neg hv]
    exact ex_big_none (by simp only [ex_dec, hd, hf, if_neg (fun h : ex_fits fk v = true ∧ (fin = false ∨ (ex_ini y = true ∧ ex_cix y = ci)) => hv h.1)])
theorem bg_iaload {q : Nat} {i : Int32} (hd : decode (ex_cod y) pc = .ok (.iaload, 1)) : ex_big S y pc ls (.inl i :: .inr q :: st) w c s = (ex_rd S w false q i).bind fun x => ex_big S y (pc + 1) ls (.inl x :: st) w c s := by
  cases hg : ex_rd S w false q i with
  | none => exact ex_big_none (by simp only [ex_dec, hd, hg])
  | some v => exact ex_big_next (by simp only [ex_dec, hd, hg])
theorem bg_baload {q : Nat} {i : Int32} (hd : decode (ex_cod y) pc = .ok (.baload, 1)) : ex_big S y pc ls (.inl i :: .inr q :: st) w c s = (ex_rd S w true q i).bind fun x => ex_big S y (pc + 1) ls (.inl x :: st) w c s := by
  cases hg : ex_rd S w true q i with
  | none => exact ex_big_none (by simp only [ex_dec, hd, hg])
  | some v => exact ex_big_next (by simp only [ex_dec, hd, hg])
theorem bg_iastore {q : Nat} {i x : Int32} (hd : decode (ex_cod y) pc = .ok (.iastore, 1)) : ex_big S y pc ls (.inl x :: .inl i :: .inr q :: st) w c s = (ex_wt w false q i x).bind fun w2 => ex_big S y (pc + 1) ls st w2 c s := by
  cases hg : ex_wt w false q i x with
  | none => exact ex_big_none (by simp only [ex_dec, hd, hg])
  | some v => exact ex_big_next (by simp only [ex_dec, hd, hg])
theorem bg_bastore {q : Nat} {i x : Int32} (hd : decode (ex_cod y) pc = .ok (.bastore, 1)) : ex_big S y pc ls (.inl x :: .inl i :: .inr q :: st) w c s = (ex_wt w true q i (vp_nar .boolean x)).bind fun w2 => ex_big S y (pc + 1) ls st w2 c s := by
  cases hg : ex_wt w true q i (vp_nar .boolean x) with
  | none => exact ex_big_none (by simp only [ex_dec, hd, hg])
  | some v => exact ex_big_next (by simp only [ex_dec, hd, hg])
theorem bg_aaload {q : Nat} {i : Int32} (hd : decode (ex_cod y) pc = .ok (.aaload, 1)) : ex_big S y pc ls (.inl i :: .inr q :: st) w c s = (ex_rq w q i).bind fun x => ex_big S y (pc + 1) ls (.inr x :: st) w c s := by
  cases hg : ex_rq w q i with
  | none => exact ex_big_none (by simp only [ex_dec, hd, hg])
  | some v => exact ex_big_next (by simp only [ex_dec, hd, hg])
theorem bg_aastore {q x : Nat} {i : Int32} (hd : decode (ex_cod y) pc = .ok (.aastore, 1)) : ex_big S y pc ls (.inr x :: .inl i :: .inr q :: st) w c s = (ex_wq w q i x).bind fun w2 => ex_big S y (pc + 1) ls st w2 c s := by
  cases hg : ex_wq w q i x with
  | none => exact ex_big_none (by simp only [ex_dec, hd, hg])
  | some v => exact ex_big_next (by simp only [ex_dec, hd, hg])
theorem bg_len {q : Nat} (hd : decode (ex_cod y) pc = .ok (.arraylength, 1)) : ex_big S y pc ls (.inr q :: st) w c s = (ex_len S w q).bind fun x => ex_big S y (pc + 1) ls (.inl x :: st) w c s := by
  cases hg : ex_len S w q with
  | none => exact ex_big_none (by simp only [ex_dec, hd, hg])
  | some v => exact ex_big_next (by simp only [ex_dec, hd, hg])
theorem bg_newI {n : Int32} (hd : decode (ex_cod y) pc = .ok (.newarray .int, 2)) (h : ¬ n < 0 ∧ n.toNatClampNeg ≤ 1000 ∧ c + 1 ≤ ex_mc y ∧ s + n.toNatClampNeg ≤ ex_ms y) : ex_big S y pc ls (.inl n :: st) w c s = ex_big S y (pc + 2) ls (.inr (w.length + 2) :: st) (w ++ [.inl (false, n.toNatClampNeg, fun _ => 0)]) (c + 1) (s + n.toNatClampNeg) := ex_big_next (by simp only [ex_dec, hd, if_pos h])
theorem bg_newZ {n : Int32} (hd : decode (ex_cod y) pc = .ok (.newarray .boolean, 2)) (h : ¬ n < 0 ∧ n.toNatClampNeg ≤ 1000 ∧ c + 1 ≤ ex_mc y ∧ s + n.toNatClampNeg ≤ ex_ms y) : ex_big S y pc ls (.inl n :: st) w c s = ex_big S y (pc + 2) ls (.inr (w.length + 2) :: st) (w ++ [.inl (true, n.toNatClampNeg, fun _ => 0)]) (c + 1) (s + n.toNatClampNeg) := ex_big_next (by simp only [ex_dec, hd, if_pos h])
theorem bg_newQ {i : Nat} {n : Int32} (hd : decode (ex_cod y) pc = .ok (.anewarray i, 3)) (h : ex_ar y i = true ∧ ¬ n < 0 ∧ n.toNatClampNeg ≤ 1000 ∧ c + 1 ≤ ex_mc y ∧ s + n.toNatClampNeg ≤ ex_ms y) : ex_big S y pc ls (.inl n :: st) w c s = ex_big S y (pc + 3) ls (.inr (w.length + 2) :: st) (w ++ [.inr (.inl (n.toNatClampNeg, fun _ => 0))]) (c + 1) (s + n.toNatClampNeg) := ex_big_next (by simp only [ex_dec, hd, if_pos h])
theorem bg_new {i ci : Nat} (hd : decode (ex_cod y) pc = .ok (.new i, 3)) (hn : ex_nr y i = some ci) (h : c + 1 ≤ ex_mc y ∧ s + (ex_da ci).length ≤ ex_ms y) : ex_big S y pc ls st w c s = ex_big S y (pc + 3) ls (.inr (w.length + 2) :: st) (w ++ [.inr (.inr (ci, ex_da ci))]) (c + 1) (s + (ex_da ci).length) := ex_big_next (by simp only [ex_dec, hd, hn, if_pos h])
theorem bg_max {i y2 : Nat} {a b : Int32} (hd : decode (ex_cod y) pc = .ok (.invokestatic i, 3)) (hm : ex_mr y i = some (y2, 3)) (h : 1 ≤ ex_lev y ∧ st.length ≤ 8 ∧ ex_rok y c s = true) : ex_big S y pc ls (.inl b :: .inl a :: st) w c s = ex_big S y (pc + 3) ls (.inl (if a < b then b else a) :: st) w c s := ex_big_next (by simp only [ex_dec, hd, hm, if_pos h])
theorem bg_min {i y2 : Nat} {a b : Int32} (hd : decode (ex_cod y) pc = .ok (.invokestatic i, 3)) (hm : ex_mr y i = some (y2, 4)) (h : 1 ≤ ex_lev y ∧ st.length ≤ 8 ∧ ex_rok y c s = true) : ex_big S y pc ls (.inl b :: .inl a :: st) w c s = ex_big S y (pc + 3) ls (.inl (if b < a then b else a) :: st) w c s := ex_big_next (by simp only [ex_dec, hd, hm, if_pos h])
theorem bg_obj {i y2 q : Nat} (hd : decode (ex_cod y) pc = .ok (.invokespecial i, 3)) (hm : ex_mr y i = some (y2, 5)) (h : 1 ≤ ex_lev y ∧ st.length ≤ 8) : ex_big S y pc ls (.inr (q + 2) :: st) w c s = ex_big S y (pc + 3) ls st w c s := ex_big_next (by simp only [ex_dec, hd, hm, if_pos h])
theorem bg_static {i y2 : Nat} {as rest : List ex_V} (hd : decode (ex_cod y) pc = .ok (.invokestatic i, 3)) (hm : ex_mr y i = some (y2, 0)) (hn : ex_np y2 ≤ st.length) (ht : (st.take (ex_np y2)).reverse = as) (hr : st.drop (ex_np y2) = rest) (h : ex_cok y y2 c s rest.length = true) : ex_big S y pc ls st w c s = (ex_big S y2 0 (ex_pad y2 as) [] w 0 0).bind fun r => ex_big S y (pc + 3) ls (ex_rl r.1 ++ rest) r.2 (c + ex_mc y2) (s + ex_ms y2) := by
  subst ht
  subst hr
  exact ex_big_call (by simp only [ex_dec, hd, hm, if_pos (And.intro hn h)])
theorem bg_virtual {i y2 q : Nat} {as rest : List ex_V} (hd : decode (ex_cod y) pc = .ok (.invokevirtual i, 3)) (hm : ex_mr y i = some (y2, 1)) (ht : (st.take (ex_np y2)).reverse = as) (hr : st.drop (ex_np y2) = .inr q :: rest) (ho : ex_obj w q (ex_cix y2) = true) (h : ex_cok y y2 c s rest.length = true) : ex_big S y pc ls st w c s = (ex_big S y2 0 (ex_pad y2 (.inr q :: as)) [] w 0 0).bind fun r => ex_big S y (pc + 3) ls (ex_rl r.1 ++ rest) r.2 (c + ex_mc y2) (s + ex_ms y2) := by
  subst ht
  exact ex_big_call (by simp only [ex_dec, hd, hm, hr, if_pos (And.intro ho h)])
theorem bg_special {i y2 q : Nat} {as rest : List ex_V} (hd : decode (ex_cod y) pc = .ok (.invokespecial i, 3)) (hm : ex_mr y i = some (y2, 2)) (ht : (st.take (ex_np y2)).reverse = as) (hr : st.drop (ex_np y2) = .inr q :: rest) (ho : ex_obj w q (ex_cix y2) = true) (h : ex_cok y y2 c s rest.length = true) : ex_big S y pc ls st w c s = (ex_big S y2 0 (ex_pad y2 (.inr q :: as)) [] w 0 0).bind fun r => ex_big S y (pc + 3) ls (ex_rl r.1 ++ rest) r.2 (c + ex_mc y2) (s + ex_ms y2) := by
  subst ht
  exact ex_big_call (by simp only [ex_dec, hd, hm, hr, if_pos (And.intro ho h)])
theorem bg_ireturn {x : Int32} (hd : decode (ex_cod y) pc = .ok (.ireturn, 1)) (h : ex_rok y c s = true) (ht : ex_rty y = some .int) : ex_big S y pc ls [.inl x] w c s = some (some x, w) := ex_big_ret (by simp only [ex_dec, hd, if_pos (And.intro h (Or.inl ht : ex_rty y = some .int ∨ (ex_rty y = some .boolean ∧ (x = 0 ∨ x = 1))))])
theorem bg_zreturn {x : Int32} (hd : decode (ex_cod y) pc = .ok (.ireturn, 1)) (h : ex_rok y c s = true) (ht : ex_rty y = some .boolean) (hx : x = 0 ∨ x = 1) : ex_big S y pc ls [.inl x] w c s = some (some x, w) := ex_big_ret (by simp only [ex_dec, hd, if_pos (And.intro h (Or.inr ⟨ht, hx⟩ : ex_rty y = some .int ∨ (ex_rty y = some .boolean ∧ (x = 0 ∨ x = 1))))])
theorem bg_return (hd : decode (ex_cod y) pc = .ok (.return_, 1)) (h : ex_rok y c s = true) (ht : ex_rty y = none) : ex_big S y pc ls [] w c s = some (none, w) := ex_big_ret (by simp only [ex_dec, hd, if_pos (And.intro h ht)])
theorem ex_cok_n {y2 n : Nat} (h : ex_cok y y2 c s 0 = true) (hn : n ≤ 8) : ex_cok y y2 c s n = true := by
  simp only [ex_cok, Bool.and_eq_true, decide_eq_true_eq] at h ⊢
  exact ⟨⟨h.1.1, hn⟩, h.2⟩
end BG
