/-! what the small machine's states stand for on the real one -/
def ex_cv (b : Nat) (ad : List Nat) (v : ex_V) (x : Value) : Prop := match v with
  | .inl n => x = .int n
  | .inr 0 => x = .null
  | .inr 1 => x = .ref b
  | .inr (k + 2) => ∃ a, ad[k]? = some a ∧ x = .ref a
def ex_sr (b : Nat) (ad : List Nat) : List ex_V → List Value → Prop
  | [], [] => True
  | v :: vs, x :: xs => ex_cv b ad v x ∧ ex_sr b ad vs xs
  | _, _ => False
def ex_le (ad ad2 : List Nat) : Prop := ∀ (k a : Nat), ad[k]? = some a → ad2[k]? = some a
def ex_qv (ad : List Nat) (q : Nat) (o : Option Nat) : Prop := match q with
  | 0 => o = none
  | 1 => False
  | k + 2 => ∃ a, ad[k]? = some a ∧ o = some a
def ex_ce (b : Nat) (ad : List Nat) (kc : Nat → ClassId) (c : ex_C) (e : va_E) : Prop := match c with
  | .inl z => e = .inl (kc (if z.1 then 1 else 0), z.2.1, .inl z.2.2)
  | .inr (.inl z) => ∃ g : Nat → Option Nat, e = .inl (kc 2, z.1, .inr (.inr (.inr (.inr g)))) ∧ ∀ j, ex_qv ad (z.2 j) (g j)
  | .inr (.inr o) => ∃ vs, e = .inr (o.1, vs) ∧ ex_sr b ad o.2 vs
def ex_wr (b : Nat) (ad : List Nat) (kc : Nat → ClassId) (w : ex_W) (ws : va_W) : Prop := ad.length = w.length ∧ ws.length = w.length ∧ ∀ (k : Nat) (c : ex_C), w[k]? = some c → ∃ (a : Nat) (e : va_E), ad[k]? = some a ∧ ws[k]? = some (a, e) ∧ ex_ce b ad kc c e
def ex_lr (b : Nat) (ad : List Nat) (ls : List ex_V) (lv : List (Nat × Value)) : Prop := ∀ (i : Nat) (v : ex_V), ls[i]? = some v → v ≠ .inr 0 → ∃ x, ex_cv b ad v x ∧ (i, x) ∈ lv
theorem ex_le_rf (ad : List Nat) : ex_le ad ad := fun _ _ h => h
theorem ex_le_tr {a1 a2 a3 : List Nat} (h : ex_le a1 a2) (h2 : ex_le a2 a3) : ex_le a1 a3 := fun k a x => h2 k a (h k a x)
theorem ex_le_push (ad : List Nat) (q : Nat) : ex_le ad (ad ++ [q]) := fun k a h => by
  have hk : k < ad.length := (List.getElem?_eq_some_iff.mp h).1
  rw [List.getElem?_append_left hk]; exact h
theorem ex_cv_cat {b : Nat} {ad : List Nat} {v : ex_V} {x : Value} (h : ex_cv b ad v x) : x.category = 1 := by
  rcases v with n | (_ | _ | k)
  · have h : x = .int n := h
    subst h; rfl
  · have h : x = .null := h
    subst h; rfl
  · have h : x = .ref b := h
    subst h; rfl
  · obtain ⟨a, -, rfl⟩ := h
    rfl
theorem ex_cv_mono {b : Nat} {ad ad2 : List Nat} {v : ex_V} {x : Value} (hl : ex_le ad ad2) (h : ex_cv b ad v x) : ex_cv b ad2 v x := by
  rcases v with n | (_ | _ | k)
  · exact h
  · exact h
  · exact h
  · obtain ⟨a, h1, h2⟩ := h
    exact ⟨a, hl k a h1, h2⟩
theorem ex_sr_mono {b : Nat} {ad ad2 : List Nat} (hl : ex_le ad ad2) : ∀ {vs : List ex_V} {xs : List Value}, ex_sr b ad vs xs → ex_sr b ad2 vs xs
  | [], [], _ => trivial
  | _ :: _, _ :: _, h => ⟨ex_cv_mono hl h.1, ex_sr_mono hl h.2⟩
theorem ex_qv_mono {ad ad2 : List Nat} {q : Nat} {o : Option Nat} (hl : ex_le ad ad2) (h : ex_qv ad q o) : ex_qv ad2 q o := by
  rcases q with _ | _ | k
  · exact h
  · exact h
  · obtain ⟨a, h1, h2⟩ := h
    exact ⟨a, hl k a h1, h2⟩
theorem ex_ce_mono {b : Nat} {ad ad2 : List Nat} {kc : Nat → ClassId} {c : ex_C} {e : va_E} (hl : ex_le ad ad2) (h : ex_ce b ad kc c e) : ex_ce b ad2 kc c e := by
  rcases c with z | z | o
  · exact h
  · obtain ⟨g, h1, h2⟩ := h
    exact ⟨g, h1, fun j => ex_qv_mono hl (h2 j)⟩
  · obtain ⟨vs, h1, h2⟩ := h
    exact ⟨vs, h1, ex_sr_mono hl h2⟩
theorem ex_lr_mono {b : Nat} {ad ad2 : List Nat} {ls : List ex_V} {lv : List (Nat × Value)} (hl : ex_le ad ad2) (h : ex_lr b ad ls lv) : ex_lr b ad2 ls lv := fun i v h1 h2 => by
  obtain ⟨x, h3, h4⟩ := h i v h1 h2
  exact ⟨x, ex_cv_mono hl h3, h4⟩
theorem ex_sr_len {b : Nat} {ad : List Nat} : ∀ {vs : List ex_V} {xs : List Value}, ex_sr b ad vs xs → vs.length = xs.length
  | [], [], _ => rfl
  | _ :: _, _ :: _, h => by simp only [List.length_cons, ex_sr_len h.2]
theorem ex_sr_c {b : Nat} {ad : List Nat} {v : ex_V} {vs : List ex_V} {xs : List Value} (h : ex_sr b ad (v :: vs) xs) : ∃ (x : Value) (r : List Value), xs = x :: r ∧ ex_cv b ad v x ∧ ex_sr b ad vs r := by
  cases xs with
  | nil => exact h.elim
  | cons x r => exact ⟨x, r, rfl, h.1, h.2⟩
theorem ex_sr_i {b : Nat} {ad : List Nat} {n : Int32} {vs : List ex_V} {xs : List Value} (h : ex_sr b ad (.inl n :: vs) xs) : ∃ r : List Value, xs = .int n :: r ∧ ex_sr b ad vs r := by
  obtain ⟨x, r, h1, h2, h3⟩ := ex_sr_c h
  have h2 : x = .int n := h2
  subst h2
  exact ⟨r, h1, h3⟩
theorem ex_sr_r {b : Nat} {ad : List Nat} {k : Nat} {vs : List ex_V} {xs : List Value} (h : ex_sr b ad (.inr (k + 2) :: vs) xs) : ∃ (a : Nat) (r : List Value), ad[k]? = some a ∧ xs = .ref a :: r ∧ ex_sr b ad vs r := by
  obtain ⟨x, r, h1, ⟨a, h2, h3⟩, h4⟩ := ex_sr_c h
  subst h3
  exact ⟨a, r, h2, h1, h4⟩
theorem ex_sr_b {b : Nat} {ad : List Nat} {vs : List ex_V} {xs : List Value} (h : ex_sr b ad (.inr 1 :: vs) xs) : ∃ r : List Value, xs = .ref b :: r ∧ ex_sr b ad vs r := by
  obtain ⟨x, r, h1, h2, h3⟩ := ex_sr_c h
  have h2 : x = .ref b := h2
  subst h2
  exact ⟨r, h1, h3⟩
theorem ex_sr_nil {b : Nat} {ad : List Nat} {xs : List Value} (h : ex_sr b ad [] xs) : xs = [] := by
  cases xs with
  | nil => rfl
  | cons x r => exact h.elim
theorem ex_sr_get {b : Nat} {ad : List Nat} : ∀ {vs : List ex_V} {xs : List Value} {k : Nat} {v : ex_V}, ex_sr b ad vs xs → vs[k]? = some v → ∃ x, xs[k]? = some x ∧ ex_cv b ad v x
  | [], [], k, v, _, h => by simp at h
  | u :: vs, x :: xs, 0, v, h, hk => by
    have : u = v := by simpa using hk
    subst this
    exact ⟨x, rfl, h.1⟩
  | u :: vs, x :: xs, k + 1, v, h, hk => by
    have hk : vs[k]? = some v := by simpa using hk
    obtain ⟨z, h1, h2⟩ := ex_sr_get h.2 hk
    exact ⟨z, by simpa using h1, h2⟩
theorem ex_sr_set {b : Nat} {ad : List Nat} {v : ex_V} {x : Value} (hv : ex_cv b ad v x) : ∀ {vs : List ex_V} {xs : List Value} {k : Nat}, ex_sr b ad vs xs → ex_sr b ad (vs.set k v) (xs.set k x)
  | [], [], _, _ => trivial
  | _ :: _, _ :: _, 0, h => ⟨hv, h.2⟩
  | _ :: _, _ :: _, _ + 1, h => ⟨h.1, ex_sr_set hv h.2⟩
theorem ex_sr_app {b : Nat} {ad : List Nat} : ∀ {vs vs2 : List ex_V} {xs xs2 : List Value}, ex_sr b ad vs xs → ex_sr b ad vs2 xs2 → ex_sr b ad (vs ++ vs2) (xs ++ xs2)
  | [], _, [], _, _, h2 => h2
  | _ :: _, _, _ :: _, _, h, h2 => ⟨h.1, ex_sr_app h.2 h2⟩
theorem ex_sr_take {b : Nat} {ad : List Nat} : ∀ (n : Nat) {vs : List ex_V} {xs : List Value}, ex_sr b ad vs xs → ex_sr b ad (vs.take n) (xs.take n)
  | 0, _, _, _ => by simp only [List.take_zero]; exact trivial
  | _ + 1, [], [], _ => trivial
  | n + 1, _ :: _, _ :: _, h => ⟨h.1, ex_sr_take n h.2⟩
theorem ex_sr_drop {b : Nat} {ad : List Nat} : ∀ (n : Nat) {vs : List ex_V} {xs : List Value}, ex_sr b ad vs xs → ex_sr b ad (vs.drop n) (xs.drop n)
  | 0, _, _, h => h
  | _ + 1, [], [], _ => trivial
  | n + 1, _ :: _, _ :: _, h => ex_sr_drop n h.2
theorem ex_sr_rev {b : Nat} {ad : List Nat} : ∀ {vs : List ex_V} {xs : List Value}, ex_sr b ad vs xs → ex_sr b ad vs.reverse xs.reverse
  | [], [], _ => trivial
  | v :: vs, x :: xs, h => by
    rw [List.reverse_cons, List.reverse_cons]
    exact ex_sr_app (ex_sr_rev h.2) ⟨h.1, trivial⟩
theorem ex_sr_cat {b : Nat} {ad : List Nat} : ∀ {vs : List ex_V} {xs : List Value}, ex_sr b ad vs xs → (xs.map fun v => v.category).sum = vs.length
  | [], [], _ => rfl
  | _ :: _, _ :: _, h => by
    rw [List.map_cons, List.sum_cons, ex_cv_cat h.1, ex_sr_cat h.2, List.length_cons]; omega
theorem ex_lr_set {b : Nat} {ad : List Nat} {ls : List ex_V} {lv : List (Nat × Value)} {i : Nat} {v : ex_V} {x : Value} (h : ex_lr b ad ls lv) (hv : ex_cv b ad v x) : ex_lr b ad (ls.set i v) ((i, x) :: lv.filter (fun q => !(q.1 == i) && !(q.1 + 1 == i && q.2.category == 2))) := by
  intro j u hj hu
  by_cases hij : j = i
  · subst hij
    have hlt : j < ls.length := by
      have := (List.getElem?_eq_some_iff.mp hj).1
      simpa using this
    rw [List.getElem?_set_self hlt] at hj
    cases hj
    exact ⟨x, hv, List.mem_cons_self⟩
  · rw [List.getElem?_set_ne (fun q => hij q.symm)] at hj
    obtain ⟨z, h1, h2⟩ := h j u hj hu
    refine ⟨z, h1, List.mem_cons_of_mem _ (List.mem_filter.mpr ⟨h2, ?_⟩)⟩
    have hc := ex_cv_cat h1
    simp [hij, hc]
theorem ex_wr_set {b : Nat} {ad : List Nat} {kc : Nat → ClassId} {w : ex_W} {ws : va_W} {k a : Nat} {c : ex_C} {e : va_E} (h : ex_wr b ad kc w ws) (ha : ad[k]? = some a) (he : ex_ce b ad kc c e) : ex_wr b ad kc (w.set k c) (ws.set k (a, e)) := by
  obtain ⟨h1, h2, h3⟩ := h
  refine ⟨by rw [List.length_set]; exact h1, by rw [List.length_set, List.length_set]; exact h2, fun j u hj => ?_⟩
  by_cases hjk : j = k
  · subst hjk
    have hlt : j < w.length := by
      have := (List.getElem?_eq_some_iff.mp hj).1
      simpa using this
    rw [List.getElem?_set_self hlt] at hj
    cases hj
    exact ⟨a, e, ha, List.getElem?_set_self (by omega), he⟩
  · rw [List.getElem?_set_ne (fun q => hjk q.symm)] at hj
    obtain ⟨a', e', g1, g2, g3⟩ := h3 j u hj
    exact ⟨a', e', g1, by rw [List.getElem?_set_ne (fun q => hjk q.symm)]; exact g2, g3⟩
theorem ex_wr_push {b : Nat} {ad : List Nat} {kc : Nat → ClassId} {w : ex_W} {ws : va_W} {a : Nat} {c : ex_C} {e : va_E} (h : ex_wr b ad kc w ws) (he : ex_ce b (ad ++ [a]) kc c e) : ex_wr b (ad ++ [a]) kc (w ++ [c]) (ws ++ [(a, e)]) := by
  obtain ⟨h1, h2, h3⟩ := h
  refine ⟨by simp [h1], by simp [h2], fun j u hj => ?_⟩
  by_cases hjk : j < w.length
  · rw [List.getElem?_append_left hjk] at hj
    obtain ⟨a', e', g1, g2, g3⟩ := h3 j u hj
    exact ⟨a', e', ex_le_push ad a j a' g1, by rw [List.getElem?_append_left (by omega)]; exact g2, ex_ce_mono (ex_le_push ad a) g3⟩
  · have hlt : j < w.length + 1 := by
      have := (List.getElem?_eq_some_iff.mp hj).1
      simpa using this
    have hj2 : j = w.length := by omega
    subst hj2
    have : c = u := by simpa using hj
    subst this
    exact ⟨a, e, by rw [← h1]; simp, by rw [← h2]; simp, he⟩
theorem ex_wr_new {b : Nat} {ad : List Nat} {kc : Nat → ClassId} {w : ex_W} {ws : va_W} (h : ex_wr b ad kc w ws) (a : Nat) : (ad ++ [a])[w.length]? = some a := by
  rw [← h.1]; simp
/-! the small machine's reads and writes, inverted -/
theorem ex_gf_some {w : ex_W} {q ci k : Nat} {v : ex_V} (h : ex_gf w q ci k = some v) : ∃ (p0 : Nat) (fs : List ex_V), q = p0 + 2 ∧ w[p0]? = some (.inr (.inr (ci, fs))) ∧ fs[k]? = some v := by
  rcases q with _ | _ | p0
  · simp [ex_gf] at h
  · simp [ex_gf] at h
  · simp only [ex_gf] at h
    split at h
    · rename_i o ho
      split at h
      · rename_i hc
        exact ⟨p0, o.2, rfl, by rw [ho, ← hc], h⟩
      · cases h
    · cases h
theorem ex_pf_some {w w2 : ex_W} {q ci k : Nat} {v : ex_V} (h : ex_pf w q ci k v = some w2) : ∃ (p0 : Nat) (fs : List ex_V), q = p0 + 2 ∧ w[p0]? = some (.inr (.inr (ci, fs))) ∧ k < fs.length ∧ w2 = w.set p0 (.inr (.inr (ci, fs.set k v))) := by
  rcases q with _ | _ | p0
  · simp [ex_pf] at h
  · simp [ex_pf] at h
  · simp only [ex_pf] at h
    split at h
    · rename_i o ho
      split at h
      · rename_i hc
        exact ⟨p0, o.2, rfl, by rw [ho, ← hc.1], hc.2, (Option.some.inj h).symm⟩
      · cases h
    · cases h
theorem ex_rd_some {S : ex_S} {w : ex_W} {z : Bool} {q : Nat} {i x : Int32} (h : ex_rd S w z q i = some x) : (q = 1 ∧ z = false ∧ vp_in i S.1 ∧ x = S.2 i.toNatClampNeg) ∨ ∃ (p0 n : Nat) (f : Nat → Int32), q = p0 + 2 ∧ w[p0]? = some (.inl (z, n, f)) ∧ vp_in i n ∧ x = f i.toNatClampNeg := by
  rcases q with _ | _ | p0
  · simp [ex_rd] at h
  · simp only [ex_rd] at h
    split at h
    · rename_i hc
      exact Or.inl ⟨rfl, hc.1, hc.2, (Option.some.inj h).symm⟩
    · cases h
  · simp only [ex_rd] at h
    split at h
    · rename_i a ha
      split at h
      · rename_i hc
        exact Or.inr ⟨p0, a.2.1, a.2.2, rfl, by rw [ha, ← hc.1], hc.2, (Option.some.inj h).symm⟩
      · cases h
    · cases h
theorem ex_wt_some {w w2 : ex_W} {z : Bool} {q : Nat} {i x : Int32} (h : ex_wt w z q i x = some w2) : ∃ (p0 n : Nat) (f : Nat → Int32), q = p0 + 2 ∧ w[p0]? = some (.inl (z, n, f)) ∧ vp_in i n ∧ w2 = w.set p0 (.inl (z, n, upd f i.toNatClampNeg x)) := by
  rcases q with _ | _ | p0
  · simp [ex_wt] at h
  · simp [ex_wt] at h
  · simp only [ex_wt] at h
    split at h
    · rename_i a ha
      split at h
      · rename_i hc
        exact ⟨p0, a.2.1, a.2.2, rfl, by rw [ha, ← hc.1], hc.2, (Option.some.inj h).symm⟩
      · cases h
    · cases h
theorem ex_rq_some {w : ex_W} {q x : Nat} {i : Int32} (h : ex_rq w q i = some x) : ∃ (p0 n : Nat) (f : Nat → Nat), q = p0 + 2 ∧ w[p0]? = some (.inr (.inl (n, f))) ∧ vp_in i n ∧ x = f i.toNatClampNeg := by
  rcases q with _ | _ | p0
  · simp [ex_rq] at h
  · simp [ex_rq] at h
  · simp only [ex_rq] at h
    split at h
    · rename_i a ha
      split at h
      · rename_i hc
        exact ⟨p0, a.1, a.2, rfl, ha, hc, (Option.some.inj h).symm⟩
      · cases h
    · cases h
theorem ex_wq_some {w w2 : ex_W} {q x : Nat} {i : Int32} (h : ex_wq w q i x = some w2) : ∃ (p0 r0 n : Nat) (f : Nat → Nat) (fs : List ex_V), q = p0 + 2 ∧ x = r0 + 2 ∧ w[p0]? = some (.inr (.inl (n, f))) ∧ w[r0]? = some (.inr (.inr (ex_bl, fs))) ∧ vp_in i n ∧ w2 = w.set p0 (.inr (.inl (n, ex_upq f i.toNatClampNeg (r0 + 2)))) := by
  unfold ex_wq at h
  split at h
  · rename_i p0 r0
    split at h
    · rename_i a o ha ho
      split at h
      · rename_i hc
        exact ⟨p0, r0, a.1, a.2, o.2, rfl, rfl, ha, by rw [ho, ← hc.1], hc.2, (Option.some.inj h).symm⟩
      · cases h
    · cases h
  · cases h
theorem ex_ldI_some {ls : List ex_V} {i : Nat} {x : Int32} (h : ex_ldI ls i = some x) : ls[i]? = some (.inl x) := by
  unfold ex_ldI at h
  split at h
  · rename_i z hz
    rw [hz, Option.some.inj h]
  · cases h
theorem ex_ldA_some {ls : List ex_V} {i q : Nat} (h : ex_ldA ls i = some q) : ∃ r, q = r + 1 ∧ ls[i]? = some (.inr (r + 1)) := by
  unfold ex_ldA at h
  split at h
  · rename_i z hz
    exact ⟨z, (Option.some.inj h).symm, hz⟩
  · cases h
theorem ex_cv_ref {b : Nat} {ad : List Nat} {r : Nat} {x : Value} (h : ex_cv b ad (.inr (r + 1)) x) : ∃ a, x = .ref a := by
  rcases r with _ | k
  · exact ⟨b, h⟩
  · obtain ⟨a, -, h⟩ := h
    exact ⟨a, h⟩
theorem ex_obj_some {w : ex_W} {q ci : Nat} (h : ex_obj w q ci = true) : ∃ (p0 : Nat) (fs : List ex_V), q = p0 + 2 ∧ w[p0]? = some (.inr (.inr (ci, fs))) := by
  rcases q with _ | _ | p0
  · simp [ex_obj] at h
  · simp [ex_obj] at h
  · simp only [ex_obj] at h
    split at h
    · rename_i o ho
      have hc : o.1 = ci := by simpa using h
      exact ⟨p0, o.2, rfl, by rw [ho, ← hc]⟩
    · cases h
def ex_tys (kc : Nat → ClassId) : List (ClassId × FieldType) := [(kc 0, .int), (kc 1, .boolean), (kc 2, .object ex_BL)]
/-- what stands fast while method y runs -/
def ex_Cx (S : ex_S) (b : Nat) (p : Program) (R : Room) (s : State) (m : MethodId) (args : Array Value) (meth : Method) (c : Code) (A : Nat → Prop) (H0 : Heap) (D : va_G) (kc : Nat → ClassId) (y : Nat) : Prop :=
  p.tables.exec = Jvm.exec ∧ c.code = ex_cod y ∧ c.maxLocals = ex_mxl y ∧ s.vm.findClass (ex_own y) = some m.cls ∧ (∀ w ∈ ex_ws, w.before args s = true) ∧ meth.name = (ex_nam y).name ∧ va_K D ex_cl (ex_tys kc) s ∧ (∀ q, H0.size ≤ q → A q) ∧ (va_X b S.1 S.2 s H0 ∧ b < H0.size ∧ ¬ A b) ∧ (ex_lev y ≤ R.frames ∧ ex_lev y * 40 ≤ R.locals ∧ ex_mc y ≤ R.cells ∧ ex_ms y ≤ R.slots ∧ va_AO ex_BL s)
/-- from every real state that this state of the small machine stands for, Q is reached -/
def ex_Ok (S : ex_S) (b : Nat) (p : Program) (l : Launch) (e : Env) (R : Room) (s : State) (m : MethodId) (args : Array Value) (below : List Frame) (meth : Method) (c : Code) (Q : State → Prop) (A : Nat → Prop) (H0 : Heap) (D : va_G) (kc : Nat → ClassId) (y : Nat) (ad0 : List Nat) (pc : Nat) (ls st : List ex_V) (w : ex_W) (cN sN : Nat) : Prop :=
  ∀ (ad : List Nat) (ls' : Array Slot) (lv : List (Nat × Value)) (st' : List Value) (ws : va_W) (H : Heap) (locs : List Loc), ex_le ad0 ad → lv_has ls' (ex_mxl y) lv → ex_lr b ad ls lv → ex_sr b ad st st' → ex_wr b ad kc w ws → va_P D ex_cl ws H → va_D A ws → va_S A H0 H locs → W p l e R s m args below meth c H locs cN sN Q (F0 m pc ls' st')
section EXK
variable {S : ex_S} {b : Nat} {p : Program} {l : Launch} {e : Env} {R : Room} {s : State} {m : MethodId} {args : Array Value} {below : List Frame} {meth : Method} {c : Code} {Q : State → Prop} {A : Nat → Prop} {H0 : Heap} {D : va_G} {kc : Nat → ClassId} {y : Nat} {ad0 : List Nat} {pc : Nat} {ls st : List ex_V} {w : ex_W} {cN sN : Nat}
theorem ex_k_iconst (C : ex_Cx S b p R s m args meth c A H0 D kc y) {n : Int} (hd : decode (ex_cod y) pc = .ok (.iconst n, 1)) (k : ex_Ok S b p l e R s m args below meth c Q A H0 D kc y ad0 (pc + 1) ls (.inl (Int32.ofInt n) :: st) w cN sN) : ex_Ok S b p l e R s m args below meth c Q A H0 D kc y ad0 pc ls st w cN sN :=
  fun ad ls' lv st' ws H locs h1 h2 h3 h4 h5 h6 h7 h8 => lv_iconst C.1 C.2.1 hd rfl (k ad ls' lv (.int (Int32.ofInt n) :: st') ws H locs h1 h2 h3 ⟨rfl, h4⟩ h5 h6 h7 h8)
theorem ex_k_bipush (C : ex_Cx S b p R s m args meth c A H0 D kc y) {n : Int} (hd : decode (ex_cod y) pc = .ok (.bipush n, 2)) (k : ex_Ok S b p l e R s m args below meth c Q A H0 D kc y ad0 (pc + 2) ls (.inl (Int8.ofInt n).toInt32 :: st) w cN sN) : ex_Ok S b p l e R s m args below meth c Q A H0 D kc y ad0 pc ls st w cN sN :=
  fun ad ls' lv st' ws H locs h1 h2 h3 h4 h5 h6 h7 h8 => lv_bipush C.1 C.2.1 hd rfl (k ad ls' lv (.int (Int8.ofInt n).toInt32 :: st') ws H locs h1 h2 h3 ⟨rfl, h4⟩ h5 h6 h7 h8)
theorem ex_k_sipush (C : ex_Cx S b p R s m args meth c A H0 D kc y) {n : Int} (hd : decode (ex_cod y) pc = .ok (.sipush n, 3)) (k : ex_Ok S b p l e R s m args below meth c Q A H0 D kc y ad0 (pc + 3) ls (.inl (Int16.ofInt n).toInt32 :: st) w cN sN) : ex_Ok S b p l e R s m args below meth c Q A H0 D kc y ad0 pc ls st w cN sN :=
  fun ad ls' lv st' ws H locs h1 h2 h3 h4 h5 h6 h7 h8 => lv_sipush C.1 C.2.1 hd rfl (k ad ls' lv (.int (Int16.ofInt n).toInt32 :: st') ws H locs h1 h2 h3 ⟨rfl, h4⟩ h5 h6 h7 h8)
theorem ex_k_ldc (C : ex_Cx S b p R s m args meth c A H0 D kc y) {i : Nat} {v : Int32} (hd : decode (ex_cod y) pc = .ok (.ldc i, 2)) (hk : ex_kn y i = some v) (k : ex_Ok S b p l e R s m args below meth c Q A H0 D kc y ad0 (pc + 2) ls (.inl v :: st) w cN sN) : ex_Ok S b p l e R s m args below meth c Q A H0 D kc y ad0 pc ls st w cN sN :=
  fun ad ls' lv st' ws H locs h1 h2 h3 h4 h5 h6 h7 h8 => lv_ldc C.1 C.2.1 C.2.2.2.1 (C.2.2.2.2.1 _ (ex_kn_ok hk)) hd (k ad ls' lv (.int v :: st') ws H locs h1 h2 h3 ⟨rfl, h4⟩ h5 h6 h7 h8)
theorem ex_k_iload_n (C : ex_Cx S b p R s m args meth c A H0 D kc y) {i : Fin 4} {x : Int32} (hd : decode (ex_cod y) pc = .ok (.iload_n i, 1)) (hx : ex_ldI ls i = some x) (k : ex_Ok S b p l e R s m args below meth c Q A H0 D kc y ad0 (pc + 1) ls (.inl x :: st) w cN sN) : ex_Ok S b p l e R s m args below meth c Q A H0 D kc y ad0 pc ls st w cN sN := by
  intro ad ls' lv st' ws H locs h1 h2 h3 h4 h5 h6 h7 h8
  obtain ⟨z, hz, hm⟩ := h3 _ _ (ex_ldI_some hx) (by simp)
  have hz : z = .int x := hz
  subst hz
  exact lv_iload_n C.1 C.2.1 hd rfl (h2.2.2 _ hm) (k ad ls' lv (.int x :: st') ws H locs h1 h2 h3 ⟨rfl, h4⟩ h5 h6 h7 h8)
theorem ex_k_iload (C : ex_Cx S b p R s m args meth c A H0 D kc y) {i : Nat} {x : Int32} (hd : decode (ex_cod y) pc = .ok (.iload i, 2)) (hx : ex_ldI ls i = some x) (k : ex_Ok S b p l e R s m args below meth c Q A H0 D kc y ad0 (pc + 2) ls (.inl x :: st) w cN sN) : ex_Ok S b p l e R s m args below meth c Q A H0 D kc y ad0 pc ls st w cN sN := by
  intro ad ls' lv st' ws H locs h1 h2 h3 h4 h5 h6 h7 h8
  obtain ⟨z, hz, hm⟩ := h3 _ _ (ex_ldI_some hx) (by simp)
  have hz : z = .int x := hz
  subst hz
  exact lv_iload C.1 C.2.1 hd (h2.2.2 _ hm) (k ad ls' lv (.int x :: st') ws H locs h1 h2 h3 ⟨rfl, h4⟩ h5 h6 h7 h8)
theorem ex_k_aload_n (C : ex_Cx S b p R s m args meth c A H0 D kc y) {i : Fin 4} {q : Nat} (hd : decode (ex_cod y) pc = .ok (.aload_n i, 1)) (hx : ex_ldA ls i = some q) (k : ex_Ok S b p l e R s m args below meth c Q A H0 D kc y ad0 (pc + 1) ls (.inr q :: st) w cN sN) : ex_Ok S b p l e R s m args below meth c Q A H0 D kc y ad0 pc ls st w cN sN := by
  intro ad ls' lv st' ws H locs h1 h2 h3 h4 h5 h6 h7 h8
  obtain ⟨r, rfl, hr⟩ := ex_ldA_some hx
  obtain ⟨z, hz, hm⟩ := h3 _ _ hr (by simp)
  obtain ⟨a, rfl⟩ := ex_cv_ref hz
  exact lv_aload_n C.1 C.2.1 hd rfl (h2.2.2 _ hm) (k ad ls' lv (.ref a :: st') ws H locs h1 h2 h3 ⟨hz, h4⟩ h5 h6 h7 h8)
theorem ex_k_aload (C : ex_Cx S b p R s m args meth c A H0 D kc y) {i : Nat} {q : Nat} (hd : decode (ex_cod y) pc = .ok (.aload i, 2)) (hx : ex_ldA ls i = some q) (k : ex_Ok S b p l e R s m args below meth c Q A H0 D kc y ad0 (pc + 2) ls (.inr q :: st) w cN sN) : ex_Ok S b p l e R s m args below meth c Q A H0 D kc y ad0 pc ls st w cN sN := by
  intro ad ls' lv st' ws H locs h1 h2 h3 h4 h5 h6 h7 h8
  obtain ⟨r, rfl, hr⟩ := ex_ldA_some hx
  obtain ⟨z, hz, hm⟩ := h3 _ _ hr (by simp)
  obtain ⟨a, rfl⟩ := ex_cv_ref hz
  exact lv_aload C.1 C.2.1 hd (h2.2.2 _ hm) (k ad ls' lv (.ref a :: st') ws H locs h1 h2 h3 ⟨hz, h4⟩ h5 h6 h7 h8)
theorem ex_k_istore_n (C : ex_Cx S b p R s m args meth c A H0 D kc y) {i : Fin 4} {x : Int32} (hd : decode (ex_cod y) pc = .ok (.istore_n i, 1)) (hi : (i : Nat) < ex_mxl y) (k : ex_Ok S b p l e R s m args below meth c Q A H0 D kc y ad0 (pc + 1) (ls.set i (.inl x)) st w cN sN) : ex_Ok S b p l e R s m args below meth c Q A H0 D kc y ad0 pc ls (.inl x :: st) w cN sN := by
  intro ad ls' lv st' ws H locs h1 h2 h3 h4 h5 h6 h7 h8
  obtain ⟨r, rfl, h4a⟩ := ex_sr_i h4
  exact lv_istore_n C.1 C.2.1 hd rfl h2 hi rfl (fun ls2 g => k ad ls2 _ r ws H locs h1 g (ex_lr_set h3 rfl) h4a h5 h6 h7 h8)
theorem ex_k_istore (C : ex_Cx S b p R s m args meth c A H0 D kc y) {i : Nat} {x : Int32} (hd : decode (ex_cod y) pc = .ok (.istore i, 2)) (hi : i < ex_mxl y) (k : ex_Ok S b p l e R s m args below meth c Q A H0 D kc y ad0 (pc + 2) (ls.set i (.inl x)) st w cN sN) : ex_Ok S b p l e R s m args below meth c Q A H0 D kc y ad0 pc ls (.inl x :: st) w cN sN := by
  intro ad ls' lv st' ws H locs h1 h2 h3 h4 h5 h6 h7 h8
  obtain ⟨r, rfl, h4a⟩ := ex_sr_i h4
  exact lv_istore C.1 C.2.1 hd h2 hi rfl (fun ls2 g => k ad ls2 _ r ws H locs h1 g (ex_lr_set h3 rfl) h4a h5 h6 h7 h8)
theorem ex_k_astore_n (C : ex_Cx S b p R s m args meth c A H0 D kc y) {i : Fin 4} {q : Nat} (hd : decode (ex_cod y) pc = .ok (.astore_n i, 1)) (hi : (i : Nat) < ex_mxl y) (k : ex_Ok S b p l e R s m args below meth c Q A H0 D kc y ad0 (pc + 1) (ls.set i (.inr (q + 1))) st w cN sN) : ex_Ok S b p l e R s m args below meth c Q A H0 D kc y ad0 pc ls (.inr (q + 1) :: st) w cN sN := by
  intro ad ls' lv st' ws H locs h1 h2 h3 h4 h5 h6 h7 h8
  obtain ⟨x, r, rfl, hx, h4a⟩ := ex_sr_c h4
  obtain ⟨a, rfl⟩ := ex_cv_ref hx
  exact lv_astore_n C.1 C.2.1 hd rfl h2 hi rfl (fun ls2 g => k ad ls2 _ r ws H locs h1 g (ex_lr_set h3 hx) h4a h5 h6 h7 h8)
theorem ex_k_astore (C : ex_Cx S b p R s m args meth c A H0 D kc y) {i : Nat} {q : Nat} (hd : decode (ex_cod y) pc = .ok (.astore i, 2)) (hi : i < ex_mxl y) (k : ex_Ok S b p l e R s m args below meth c Q A H0 D kc y ad0 (pc + 2) (ls.set i (.inr (q + 1))) st w cN sN) : ex_Ok S b p l e R s m args below meth c Q A H0 D kc y ad0 pc ls (.inr (q + 1) :: st) w cN sN := by
  intro ad ls' lv st' ws H locs h1 h2 h3 h4 h5 h6 h7 h8
  obtain ⟨x, r, rfl, hx, h4a⟩ := ex_sr_c h4
  obtain ⟨a, rfl⟩ := ex_cv_ref hx
  exact lv_astore C.1 C.2.1 hd h2 hi rfl (fun ls2 g => k ad ls2 _ r ws H locs h1 g (ex_lr_set h3 hx) h4a h5 h6 h7 h8)
theorem ex_k_iinc (C : ex_Cx S b p R s m args meth c A H0 D kc y) {i : Nat} {n : Int} {x : Int32} (hd : decode (ex_cod y) pc = .ok (.iinc i n, 3)) (hx : ex_ldI ls i = some x) (hi : i < ex_mxl y) (k : ex_Ok S b p l e R s m args below meth c Q A H0 D kc y ad0 (pc + 3) (ls.set i (.inl (x + Int32.ofInt n))) st w cN sN) : ex_Ok S b p l e R s m args below meth c Q A H0 D kc y ad0 pc ls st w cN sN := by
  intro ad ls' lv st' ws H locs h1 h2 h3 h4 h5 h6 h7 h8
  obtain ⟨z, hz, hm⟩ := h3 _ _ (ex_ldI_some hx) (by simp)
  have hz : z = .int x := hz
  subst hz
  obtain ⟨j, hj⟩ := List.getElem?_of_mem hm
  exact lv_iinc C.1 C.2.1 hd h2 hj rfl hi rfl (fun ls2 g => k ad ls2 _ st' ws H locs h1 g (ex_lr_set h3 rfl) h4 h5 h6 h7 h8)
theorem ex_k_iadd (C : ex_Cx S b p R s m args meth c A H0 D kc y) {x z : Int32} (hd : decode (ex_cod y) pc = .ok (.iadd, 1)) (k : ex_Ok S b p l e R s m args below meth c Q A H0 D kc y ad0 (pc + 1) ls (.inl (x + z) :: st) w cN sN) : ex_Ok S b p l e R s m args below meth c Q A H0 D kc y ad0 pc ls (.inl z :: .inl x :: st) w cN sN := by
  intro ad ls' lv st' ws H locs h1 h2 h3 h4 h5 h6 h7 h8
  obtain ⟨r, rfl, h4a⟩ := ex_sr_i h4
  obtain ⟨r, rfl, h4b⟩ := ex_sr_i h4a
  exact lv_iadd C.1 C.2.1 hd (k ad ls' lv (.int (x + z) :: r) ws H locs h1 h2 h3 ⟨rfl, h4b⟩ h5 h6 h7 h8)
theorem ex_k_isub (C : ex_Cx S b p R s m args meth c A H0 D kc y) {x z : Int32} (hd : decode (ex_cod y) pc = .ok (.isub, 1)) (k : ex_Ok S b p l e R s m args below meth c Q A H0 D kc y ad0 (pc + 1) ls (.inl (x - z) :: st) w cN sN) : ex_Ok S b p l e R s m args below meth c Q A H0 D kc y ad0 pc ls (.inl z :: .inl x :: st) w cN sN := by
  intro ad ls' lv st' ws H locs h1 h2 h3 h4 h5 h6 h7 h8
  obtain ⟨r, rfl, h4a⟩ := ex_sr_i h4
  obtain ⟨r, rfl, h4b⟩ := ex_sr_i h4a
  exact lv_isub C.1 C.2.1 hd (k ad ls' lv (.int (x - z) :: r) ws H locs h1 h2 h3 ⟨rfl, h4b⟩ h5 h6 h7 h8)
theorem ex_k_imul (C : ex_Cx S b p R s m args meth c A H0 D kc y) {x z : Int32} (hd : decode (ex_cod y) pc = .ok (.imul, 1)) (k : ex_Ok S b p l e R s m args below meth c Q A H0 D kc y ad0 (pc + 1) ls (.inl (x * z) :: st) w cN sN) : ex_Ok S b p l e R s m args below meth c Q A H0 D kc y ad0 pc ls (.inl z :: .inl x :: st) w cN sN := by
  intro ad ls' lv st' ws H locs h1 h2 h3 h4 h5 h6 h7 h8
  obtain ⟨r, rfl, h4a⟩ := ex_sr_i h4
  obtain ⟨r, rfl, h4b⟩ := ex_sr_i h4a
  exact lv_imul C.1 C.2.1 hd (k ad ls' lv (.int (x * z) :: r) ws H locs h1 h2 h3 ⟨rfl, h4b⟩ h5 h6 h7 h8)
theorem ex_k_iand (C : ex_Cx S b p R s m args meth c A H0 D kc y) {x z : Int32} (hd : decode (ex_cod y) pc = .ok (.iand, 1)) (k : ex_Ok S b p l e R s m args below meth c Q A H0 D kc y ad0 (pc + 1) ls (.inl (x &&& z) :: st) w cN sN) : ex_Ok S b p l e R s m args below meth c Q A H0 D kc y ad0 pc ls (.inl z :: .inl x :: st) w cN sN := by
  intro ad ls' lv st' ws H locs h1 h2 h3 h4 h5 h6 h7 h8
  obtain ⟨r, rfl, h4a⟩ := ex_sr_i h4
  obtain ⟨r, rfl, h4b⟩ := ex_sr_i h4a
  exact lv_iand C.1 C.2.1 hd (k ad ls' lv (.int (x &&& z) :: r) ws H locs h1 h2 h3 ⟨rfl, h4b⟩ h5 h6 h7 h8)
theorem ex_k_idiv (C : ex_Cx S b p R s m args meth c A H0 D kc y) {x z : Int32} (hd : decode (ex_cod y) pc = .ok (.idiv, 1)) (hz : ¬ z = 0) (k : ex_Ok S b p l e R s m args below meth c Q A H0 D kc y ad0 (pc + 1) ls (.inl (x / z) :: st) w cN sN) : ex_Ok S b p l e R s m args below meth c Q A H0 D kc y ad0 pc ls (.inl z :: .inl x :: st) w cN sN := by
  intro ad ls' lv st' ws H locs h1 h2 h3 h4 h5 h6 h7 h8
  obtain ⟨r, rfl, h4a⟩ := ex_sr_i h4
  obtain ⟨r, rfl, h4b⟩ := ex_sr_i h4a
  exact lv_idiv C.1 C.2.1 hd hz (k ad ls' lv (.int (x / z) :: r) ws H locs h1 h2 h3 ⟨rfl, h4b⟩ h5 h6 h7 h8)
theorem ex_k_dup (C : ex_Cx S b p R s m args meth c A H0 D kc y) {v : ex_V} (hd : decode (ex_cod y) pc = .ok (.dup, 1)) (k : ex_Ok S b p l e R s m args below meth c Q A H0 D kc y ad0 (pc + 1) ls (v :: v :: st) w cN sN) : ex_Ok S b p l e R s m args below meth c Q A H0 D kc y ad0 pc ls (v :: st) w cN sN := by
  intro ad ls' lv st' ws H locs h1 h2 h3 h4 h5 h6 h7 h8
  obtain ⟨x, r, rfl, hx, h4a⟩ := ex_sr_c h4
  exact lv_dup C.1 C.2.1 hd (ex_cv_cat hx) (k ad ls' lv (x :: x :: r) ws H locs h1 h2 h3 ⟨hx, hx, h4a⟩ h5 h6 h7 h8)
theorem ex_k_pop (C : ex_Cx S b p R s m args meth c A H0 D kc y) {v : ex_V} (hd : decode (ex_cod y) pc = .ok (.pop, 1)) (k : ex_Ok S b p l e R s m args below meth c Q A H0 D kc y ad0 (pc + 1) ls st w cN sN) : ex_Ok S b p l e R s m args below meth c Q A H0 D kc y ad0 pc ls (v :: st) w cN sN := by
  intro ad ls' lv st' ws H locs h1 h2 h3 h4 h5 h6 h7 h8
  obtain ⟨x, r, rfl, hx, h4a⟩ := ex_sr_c h4
  exact lv_pop C.1 C.2.1 hd (ex_cv_cat hx) (k ad ls' lv r ws H locs h1 h2 h3 h4a h5 h6 h7 h8)
theorem ex_k_goto (C : ex_Cx S b p R s m args meth c A H0 D kc y) {off : Int} {t : Nat} (hd : decode (ex_cod y) pc = .ok (.goto off, 3)) (ht : (pc : Int) + off = (t : Int)) (k : ex_Ok S b p l e R s m args below meth c Q A H0 D kc y ad0 t ls st w cN sN) : ex_Ok S b p l e R s m args below meth c Q A H0 D kc y ad0 pc ls st w cN sN :=
  fun ad ls' lv st' ws H locs h1 h2 h3 h4 h5 h6 h7 h8 => lv_goto C.1 C.2.1 hd ht (k ad ls' lv st' ws H locs h1 h2 h3 h4 h5 h6 h7 h8)
theorem ex_ite_t {c1 : Bool} {x z : Nat} (h : c1 = true) : (if c1 = true then x else z) = x := if_pos h
theorem ex_ite_f {c1 : Bool} {x z : Nat} (h : c1 = false) : (if c1 = true then x else z) = z := if_neg (by rw [h]; decide)
theorem ex_k_if (C : ex_Cx S b p R s m args meth c A H0 D kc y) {k0 : ClassFile.Cond} {off : Int} {x : Int32} {t : Nat} (hd : decode (ex_cod y) pc = .ok (.ifCond k0 off, 3)) (ht : (pc : Int) + off = (t : Int)) (k : ex_Ok S b p l e R s m args below meth c Q A H0 D kc y ad0 (if ex_cnd k0 x 0 = true then t else pc + 3) ls st w cN sN) : ex_Ok S b p l e R s m args below meth c Q A H0 D kc y ad0 pc ls (.inl x :: st) w cN sN := by
  intro ad ls' lv st' ws H locs h1 h2 h3 h4 h5 h6 h7 h8
  obtain ⟨r, rfl, h4a⟩ := ex_sr_i h4
  have kk := k ad ls' lv r ws H locs h1 h2 h3 h4a h5 h6 h7 h8
  cases k0 with
  | eq => exact lv_if_eq C.1 C.2.1 hd ht (fun q => by rw [ex_ite_t (show ex_cnd .eq x 0 = true from decide_eq_true q)] at kk; exact kk) (fun q => by rw [ex_ite_f (show ex_cnd .eq x 0 = false from decide_eq_false q)] at kk; exact kk)
  | ne => exact lv_if_ne C.1 C.2.1 hd ht (fun q => by rw [ex_ite_t (show ex_cnd .ne x 0 = true from by show (!decide (x = 0)) = true; rw [decide_eq_false q]; rfl)] at kk; exact kk) (fun q => by rw [ex_ite_f (show ex_cnd .ne x 0 = false from by show (!decide (x = 0)) = false; rw [decide_eq_true q]; rfl)] at kk; exact kk)
  | lt => exact lv_if_lt C.1 C.2.1 hd ht (fun q => by rw [ex_ite_t (show ex_cnd .lt x 0 = true from decide_eq_true q)] at kk; exact kk) (fun q => by rw [ex_ite_f (show ex_cnd .lt x 0 = false from decide_eq_false q)] at kk; exact kk)
  | ge => exact lv_if_ge C.1 C.2.1 hd ht (fun q => by rw [ex_ite_t (show ex_cnd .ge x 0 = true from decide_eq_true q)] at kk; exact kk) (fun q => by rw [ex_ite_f (show ex_cnd .ge x 0 = false from decide_eq_false q)] at kk; exact kk)
  | gt => exact lv_if_gt C.1 C.2.1 hd ht (fun q => by rw [ex_ite_t (show ex_cnd .gt x 0 = true from decide_eq_true q)] at kk; exact kk) (fun q => by rw [ex_ite_f (show ex_cnd .gt x 0 = false from decide_eq_false q)] at kk; exact kk)
  | le => exact lv_if_le C.1 C.2.1 hd ht (fun q => by rw [ex_ite_t (show ex_cnd .le x 0 = true from decide_eq_true q)] at kk; exact kk) (fun q => by rw [ex_ite_f (show ex_cnd .le x 0 = false from decide_eq_false q)] at kk; exact kk)
theorem ex_k_icmp (C : ex_Cx S b p R s m args meth c A H0 D kc y) {k0 : ClassFile.Cond} {off : Int} {x z : Int32} {t : Nat} (hd : decode (ex_cod y) pc = .ok (.if_icmp k0 off, 3)) (ht : (pc : Int) + off = (t : Int)) (k : ex_Ok S b p l e R s m args below meth c Q A H0 D kc y ad0 (if ex_cnd k0 x z = true then t else pc + 3) ls st w cN sN) : ex_Ok S b p l e R s m args below meth c Q A H0 D kc y ad0 pc ls (.inl z :: .inl x :: st) w cN sN := by
  intro ad ls' lv st' ws H locs h1 h2 h3 h4 h5 h6 h7 h8
  obtain ⟨r, rfl, h4a⟩ := ex_sr_i h4
  obtain ⟨r, rfl, h4b⟩ := ex_sr_i h4a
  have kk := k ad ls' lv r ws H locs h1 h2 h3 h4b h5 h6 h7 h8
  cases k0 with
  | eq => exact lv_icmp_eq C.1 C.2.1 hd ht (fun q => by rw [ex_ite_t (show ex_cnd .eq x z = true from decide_eq_true q)] at kk; exact kk) (fun q => by rw [ex_ite_f (show ex_cnd .eq x z = false from decide_eq_false q)] at kk; exact kk)
  | ne => exact lv_icmp_ne C.1 C.2.1 hd ht (fun q => by rw [ex_ite_t (show ex_cnd .ne x z = true from by show (!decide (x = z)) = true; rw [decide_eq_false q]; rfl)] at kk; exact kk) (fun q => by rw [ex_ite_f (show ex_cnd .ne x z = false from by show (!decide (x = z)) = false; rw [decide_eq_true q]; rfl)] at kk; exact kk)
  | lt => exact lv_icmp_lt C.1 C.2.1 hd ht (fun q => by rw [ex_ite_t (show ex_cnd .lt x z = true from decide_eq_true q)] at kk; exact kk) (fun q => by rw [ex_ite_f (show ex_cnd .lt x z = false from decide_eq_false q)] at kk; exact kk)
  | ge => exact lv_icmp_ge C.1 C.2.1 hd ht (fun q => by rw [ex_ite_t (show ex_cnd .ge x z = true from decide_eq_true q)] at kk; exact kk) (fun q => by rw [ex_ite_f (show ex_cnd .ge x z = false from decide_eq_false q)] at kk; exact kk)
  | gt => exact lv_icmp_gt C.1 C.2.1 hd ht (fun q => by rw [ex_ite_t (show ex_cnd .gt x z = true from decide_eq_true q)] at kk; exact kk) (fun q => by rw [ex_ite_f (show ex_cnd .gt x z = false from decide_eq_false q)] at kk; exact kk)
  | le => exact lv_icmp_le C.1 C.2.1 hd ht (fun q => by rw [ex_ite_t (show ex_cnd .le x z = true from decide_eq_true q)] at kk; exact kk) (fun q => by rw [ex_ite_f (show ex_cnd .le x z = false from decide_eq_false q)] at kk; exact kk)
theorem ex_k_switch (C : ex_Cx S b p R s m args meth c A H0 D kc y) {dflt lo hi off : Int} {offs : Array Int} {len : Nat} {x : Int32} {t : Nat} (hd : decode (ex_cod y) pc = .ok (.tableswitch dflt lo hi offs, len)) (hs : ex_sw lo hi dflt offs x = some off) (ht : (pc : Int) + off = (t : Int)) (k : ex_Ok S b p l e R s m args below meth c Q A H0 D kc y ad0 t ls st w cN sN) : ex_Ok S b p l e R s m args below meth c Q A H0 D kc y ad0 pc ls (.inl x :: st) w cN sN := by
  intro ad ls' lv st' ws H locs h1 h2 h3 h4 h5 h6 h7 h8
  obtain ⟨r, rfl, h4a⟩ := ex_sr_i h4
  have kk := k ad ls' lv r ws H locs h1 h2 h3 h4a h5 h6 h7 h8
  unfold ex_sw at hs
  split at hs
  · rename_i hc
    cases hs
    exact lv_tableOut C.1 C.2.1 hd hc ht kk
  · rename_i hc
    exact lv_tableIn C.1 C.2.1 hd (fun q => hc (Or.inl q)) (fun q => hc (Or.inr q)) hs ht kk
theorem ex_k_getfield (C : ex_Cx S b p R s m args meth c A H0 D kc y) {i q ci k0 fk : Nat} {fin : Bool} {v : ex_V} (hd : decode (ex_cod y) pc = .ok (.getfield i, 3)) (hf : ex_fr y i = some (ci, k0, fk, fin)) (hv : ex_gf w q ci k0 = some v) (k : ex_Ok S b p l e R s m args below meth c Q A H0 D kc y ad0 (pc + 3) ls (v :: st) w cN sN) : ex_Ok S b p l e R s m args below meth c Q A H0 D kc y ad0 pc ls (.inr q :: st) w cN sN := by
  intro ad ls' lv st' ws H locs h1 h2 h3 h4 h5 h6 h7 h8
  obtain ⟨p0, fs, rfl, hw0, hfs⟩ := ex_gf_some hv
  obtain ⟨a, r, ha, rfl, h4a⟩ := ex_sr_r h4
  obtain ⟨a', e', g1, g2, vs, rfl, g4⟩ := h5.2.2 p0 _ hw0
  obtain rfl : a = a' := Option.some.inj (ha.symm.trans g1)
  obtain ⟨x, hx1, hx2⟩ := ex_sr_get g4 hfs
  obtain ⟨Cn, T, N, f1, f2, f3, -⟩ := ex_fr_ok hf
  exact va_get C.1 C.2.1 C.2.2.2.2.1 (ex_cl_ok f1).1 C.2.2.2.1 C.2.2.2.2.2.2.1 h6 p0 g2 f1 k0 f2 (C.2.2.2.2.1 _ f3) (fun _ z => z) hx1 hd (k ad ls' lv (x :: r) ws H locs h1 h2 h3 ⟨hx2, h4a⟩ h5 h6 h7 h8)
theorem ex_fits_ok {fk : Nat} {v : ex_V} {b : Nat} {ad : List Nat} {x : Value} {ty : FieldType} (h : ex_fits fk v = true) (hv : ex_cv b ad v x) (ht : ex_fkt fk ty) : narrow ty x = x ∧ fits ty x = true := by
  rcases v with n | (_ | _ | k)
  · have hv : x = .int n := hv
    subst hv
    rcases fk with _ | _ | fk
    · have ht : ty = .int := ht
      subst ht
      exact ⟨rfl, rfl⟩
    · have ht : ty = .boolean := ht
      subst ht
      have hn : n = 0 ∨ n = 1 := by simpa [ex_fits] using h
      rcases hn with rfl | rfl <;> exact ⟨by decide, by decide⟩
    · simp [ex_fits] at h
  · simp [ex_fits] at h
  · simp [ex_fits] at h
  · obtain ⟨a, -, rfl⟩ := hv
    have hk : fk = 2 := by simpa [ex_fits] using h
    subst hk
    rcases ht with ⟨n, rfl⟩ | ⟨t, rfl⟩
    · exact ⟨rfl, rfl⟩
    · exact ⟨rfl, rfl⟩
theorem ex_k_putfield (C : ex_Cx S b p R s m args meth c A H0 D kc y) {i q ci k0 fk : Nat} {fin : Bool} {v : ex_V} {w2 : ex_W} (hd : decode (ex_cod y) pc = .ok (.putfield i, 3)) (hf : ex_fr y i = some (ci, k0, fk, fin)) (hfit : ex_fits fk v = true) (hfin : fin = false ∨ (ex_ini y = true ∧ ex_cix y = ci)) (hv : ex_pf w q ci k0 v = some w2) (k : ex_Ok S b p l e R s m args below meth c Q A H0 D kc y ad0 (pc + 3) ls st w2 cN sN) : ex_Ok S b p l e R s m args below meth c Q A H0 D kc y ad0 pc ls (v :: .inr q :: st) w cN sN := by
  intro ad ls' lv st' ws H locs h1 h2 h3 h4 h5 h6 h7 h8
  obtain ⟨p0, fs, rfl, hw0, hk0, rfl⟩ := ex_pf_some hv
  obtain ⟨x, r, rfl, hx, h4a⟩ := ex_sr_c h4
  obtain ⟨a, r, ha, rfl, h4b⟩ := ex_sr_r h4a
  obtain ⟨a', e', g1, g2, vs, rfl, g4⟩ := h5.2.2 p0 _ hw0
  obtain rfl : a = a' := Option.some.inj (ha.symm.trans g1)
  obtain ⟨Cn, T, N, f1, f2, f3, f4, ⟨ty, f5, f6⟩, f7⟩ := ex_fr_ok hf
  obtain ⟨u1, ⟨ty0, u2, -⟩, u3⟩ := ex_cl_ok f1
  obtain ⟨v1, v2⟩ := ex_fits_ok hfit hx f6
  have hl : k0 < vs.length := by rw [← ex_sr_len g4]; exact hk0
  have hset : ex_wr b ad kc (w.set p0 (.inr (.inr (ci, fs.set k0 v)))) (ws.set p0 (a, .inr (ci, vs.set k0 x))) := ex_wr_set h5 g1 ⟨_, rfl, ex_sr_set hx g4⟩
  cases fin with
  | false => exact va_put C.1 C.2.1 C.2.2.2.2.1 u1 ty0 u2 u3 C.2.2.2.1 C.2.2.2.2.2.2.1 h6 h7 h8 p0 g2 f1 k0 f2 (C.2.2.2.2.1 _ f3) (fun _ z => z) f4 f5 v1 v2 hl hd (fun H1 locs1 i1 i2 i3 => k ad ls' lv r _ H1 locs1 h1 h2 h3 h4b hset i1 i2 i3)
  | true =>
    obtain ⟨q1, q2⟩ : ex_ini y = true ∧ ex_cix y = ci := by
      rcases hfin with h | h
      · cases h
      · exact h
    exact va_putF C.1 C.2.1 C.2.2.2.2.1 u1 ty0 u2 u3 C.2.2.2.1 C.2.2.2.2.2.2.1 h6 h7 h8 p0 g2 f1 k0 f2 (C.2.2.2.2.1 _ f3) (fun _ z => z) f4 (by rw [C.2.2.2.2.2.1]; exact ex_ini_ok q1) (f7 rfl q2) f5 v1 v2 hl hd (fun H1 locs1 i1 i2 i3 => k ad ls' lv r _ H1 locs1 h1 h2 h3 h4b hset i1 i2 i3)
theorem ex_k_iaload (C : ex_Cx S b p R s m args meth c A H0 D kc y) {q : Nat} {i x : Int32} (hd : decode (ex_cod y) pc = .ok (.iaload, 1)) (hx : ex_rd S w false q i = some x) (k : ex_Ok S b p l e R s m args below meth c Q A H0 D kc y ad0 (pc + 1) ls (.inl x :: st) w cN sN) : ex_Ok S b p l e R s m args below meth c Q A H0 D kc y ad0 pc ls (.inl i :: .inr q :: st) w cN sN := by
  intro ad ls' lv st' ws H locs h1 h2 h3 h4 h5 h6 h7 h8
  obtain ⟨r, rfl, h4a⟩ := ex_sr_i h4
  rcases ex_rd_some hx with ⟨rfl, -, hin, rfl⟩ | ⟨p0, n, f, rfl, hw0, hin, rfl⟩
  · obtain ⟨r, rfl, h4b⟩ := ex_sr_b h4a
    obtain ⟨x1, x2, x3⟩ := C.2.2.2.2.2.2.2.2.1
    exact va_sld C.1 C.2.1 x1 x2 x3 h8 hin hd (k ad ls' lv (.int _ :: r) ws H locs h1 h2 h3 ⟨rfl, h4b⟩ h5 h6 h7 h8)
  · obtain ⟨a, r, ha, rfl, h4c⟩ := ex_sr_r h4a
    obtain ⟨a', e', g1, g2, g3⟩ := h5.2.2 p0 _ hw0
    obtain rfl : a = a' := Option.some.inj (ha.symm.trans g1)
    have g3 : e' = .inl (kc 0, n, .inl f) := g3
    subst g3
    exact va_iald C.1 C.2.1 C.2.2.2.2.2.2.1 h6 p0 0 g2 rfl hin hd (k ad ls' lv (.int _ :: r) ws H locs h1 h2 h3 ⟨rfl, h4c⟩ h5 h6 h7 h8)
theorem ex_k_baload (C : ex_Cx S b p R s m args meth c A H0 D kc y) {q : Nat} {i x : Int32} (hd : decode (ex_cod y) pc = .ok (.baload, 1)) (hx : ex_rd S w true q i = some x) (k : ex_Ok S b p l e R s m args below meth c Q A H0 D kc y ad0 (pc + 1) ls (.inl x :: st) w cN sN) : ex_Ok S b p l e R s m args below meth c Q A H0 D kc y ad0 pc ls (.inl i :: .inr q :: st) w cN sN := by
  intro ad ls' lv st' ws H locs h1 h2 h3 h4 h5 h6 h7 h8
  obtain ⟨r, rfl, h4a⟩ := ex_sr_i h4
  rcases ex_rd_some hx with ⟨-, hz, -, -⟩ | ⟨p0, n, f, rfl, hw0, hin, rfl⟩
  · cases hz
  · obtain ⟨a, r, ha, rfl, h4b⟩ := ex_sr_r h4a
    obtain ⟨a', e', g1, g2, g3⟩ := h5.2.2 p0 _ hw0
    obtain rfl : a = a' := Option.some.inj (ha.symm.trans g1)
    have g3 : e' = .inl (kc 1, n, .inl f) := g3
    subst g3
    exact va_zald C.1 C.2.1 C.2.2.2.2.2.2.1 h6 p0 1 g2 rfl hin hd (k ad ls' lv (.int _ :: r) ws H locs h1 h2 h3 ⟨rfl, h4b⟩ h5 h6 h7 h8)
theorem ex_k_iastore (C : ex_Cx S b p R s m args meth c A H0 D kc y) {q : Nat} {i x : Int32} {w2 : ex_W} (hd : decode (ex_cod y) pc = .ok (.iastore, 1)) (hx : ex_wt w false q i x = some w2) (k : ex_Ok S b p l e R s m args below meth c Q A H0 D kc y ad0 (pc + 1) ls st w2 cN sN) : ex_Ok S b p l e R s m args below meth c Q A H0 D kc y ad0 pc ls (.inl x :: .inl i :: .inr q :: st) w cN sN := by
  intro ad ls' lv st' ws H locs h1 h2 h3 h4 h5 h6 h7 h8
  obtain ⟨r, rfl, h4a⟩ := ex_sr_i h4
  obtain ⟨r, rfl, h4b⟩ := ex_sr_i h4a
  obtain ⟨p0, n, f, rfl, hw0, hin, rfl⟩ := ex_wt_some hx
  obtain ⟨a, r, ha, rfl, h4c⟩ := ex_sr_r h4b
  obtain ⟨a', e', g1, g2, g3⟩ := h5.2.2 p0 _ hw0
  obtain rfl : a = a' := Option.some.inj (ha.symm.trans g1)
  have g3 : e' = .inl (kc 0, n, .inl f) := g3
  subst g3
  exact va_iast C.1 C.2.1 C.2.2.2.2.2.2.1 h6 h7 h8 p0 0 g2 rfl hin hd (fun H1 locs1 i1 i2 i3 => k ad ls' lv r _ H1 locs1 h1 h2 h3 h4c (ex_wr_set h5 g1 rfl) i1 i2 i3)
theorem ex_k_bastore (C : ex_Cx S b p R s m args meth c A H0 D kc y) {q : Nat} {i x : Int32} {w2 : ex_W} (hd : decode (ex_cod y) pc = .ok (.bastore, 1)) (hx : ex_wt w true q i (vp_nar .boolean x) = some w2) (k : ex_Ok S b p l e R s m args below meth c Q A H0 D kc y ad0 (pc + 1) ls st w2 cN sN) : ex_Ok S b p l e R s m args below meth c Q A H0 D kc y ad0 pc ls (.inl x :: .inl i :: .inr q :: st) w cN sN := by
  intro ad ls' lv st' ws H locs h1 h2 h3 h4 h5 h6 h7 h8
  obtain ⟨r, rfl, h4a⟩ := ex_sr_i h4
  obtain ⟨r, rfl, h4b⟩ := ex_sr_i h4a
  obtain ⟨p0, n, f, rfl, hw0, hin, rfl⟩ := ex_wt_some hx
  obtain ⟨a, r, ha, rfl, h4c⟩ := ex_sr_r h4b
  obtain ⟨a', e', g1, g2, g3⟩ := h5.2.2 p0 _ hw0
  obtain rfl : a = a' := Option.some.inj (ha.symm.trans g1)
  have g3 : e' = .inl (kc 1, n, .inl f) := g3
  subst g3
  exact va_zast C.1 C.2.1 C.2.2.2.2.2.2.1 h6 h7 h8 p0 1 g2 rfl hin hd (fun H1 locs1 i1 i2 i3 => k ad ls' lv r _ H1 locs1 h1 h2 h3 h4c (ex_wr_set h5 g1 rfl) i1 i2 i3)
theorem ex_qv_cv {b : Nat} {ad : List Nat} {q : Nat} {o : Option Nat} (h : ex_qv ad q o) : ex_cv b ad (.inr q) (va_rf o) := by
  rcases q with _ | _ | k
  · have h : o = none := h
    subst h; rfl
  · exact h.elim
  · obtain ⟨a, h1, rfl⟩ := h
    exact ⟨a, h1, rfl⟩
theorem ex_k_aaload (C : ex_Cx S b p R s m args meth c A H0 D kc y) {q x : Nat} {i : Int32} (hd : decode (ex_cod y) pc = .ok (.aaload, 1)) (hx : ex_rq w q i = some x) (k : ex_Ok S b p l e R s m args below meth c Q A H0 D kc y ad0 (pc + 1) ls (.inr x :: st) w cN sN) : ex_Ok S b p l e R s m args below meth c Q A H0 D kc y ad0 pc ls (.inl i :: .inr q :: st) w cN sN := by
  intro ad ls' lv st' ws H locs h1 h2 h3 h4 h5 h6 h7 h8
  obtain ⟨r, rfl, h4a⟩ := ex_sr_i h4
  obtain ⟨p0, n, f, rfl, hw0, hin, rfl⟩ := ex_rq_some hx
  obtain ⟨a, r, ha, rfl, h4b⟩ := ex_sr_r h4a
  obtain ⟨a', e', g1, g2, g, rfl, g4⟩ := h5.2.2 p0 _ hw0
  obtain rfl : a = a' := Option.some.inj (ha.symm.trans g1)
  exact va_aldq C.1 C.2.1 C.2.2.2.2.2.2.1 h6 p0 2 g2 rfl hin hd (k ad ls' lv (va_rf _ :: r) ws H locs h1 h2 h3 ⟨ex_qv_cv (g4 _), h4b⟩ h5 h6 h7 h8)
theorem ex_k_aastore (C : ex_Cx S b p R s m args meth c A H0 D kc y) {q x : Nat} {i : Int32} {w2 : ex_W} (hd : decode (ex_cod y) pc = .ok (.aastore, 1)) (hx : ex_wq w q i x = some w2) (k : ex_Ok S b p l e R s m args below meth c Q A H0 D kc y ad0 (pc + 1) ls st w2 cN sN) : ex_Ok S b p l e R s m args below meth c Q A H0 D kc y ad0 pc ls (.inr x :: .inl i :: .inr q :: st) w cN sN := by
  intro ad ls' lv st' ws H locs h1 h2 h3 h4 h5 h6 h7 h8
  obtain ⟨p0, r0, n, f, fs, rfl, rfl, hw0, hw1, hin, rfl⟩ := ex_wq_some hx
  obtain ⟨v, r, hv, rfl, h4a⟩ := ex_sr_r h4
  obtain ⟨r, rfl, h4b⟩ := ex_sr_i h4a
  obtain ⟨a, r, ha, rfl, h4c⟩ := ex_sr_r h4b
  obtain ⟨a', e', g1, g2, g, rfl, g4⟩ := h5.2.2 p0 _ hw0
  obtain rfl : a = a' := Option.some.inj (ha.symm.trans g1)
  obtain ⟨v', e'', i1, i2, vs, rfl, i4⟩ := h5.2.2 r0 _ hw1
  obtain rfl : v = v' := Option.some.inj (hv.symm.trans i1)
  obtain ⟨T, N, hc⟩ := ex_bl_ok
  have hset : ex_wr b ad kc (w.set p0 (.inr (.inl (n, ex_upq f i.toNatClampNeg (r0 + 2))))) (ws.set p0 (a, .inl (kc 2, n, .inr (.inr (.inr (.inr (va_up g i.toNatClampNeg (some v)))))))) := ex_wr_set h5 g1 ⟨_, rfl, fun j => by
    by_cases hj : j = i.toNatClampNeg
    · subst hj
      simp only [ex_upq, va_up, if_true]
      exact ⟨v, hv, rfl⟩
    · simp only [ex_upq, va_up, if_neg hj]
      exact g4 j⟩
  exact va_astq (r := (ex_BL, T, N)) C.1 C.2.1 C.2.2.2.2.2.2.1 h6 h7 h8 p0 2 r0 ex_bl g2 rfl i2 hc hin hd (fun H1 locs1 j1 j2 j3 => k ad ls' lv r _ H1 locs1 h1 h2 h3 h4c hset j1 j2 j3)
theorem ex_k_len (C : ex_Cx S b p R s m args meth c A H0 D kc y) {q : Nat} {x : Int32} (hd : decode (ex_cod y) pc = .ok (.arraylength, 1)) (hx : ex_len S w q = some x) (k : ex_Ok S b p l e R s m args below meth c Q A H0 D kc y ad0 (pc + 1) ls (.inl x :: st) w cN sN) : ex_Ok S b p l e R s m args below meth c Q A H0 D kc y ad0 pc ls (.inr q :: st) w cN sN := by
  intro ad ls' lv st' ws H locs h1 h2 h3 h4 h5 h6 h7 h8
  rcases q with _ | _ | p0
  · simp [ex_len] at hx
  · obtain ⟨r, rfl, h4a⟩ := ex_sr_b h4
    obtain ⟨x1, x2, x3⟩ := C.2.2.2.2.2.2.2.2.1
    have hx : Int32.ofNat S.1 = x := Option.some.inj hx
    subst hx
    exact va_slen C.1 C.2.1 x1 x2 x3 h8 hd (k ad ls' lv (.int _ :: r) ws H locs h1 h2 h3 ⟨rfl, h4a⟩ h5 h6 h7 h8)
  · obtain ⟨a, r, ha, rfl, h4b⟩ := ex_sr_r h4
    simp only [ex_len] at hx
    split at hx
    · rename_i z hw0
      obtain ⟨a', e', g1, g2, g3⟩ := h5.2.2 p0 _ hw0
      obtain rfl : a = a' := Option.some.inj (ha.symm.trans g1)
      have g3 : e' = .inl (kc (if z.1 then 1 else 0), z.2.1, .inl z.2.2) := g3
      subst g3
      have hx : Int32.ofNat z.2.1 = x := Option.some.inj hx
      subst hx
      obtain ⟨zb, zn, zf⟩ := z
      cases zb
      · exact va_alen C.1 C.2.1 C.2.2.2.2.2.2.1 h6 p0 0 g2 (ty := .int) rfl rfl hd (k ad ls' lv (.int _ :: r) ws H locs h1 h2 h3 ⟨rfl, h4b⟩ h5 h6 h7 h8)
      · exact va_alen C.1 C.2.1 C.2.2.2.2.2.2.1 h6 p0 1 g2 (ty := .boolean) rfl rfl hd (k ad ls' lv (.int _ :: r) ws H locs h1 h2 h3 ⟨rfl, h4b⟩ h5 h6 h7 h8)
    · rename_i z hw0
      obtain ⟨a', e', g1, g2, g, rfl, g4⟩ := h5.2.2 p0 _ hw0
      obtain rfl : a = a' := Option.some.inj (ha.symm.trans g1)
      have hx : Int32.ofNat z.1 = x := Option.some.inj hx
      subst hx
      exact va_alen C.1 C.2.1 C.2.2.2.2.2.2.1 h6 p0 2 g2 (ty := .object ex_BL) rfl rfl hd (k ad ls' lv (.int _ :: r) ws H locs h1 h2 h3 ⟨rfl, h4b⟩ h5 h6 h7 h8)
    · cases hx
theorem ex_kc_p {U : State} {t : FieldType} {c1 c2 : ClassId} (h1 : va_RA U c1 t) (h2 : va_RA U c2 t) : c1 = c2 := by
  cases t with
  | object C =>
    obtain ⟨_, _, -, -, -, h1⟩ := h1
    obtain ⟨_, _, -, -, -, h2⟩ := h2
    exact Option.some.inj (h1.symm.trans h2)
  | _ => exact Option.some.inj (Eq.trans (Eq.symm h1) h2)
theorem ex_k_newI (C : ex_Cx S b p R s m args meth c A H0 D kc y) {n : Int32} (hd : decode (ex_cod y) pc = .ok (.newarray .int, 2)) (hn : ¬ n < 0) (hm : n.toNatClampNeg ≤ 1000) (hc : cN + 1 ≤ ex_mc y) (hs : sN + n.toNatClampNeg ≤ ex_ms y) (k : ex_Ok S b p l e R s m args below meth c Q A H0 D kc y ad0 (pc + 2) ls (.inr (w.length + 2) :: st) (w ++ [.inl (false, n.toNatClampNeg, fun _ => 0)]) (cN + 1) (sN + n.toNatClampNeg)) : ex_Ok S b p l e R s m args below meth c Q A H0 D kc y ad0 pc ls (.inl n :: st) w cN sN := by
  intro ad ls' lv st' ws H locs h1 h2 h3 h4 h5 h6 h7 h8
  obtain ⟨r, rfl, h4a⟩ := ex_sr_i h4
  obtain ⟨r1, r2, r3, r4, r5⟩ := C.2.2.2.2.2.2.2.2.2
  refine va_newa C.1 C.2.1 (C.2.2.2.2.1 _ ex_aI_ok) rfl C.2.2.2.2.2.2.1 h6 h7 h8 C.2.2.2.2.2.2.2.1 (N' := n.toNatClampNeg) (a0 := (n.toNatClampNeg, .inl (fun _ => 0))) (fun cA => rfl) hn rfl (by show n.toNatClampNeg * 4 ≤ _; omega) (by omega) (by omega) hd (fun q cA H1 i1 i2 i3 i4 => ?_)
  have hk : cA = kc 0 := ex_kc_p (i1.2 3 (cA, .int) rfl).2 (i1.2 0 (kc 0, .int) rfl).2
  subst hk
  exact k (ad ++ [q]) ls' lv (.ref q :: r) _ H1 locs (ex_le_tr h1 (ex_le_push ad q)) h2 (ex_lr_mono (ex_le_push ad q) h3) ⟨⟨q, ex_wr_new h5 q, rfl⟩, ex_sr_mono (ex_le_push ad q) h4a⟩ (ex_wr_push h5 rfl) i2 i3 i4
theorem ex_k_newZ (C : ex_Cx S b p R s m args meth c A H0 D kc y) {n : Int32} (hd : decode (ex_cod y) pc = .ok (.newarray .boolean, 2)) (hn : ¬ n < 0) (hm : n.toNatClampNeg ≤ 1000) (hc : cN + 1 ≤ ex_mc y) (hs : sN + n.toNatClampNeg ≤ ex_ms y) (k : ex_Ok S b p l e R s m args below meth c Q A H0 D kc y ad0 (pc + 2) ls (.inr (w.length + 2) :: st) (w ++ [.inl (true, n.toNatClampNeg, fun _ => 0)]) (cN + 1) (sN + n.toNatClampNeg)) : ex_Ok S b p l e R s m args below meth c Q A H0 D kc y ad0 pc ls (.inl n :: st) w cN sN := by
  intro ad ls' lv st' ws H locs h1 h2 h3 h4 h5 h6 h7 h8
  obtain ⟨r, rfl, h4a⟩ := ex_sr_i h4
  obtain ⟨r1, r2, r3, r4, r5⟩ := C.2.2.2.2.2.2.2.2.2
  refine va_newa C.1 C.2.1 (C.2.2.2.2.1 _ ex_aZ_ok) rfl C.2.2.2.2.2.2.1 h6 h7 h8 C.2.2.2.2.2.2.2.1 (N' := n.toNatClampNeg) (a0 := (n.toNatClampNeg, .inl (fun _ => 0))) (fun cA => rfl) hn rfl (by show n.toNatClampNeg * 1 ≤ _; omega) (by omega) (by omega) hd (fun q cA H1 i1 i2 i3 i4 => ?_)
  have hk : cA = kc 1 := ex_kc_p (i1.2 3 (cA, .boolean) rfl).2 (i1.2 1 (kc 1, .boolean) rfl).2
  subst hk
  exact k (ad ++ [q]) ls' lv (.ref q :: r) _ H1 locs (ex_le_tr h1 (ex_le_push ad q)) h2 (ex_lr_mono (ex_le_push ad q) h3) ⟨⟨q, ex_wr_new h5 q, rfl⟩, ex_sr_mono (ex_le_push ad q) h4a⟩ (ex_wr_push h5 rfl) i2 i3 i4
theorem ex_k_newQ (C : ex_Cx S b p R s m args meth c A H0 D kc y) {i : Nat} {n : Int32} (hd : decode (ex_cod y) pc = .ok (.anewarray i, 3)) (ha : ex_ar y i = true) (hn : ¬ n < 0) (hm : n.toNatClampNeg ≤ 1000) (hc : cN + 1 ≤ ex_mc y) (hs : sN + n.toNatClampNeg ≤ ex_ms y) (k : ex_Ok S b p l e R s m args below meth c Q A H0 D kc y ad0 (pc + 3) ls (.inr (w.length + 2) :: st) (w ++ [.inr (.inl (n.toNatClampNeg, fun _ => 0))]) (cN + 1) (sN + n.toNatClampNeg)) : ex_Ok S b p l e R s m args below meth c Q A H0 D kc y ad0 pc ls (.inl n :: st) w cN sN := by
  intro ad ls' lv st' ws H locs h1 h2 h3 h4 h5 h6 h7 h8
  obtain ⟨r, rfl, h4a⟩ := ex_sr_i h4
  obtain ⟨r1, r2, r3, r4, r5⟩ := C.2.2.2.2.2.2.2.2.2
  have q1 := ex_ar_ok ha
  refine va_newq C.1 C.2.1 C.2.2.2.1 (C.2.2.2.2.1 _ q1) r5 C.2.2.2.2.2.2.1 h6 h7 h8 C.2.2.2.2.2.2.2.1 (N' := n.toNatClampNeg) hn rfl (by omega) (by omega) (by omega) hd (fun q cA H1 i1 i2 i3 i4 => ?_)
  have hk : cA = kc 2 := ex_kc_p (i1.2 3 (cA, .object ex_BL) rfl).2 (i1.2 2 (kc 2, .object ex_BL) rfl).2
  subst hk
  exact k (ad ++ [q]) ls' lv (.ref q :: r) _ H1 locs (ex_le_tr h1 (ex_le_push ad q)) h2 (ex_lr_mono (ex_le_push ad q) h3) ⟨⟨q, ex_wr_new h5 q, rfl⟩, ex_sr_mono (ex_le_push ad q) h4a⟩ (ex_wr_push h5 ⟨_, rfl, fun _ => rfl⟩) i2 i3 i4
theorem ex_da_ok (ci : Nat) {b : Nat} {ad : List Nat} : ex_sr b ad (ex_da ci) (ex_dv ci) := by
  rcases ci with _ | _ | _ | ci <;> simp [ex_da, ex_dv, ex_sr, ex_cv]
theorem ex_k_new (C : ex_Cx S b p R s m args meth c A H0 D kc y) {i ci : Nat} (hd : decode (ex_cod y) pc = .ok (.new i, 3)) (ha : ex_nr y i = some ci) (hc : cN + 1 ≤ ex_mc y) (hs : sN + (ex_da ci).length ≤ ex_ms y) (k : ex_Ok S b p l e R s m args below meth c Q A H0 D kc y ad0 (pc + 3) ls (.inr (w.length + 2) :: st) (w ++ [.inr (.inr (ci, ex_da ci))]) (cN + 1) (sN + (ex_da ci).length)) : ex_Ok S b p l e R s m args below meth c Q A H0 D kc y ad0 pc ls st w cN sN := by
  intro ad ls' lv st' ws H locs h1 h2 h3 h4 h5 h6 h7 h8
  obtain ⟨r1, r2, r3, r4, r5⟩ := C.2.2.2.2.2.2.2.2.2
  obtain ⟨Cn, T, N, f1, f2, f3, f4, f5⟩ := ex_nr_ok ha
  obtain ⟨u1, ⟨ty0, u2, u4⟩, u3⟩ := ex_cl_ok f1
  refine va_new C.1 C.2.1 C.2.2.2.2.1 u1 ty0 u2 C.2.2.2.1 (C.2.2.2.2.1 _ f2) (C.2.2.2.2.1 _ f3) (C.2.2.2.2.1 _ f4) C.2.2.2.2.2.2.1 h6 h7 h8 C.2.2.2.2.2.2.2.1 f1 (fs := ex_dv ci) u4 (by omega) (by omega) hd (fun q H1 i2 i3 i4 => ?_)
  rw [← f5]
  exact k (ad ++ [q]) ls' lv (.ref q :: st') _ H1 locs (ex_le_tr h1 (ex_le_push ad q)) h2 (ex_lr_mono (ex_le_push ad q) h3) ⟨⟨q, ex_wr_new h5 q, rfl⟩, ex_sr_mono (ex_le_push ad q) h4⟩ (ex_wr_push h5 ⟨_, rfl, ex_da_ok ci⟩) i2 i3 i4
theorem ex_k_max (C : ex_Cx S b p R s m args meth c A H0 D kc y) {i y2 : Nat} {x z : Int32} (hd : decode (ex_cod y) pc = .ok (.invokestatic i, 3)) (hm : ex_mr y i = some (y2, 3)) (hl : 1 ≤ ex_lev y) (hn : st.length ≤ 8) (hr : ex_rok y cN sN = true) (k : ex_Ok S b p l e R s m args below meth c Q A H0 D kc y ad0 (pc + 3) ls (.inl (if x < z then z else x) :: st) w cN sN) : ex_Ok S b p l e R s m args below meth c Q A H0 D kc y ad0 pc ls (.inl z :: .inl x :: st) w cN sN := by
  intro ad ls' lv st' ws H locs h1 h2 h3 h4 h5 h6 h7 h8
  obtain ⟨r, rfl, h4a⟩ := ex_sr_i h4
  obtain ⟨r, rfl, h4b⟩ := ex_sr_i h4a
  obtain ⟨r1, r2, r3, r4, r5⟩ := C.2.2.2.2.2.2.2.2.2
  obtain ⟨q1, q2, q3, q4⟩ := ex_mr_max hm
  simp only [ex_rok, Bool.and_eq_true, decide_eq_true_eq] at hr
  have hcat := ex_sr_cat h4b
  exact va_mmax C.1 C.2.1 (by rw [C.2.2.1, h2.1]) C.2.2.2.1 (C.2.2.2.2.1 _ q1) (C.2.2.2.2.1 _ q2) (C.2.2.2.2.1 _ q3) (C.2.2.2.2.1 _ q4) (by omega) (by omega) (by omega) (by omega) hd (k ad ls' lv (.int _ :: r) ws H locs h1 h2 h3 ⟨rfl, h4b⟩ h5 h6 h7 h8)
theorem ex_k_min (C : ex_Cx S b p R s m args meth c A H0 D kc y) {i y2 : Nat} {x z : Int32} (hd : decode (ex_cod y) pc = .ok (.invokestatic i, 3)) (hm : ex_mr y i = some (y2, 4)) (hl : 1 ≤ ex_lev y) (hn : st.length ≤ 8) (hr : ex_rok y cN sN = true) (k : ex_Ok S b p l e R s m args below meth c Q A H0 D kc y ad0 (pc + 3) ls (.inl (if z < x then z else x) :: st) w cN sN) : ex_Ok S b p l e R s m args below meth c Q A H0 D kc y ad0 pc ls (.inl z :: .inl x :: st) w cN sN := by
  intro ad ls' lv st' ws H locs h1 h2 h3 h4 h5 h6 h7 h8
  obtain ⟨r, rfl, h4a⟩ := ex_sr_i h4
  obtain ⟨r, rfl, h4b⟩ := ex_sr_i h4a
  obtain ⟨r1, r2, r3, r4, r5⟩ := C.2.2.2.2.2.2.2.2.2
  obtain ⟨q1, q2, q3, q4⟩ := ex_mr_min hm
  simp only [ex_rok, Bool.and_eq_true, decide_eq_true_eq] at hr
  have hcat := ex_sr_cat h4b
  exact va_mmin C.1 C.2.1 (by rw [C.2.2.1, h2.1]) C.2.2.2.1 (C.2.2.2.2.1 _ q1) (C.2.2.2.2.1 _ q2) (C.2.2.2.2.1 _ q3) (C.2.2.2.2.1 _ q4) (by omega) (by omega) (by omega) (by omega) hd (k ad ls' lv (.int _ :: r) ws H locs h1 h2 h3 ⟨rfl, h4b⟩ h5 h6 h7 h8)
theorem ex_k_obj (C : ex_Cx S b p R s m args meth c A H0 D kc y) {i y2 q : Nat} (hd : decode (ex_cod y) pc = .ok (.invokespecial i, 3)) (hm : ex_mr y i = some (y2, 5)) (hl : 1 ≤ ex_lev y) (hn : st.length ≤ 8) (k : ex_Ok S b p l e R s m args below meth c Q A H0 D kc y ad0 (pc + 3) ls st w cN sN) : ex_Ok S b p l e R s m args below meth c Q A H0 D kc y ad0 pc ls (.inr (q + 2) :: st) w cN sN := by
  intro ad ls' lv st' ws H locs h1 h2 h3 h4 h5 h6 h7 h8
  obtain ⟨a, r, ha, rfl, h4a⟩ := ex_sr_r h4
  obtain ⟨r1, r2, r3, r4, r5⟩ := C.2.2.2.2.2.2.2.2.2
  obtain ⟨q1, q2, q3⟩ := ex_mr_obj hm
  have hcat := ex_sr_cat h4a
  exact W.objInit C.1 C.2.1 C.2.2.2.1 (C.2.2.2.2.1 _ q1) (C.2.2.2.2.1 _ q2) (C.2.2.2.2.1 _ q3) rfl (by rw [C.2.2.1, ← h2.1]) rfl hd (by omega) (by show 2 * 0 + _ + 12 ≤ _; omega) (k ad ls' lv r ws H locs h1 h2 h3 h4a h5 h6 h7 h8)
/-! calls -/
theorem ex_callgo {H : Heap} {locs : List Loc} {cells slots mc ms : Nat} {lsr : Array Slot} {rest st0 : List Value} {A1 : Nat → Prop} {free : Addr → Prop} {v0 : Option Value} {Bq : State → Prop}
    (hr : va_Run p l e R s m args below meth c H locs cells slots mc ms (F0 m pc lsr st0) rest (fun st oc t => (oc = .returned v0 ∧ Bq t) ∧ va_F A1 st t) free) (hS : va_S A H0 H locs) (hA : ∀ q, q < H.size → A1 q → A q) (hf : ∀ q, free q → A q)
    (kk : ∀ (t : State) (H1 : Heap) (locs1 : List Loc), t.heap = H1 → Bq t → va_S A H0 H1 locs1 → W p l e R s m args below meth c H1 locs1 (cells + mc) (slots + ms) Q (F0 m (pc + 3) lsr (v0.toList ++ rest))) : W p l e R s m args below meth c H locs cells slots Q (F0 m pc lsr st0) := by
  intro T hT X
  obtain ⟨v, st₀, t, T', L, h0, X', hL, e1, e2, ⟨⟨hv, hb⟩, hz, hk⟩, st⟩ := hr T hT X
  cases hv
  rw [h0] at hz hk
  obtain ⟨t2, a1, b1⟩ := kk t T'.heap (locs ++ L) e1.symm hb
    ⟨Nat.le_trans hS.1 (by rw [e1]; exact hz), fun q h1 h2 => by rw [e1, hk q (Nat.lt_of_lt_of_le h1 hS.1) (fun z => h2 (hA q (Nat.lt_of_lt_of_le h1 hS.1) z))]; exact hS.2.1 q h1 h2, fun q hq => by
      rcases List.mem_append.mp hq with h | h
      · exact hS.2.2 q h
      · exact hf _ (hL q h)⟩ T' rfl X'
  exact ⟨t2, st t2 a1, b1⟩
/-- what holds at the start of a call of y with these arguments, and behind it -/
def ex_pre (S : ex_S) (b : Nat) (D : va_G) (kc : Nat → ClassId) (ws : va_W) (sz : Nat) (as' : List Value) : Array Value → State → Prop := va_Pc as' (fun U => U.heap.size = sz ∧ va_P D ex_cl ws U.heap ∧ va_K D ex_cl (ex_tys kc) U ∧ va_X b S.1 S.2 U U.heap ∧ va_AO ex_BL U)
def ex_post (b : Nat) (D : va_G) (kc : Nat → ClassId) (ad : List Nat) (ws : va_W) (sz : Nat) (r : Option Int32) (w2 : ex_W) : Array Value → State → Outcome → State → Prop := fun _ st oc t => (oc = .returned (r.map Value.int) ∧ ∃ (ad2 : List Nat) (ws2 : va_W), ex_le ad ad2 ∧ ex_wr b ad2 kc w2 ws2 ∧ va_P D ex_cl ws2 t.heap ∧ va_D (va_A ws sz) ws2) ∧ va_F (va_A ws sz) st t
def ex_rm (y : Nat) : Room := { frames := ex_lev y, cells := ex_mc y, slots := ex_ms y, locals := ex_lev y * 40 }
def ex_wsy (y : Nat) : List Cond := .code (ex_nam y) (ex_cod y) (ex_mxl y) (ex_rty y) :: ex_ws
def ex_Met (S : ex_S) (b : Nat) (l : Launch) (D : va_G) (kc : Nat → ClassId) (y : Nat) (as : List ex_V) (w : ex_W) (r : Option Int32) (w2 : ex_W) : Prop := ∀ (ad : List Nat) (as' : List Value) (ws : va_W) (sz : Nat), ex_sr b ad as as' → ex_wr b ad kc w ws → va_D (fun _ => True) ws → b < sz → (∀ (k : Nat) (x : va_E), ws[k]? ≠ some (b, x)) →
  Met l (ex_nam y) (ex_wsy y) (ex_rm y) (ex_pre S b D kc ws sz as') (ex_post b D kc ad ws sz r w2) (ex_mc y) (ex_ms y) (va_A ws sz)
theorem ex_good (y : Nat) (h : y < ex_ny) : GoodIn ex_ws (ex_wsy y) := by
  intro w hw
  rcases List.mem_cons.mp hw with rfl | hw
  · exact ⟨(ex_y_ok h).1, Or.inl rfl⟩
  · exact ⟨hw, ex_ws_good w hw⟩
theorem ex_blind {ws : va_W} {sz : Nat} {as' : List Value} : FrameBlind (ex_pre S b D kc ws sz as') := fun a U g mk q => by
  obtain ⟨q0, q1, qP, qK, qX, qA⟩ := q
  exact ⟨q0, q1, qP, va_K.moved (u := U) (U := U.calling g mk a) (Vm.Alike.refl U.vm) qK, va_X.moved (u := U) (U := U.calling g mk a) (Vm.Alike.refl U.vm) qX, va_AO.moved (u := U) (U := U.calling g mk a) (Vm.Alike.refl U.vm) qA⟩
theorem ex_pre_at {ws : va_W} {H : Heap} {locs : List Loc} {as' : List Value} (C : ex_Cx S b p R s m args meth c A H0 D kc y) (h6 : va_P D ex_cl ws H) (h8 : va_S A H0 H locs) : ∀ U : State, U.heap = H → s.WarmedH U.vm → ex_pre S b D kc ws H.size as' as'.toArray U := fun U hU hW => by
  obtain ⟨x1, x2, x3⟩ := C.2.2.2.2.2.2.2.2.1
  obtain ⟨r1, r2, r3, r4, r5⟩ := C.2.2.2.2.2.2.2.2.2
  refine ⟨rfl, by rw [hU], by rw [hU]; exact h6, va_K.moved hW.alike C.2.2.2.2.2.2.1, ?_, va_AO.moved hW.alike r5⟩
  rw [hU]
  exact (x1.kept (h8.2.1 b x2 x3)).moved hW.alike
theorem ex_k_static (C : ex_Cx S b p R s m args meth c A H0 D kc y) {i y2 : Nat} {r : Option Int32} {w2 : ex_W} (hd : decode (ex_cod y) pc = .ok (.invokestatic i, 3)) (hm : ex_mr y i = some (y2, 0)) (hn : ex_np y2 ≤ st.length) (hok : ex_cok y y2 cN sN (st.drop (ex_np y2)).length = true) (hM : ex_Met S b l D kc y2 (st.take (ex_np y2)).reverse w r w2) (k : ex_Ok S b p l e R s m args below meth c Q A H0 D kc y ad0 (pc + 3) ls (ex_rl r ++ st.drop (ex_np y2)) w2 (cN + ex_mc y2) (sN + ex_ms y2)) : ex_Ok S b p l e R s m args below meth c Q A H0 D kc y ad0 pc ls st w cN sN := by
  intro ad ls' lv st' ws H locs h1 h2 h3 h4 h5 h6 h7 h8
  obtain ⟨r1, r2, r3, r4, r5⟩ := C.2.2.2.2.2.2.2.2.2
  obtain ⟨x1, x2, x3⟩ := C.2.2.2.2.2.2.2.2.1
  simp only [ex_cok, Bool.and_eq_true, decide_eq_true_eq] at hok
  obtain ⟨⟨⟨⟨c1, c2⟩, c3⟩, c4⟩, c5⟩ := hok
  obtain ⟨y1, y3, y4, y5, y6, y7, y8⟩ := ex_y_ok c5
  obtain ⟨q1, q2, q3⟩ := ex_mr_S hm
  have hrest := ex_sr_drop (ex_np y2) h4
  have hargs := ex_sr_rev (ex_sr_take (ex_np y2) h4)
  have hcat := ex_sr_cat hrest
  have hfree : ∀ q, va_A ws H.size q → A q := fun q hq => by
    rcases hq with ⟨k0, x0, hq⟩ | hq
    · exact h7.2 k0 _ hq
    · exact C.2.2.2.2.2.2.2.1 q (Nat.le_trans h8.1 hq)
  have hbs : b < H.size := Nat.lt_of_lt_of_le x2 h8.1
  have hbw : ∀ (k0 : Nat) (x0 : va_E), ws[k0]? ≠ some (b, x0) := fun k0 x0 hq => x3 (h7.2 k0 _ hq)
  have hMM := hM ad _ ws H.size hargs h5 (h7.weaken (fun _ _ _ _ => trivial)) hbs hbw
  have hlen : (st'.take (ex_np y2)).reverse.length = ex_np y2 := by
    rw [← ex_sr_len hargs, List.length_reverse, List.length_take]; omega
  refine ex_callgo (va_runS (As := (st'.take (ex_np y2)).reverse) (rest := st'.drop (ex_np y2)) ⟨C.1, C.2.1, C.2.2.1, C.2.2.2.1, C.2.2.2.2.1⟩ hMM ⟨callB_of (ex_np y2) C.2.2.2.2.1 (ex_good y2 c5) rfl rfl rfl (C.2.2.2.2.1 _ q3) (C.2.2.2.2.1 _ q1) ⟨y4, y5, y6⟩ ⟨by show ex_lev y2 + 1 ≤ _; omega, by show 8 + (ex_mxl y2 + 11) + ex_lev y2 * 40 ≤ _; omega⟩, C.2.2.2.2.1 _ q2⟩ ⟨ex_blind, ex_pre_at C h6 h8⟩ rfl hlen h2.1 (by show st' = _; rw [List.reverse_reverse, List.take_append_drop]) (by show 2 * 0 + _ ≤ 8; omega) hd ⟨by omega, by omega⟩) h8 (fun q _ h => hfree q h) hfree (fun t H1 locs1 ht hB hS => ?_)
  obtain ⟨ad2, ws2, b1, b2, b3, b4⟩ := hB
  rw [ht] at b3
  have hst : ex_sr b ad2 (ex_rl r ++ st.drop (ex_np y2)) ((r.map Value.int).toList ++ st'.drop (ex_np y2)) := ex_sr_app (by cases r <;> first | exact trivial | exact ⟨rfl, trivial⟩) (ex_sr_mono b1 hrest)
  exact k ad2 ls' lv _ ws2 H1 locs1 (ex_le_tr h1 b1) h2 (ex_lr_mono b1 h3) hst b2 b3 (b4.weaken (fun k0 q0 _ h => hfree q0.1 h)) hS
theorem ex_k_virtual (C : ex_Cx S b p R s m args meth c A H0 D kc y) {i y2 q : Nat} {r : Option Int32} {w2 : ex_W} {rest : List ex_V} (hd : decode (ex_cod y) pc = .ok (.invokevirtual i, 3)) (hm : ex_mr y i = some (y2, 1)) (hst0 : st.drop (ex_np y2) = .inr q :: rest) (hob : ex_obj w q (ex_cix y2) = true) (hok : ex_cok y y2 cN sN rest.length = true) (hM : ex_Met S b l D kc y2 (.inr q :: (st.take (ex_np y2)).reverse) w r w2) (k : ex_Ok S b p l e R s m args below meth c Q A H0 D kc y ad0 (pc + 3) ls (ex_rl r ++ rest) w2 (cN + ex_mc y2) (sN + ex_ms y2)) : ex_Ok S b p l e R s m args below meth c Q A H0 D kc y ad0 pc ls st w cN sN := by
  intro ad ls' lv st' ws H locs h1 h2 h3 h4 h5 h6 h7 h8
  obtain ⟨r1, r2, r3, r4, r5⟩ := C.2.2.2.2.2.2.2.2.2
  obtain ⟨x1, x2, x3⟩ := C.2.2.2.2.2.2.2.2.1
  simp only [ex_cok, Bool.and_eq_true, decide_eq_true_eq] at hok
  obtain ⟨⟨⟨⟨c1, c2⟩, c3⟩, c4⟩, c5⟩ := hok
  obtain ⟨y1, y3, y4, y5, y6, y7, y8⟩ := ex_y_ok c5
  obtain ⟨q1, q2, q3, q4, T, N, q5⟩ := ex_mr_V hm
  obtain ⟨p0, fs, rfl, hw0⟩ := ex_obj_some hob
  have hdr := ex_sr_drop (ex_np y2) h4
  rw [hst0] at hdr
  obtain ⟨a, rest', ha, hdr', hrest⟩ := ex_sr_r hdr
  obtain ⟨a', e', g1, g2, vs, rfl, g4⟩ := h5.2.2 p0 _ hw0
  obtain rfl : a = a' := Option.some.inj (ha.symm.trans g1)
  have hargs := ex_sr_rev (ex_sr_take (ex_np y2) h4)
  have hcat := ex_sr_cat hrest
  have hfree : ∀ q, va_A ws H.size q → A q := fun q hq => by
    rcases hq with ⟨k0, x0, hq⟩ | hq
    · exact h7.2 k0 _ hq
    · exact C.2.2.2.2.2.2.2.1 q (Nat.le_trans h8.1 hq)
  have hbs : b < H.size := Nat.lt_of_lt_of_le x2 h8.1
  have hbw : ∀ (k0 : Nat) (x0 : va_E), ws[k0]? ≠ some (b, x0) := fun k0 x0 hq => x3 (h7.2 k0 _ hq)
  have hMM := hM ad (.ref a :: (st'.take (ex_np y2)).reverse) ws H.size ⟨⟨a, ha, rfl⟩, hargs⟩ h5 (h7.weaken (fun _ _ _ _ => trivial)) hbs hbw
  have hnp : ex_np y2 ≤ st'.length := by
    have e1 := congrArg List.length hdr'
    rw [List.length_drop, List.length_cons] at e1
    omega
  have hlen : (st'.take (ex_np y2)).reverse.length = ex_np y2 := by
    rw [List.length_reverse, List.length_take]; omega
  refine ex_callgo (va_runV (C := ex_own y2) (b := a) (As := (st'.take (ex_np y2)).reverse) (rest := rest') ⟨C.1, C.2.1, C.2.2.1, C.2.2.2.1, C.2.2.2.2.1⟩ hMM ⟨callB_of (ex_np y2) C.2.2.2.2.1 (ex_good y2 c5) rfl rfl rfl (C.2.2.2.2.1 _ q4) (C.2.2.2.2.1 _ q1) ⟨y4, y5, y6⟩ ⟨by show ex_lev y2 + 1 ≤ _; omega, by show 8 + (ex_mxl y2 + 11) + ex_lev y2 * 40 ≤ _; omega⟩, C.2.2.2.2.1 _ q2, C.2.2.2.2.1 _ q3⟩ ⟨ex_blind, va_recv C.2.2.2.2.2.2.1 h6 q5 g2, ex_pre_at C h6 h8⟩ rfl hlen h2.1 (by show st' = _; rw [List.reverse_reverse, ← hdr', List.take_append_drop]) (by show 2 * 0 + _ ≤ 8; omega) hd ⟨by omega, by omega⟩) h8 (fun q _ h => hfree q h) hfree (fun t H1 locs1 ht hB hS => ?_)
  obtain ⟨ad2, ws2, b1, b2, b3, b4⟩ := hB
  rw [ht] at b3
  have hst : ex_sr b ad2 (ex_rl r ++ rest) ((r.map Value.int).toList ++ rest') := ex_sr_app (by cases r <;> first | exact trivial | exact ⟨rfl, trivial⟩) (ex_sr_mono b1 hrest)
  exact k ad2 ls' lv _ ws2 H1 locs1 (ex_le_tr h1 b1) h2 (ex_lr_mono b1 h3) hst b2 b3 (b4.weaken (fun k0 q0 _ h => hfree q0.1 h)) hS
theorem ex_k_special (C : ex_Cx S b p R s m args meth c A H0 D kc y) {i y2 q : Nat} {r : Option Int32} {w2 : ex_W} {rest : List ex_V} (hd : decode (ex_cod y) pc = .ok (.invokespecial i, 3)) (hm : ex_mr y i = some (y2, 2)) (hst0 : st.drop (ex_np y2) = .inr q :: rest) (hob : ex_obj w q (ex_cix y2) = true) (hok : ex_cok y y2 cN sN rest.length = true) (hM : ex_Met S b l D kc y2 (.inr q :: (st.take (ex_np y2)).reverse) w r w2) (k : ex_Ok S b p l e R s m args below meth c Q A H0 D kc y ad0 (pc + 3) ls (ex_rl r ++ rest) w2 (cN + ex_mc y2) (sN + ex_ms y2)) : ex_Ok S b p l e R s m args below meth c Q A H0 D kc y ad0 pc ls st w cN sN := by
  intro ad ls' lv st' ws H locs h1 h2 h3 h4 h5 h6 h7 h8
  obtain ⟨r1, r2, r3, r4, r5⟩ := C.2.2.2.2.2.2.2.2.2
  obtain ⟨x1, x2, x3⟩ := C.2.2.2.2.2.2.2.2.1
  simp only [ex_cok, Bool.and_eq_true, decide_eq_true_eq] at hok
  obtain ⟨⟨⟨⟨c1, c2⟩, c3⟩, c4⟩, c5⟩ := hok
  obtain ⟨y1, y3, y4, y5, y6, y7, y8⟩ := ex_y_ok c5
  obtain ⟨q1, q2, q3, q4, q5⟩ := ex_mr_I hm
  obtain ⟨p0, fs, rfl, hw0⟩ := ex_obj_some hob
  have hdr := ex_sr_drop (ex_np y2) h4
  rw [hst0] at hdr
  obtain ⟨a, rest', ha, hdr', hrest⟩ := ex_sr_r hdr
  have hargs := ex_sr_rev (ex_sr_take (ex_np y2) h4)
  have hcat := ex_sr_cat hrest
  have hfree : ∀ q, va_A ws H.size q → A q := fun q hq => by
    rcases hq with ⟨k0, x0, hq⟩ | hq
    · exact h7.2 k0 _ hq
    · exact C.2.2.2.2.2.2.2.1 q (Nat.le_trans h8.1 hq)
  have hbs : b < H.size := Nat.lt_of_lt_of_le x2 h8.1
  have hbw : ∀ (k0 : Nat) (x0 : va_E), ws[k0]? ≠ some (b, x0) := fun k0 x0 hq => x3 (h7.2 k0 _ hq)
  have hMM := hM ad (.ref a :: (st'.take (ex_np y2)).reverse) ws H.size ⟨⟨a, ha, rfl⟩, hargs⟩ h5 (h7.weaken (fun _ _ _ _ => trivial)) hbs hbw
  have hnp : ex_np y2 ≤ st'.length := by
    have e1 := congrArg List.length hdr'
    rw [List.length_drop, List.length_cons] at e1
    omega
  have hlen : (st'.take (ex_np y2)).reverse.length = ex_np y2 := by
    rw [List.length_reverse, List.length_take]; omega
  have hret : ex_wsy y2 = Cond.code (ex_nam y2) (ex_cod y2) (ex_mxl y2) none :: ex_ws := by rw [← q5]; rfl
  refine ex_callgo (va_runI (b := a) (As := (st'.take (ex_np y2)).reverse) (rest := rest') ⟨C.1, C.2.1, C.2.2.1, C.2.2.2.1, C.2.2.2.2.1⟩ hMM ⟨callB_of (ex_np y2) C.2.2.2.2.1 (ex_good y2 c5) hret rfl rfl (C.2.2.2.2.1 _ q3) (C.2.2.2.2.1 _ q1) ⟨y4, y5, y6⟩ ⟨by show ex_lev y2 + 1 ≤ _; omega, by show 8 + (ex_mxl y2 + 11) + ex_lev y2 * 40 ≤ _; omega⟩, q4, C.2.2.2.2.1 _ q2⟩ ⟨ex_blind, ex_pre_at C h6 h8⟩ rfl hlen h2.1 (by show st' = _; rw [List.reverse_reverse, ← hdr', List.take_append_drop]) (by show 2 * 0 + _ ≤ 8; omega) hd ⟨by omega, by omega⟩) h8 (fun q _ h => hfree q h) hfree (fun t H1 locs1 ht hB hS => ?_)
  obtain ⟨ad2, ws2, b1, b2, b3, b4⟩ := hB
  rw [ht] at b3
  have hst : ex_sr b ad2 (ex_rl r ++ rest) ((r.map Value.int).toList ++ rest') := ex_sr_app (by cases r <;> first | exact trivial | exact ⟨rfl, trivial⟩) (ex_sr_mono b1 hrest)
  exact k ad2 ls' lv _ ws2 H1 locs1 (ex_le_tr h1 b1) h2 (ex_lr_mono b1 h3) hst b2 b3 (b4.weaken (fun k0 q0 _ h => hfree q0.1 h)) hS
end EXK
/-! the small machine's step is the real one's -/
theorem ex_nx_inj {pc : Nat} {ls st : List ex_V} {w : ex_W} {c s : Nat} {F : ex_F} (h : ex_nx pc ls st w c s = some (.inr (.inl F))) : F = (pc, ls, st, w, c, s) := by
  unfold ex_nx at h
  cases h
  rfl
theorem ex_nx_ret {pc : Nat} {ls st : List ex_V} {w : ex_W} {c s : Nat} {r : ex_R} (h : ex_nx pc ls st w c s = some (.inl r)) : False := by
  unfold ex_nx at h
  cases h
theorem ex_nx_call {pc : Nat} {ls st : List ex_V} {w : ex_W} {c s : Nat} {q : (Nat × List ex_V) × List ex_V} (h : ex_nx pc ls st w c s = some (.inr (.inr q))) : False := by
  unfold ex_nx at h
  cases h
theorem ex_go_inj {pc : Nat} {off : Int} {ls st : List ex_V} {w : ex_W} {c s : Nat} {F : ex_F} (h : ex_go pc off ls st w c s = some (.inr (.inl F))) : ∃ t : Nat, (pc : Int) + off = (t : Int) ∧ F = (t, ls, st, w, c, s) := by
  unfold ex_go at h
  split at h
  · rename_i t ht
    exact ⟨t, ht, ex_nx_inj h⟩
  · cases h
theorem ex_br_inj {t0 : Bool} {pc : Nat} {off : Int} {ls st : List ex_V} {w : ex_W} {c s : Nat} {F : ex_F} (h : ex_br t0 pc off ls st w c s = some (.inr (.inl F))) : ∃ t : Nat, (pc : Int) + off = (t : Int) ∧ F = (if t0 = true then t else pc + 3, ls, st, w, c, s) := by
  unfold ex_br at h
  split at h
  · rename_i t ht
    exact ⟨t, ht, ex_nx_inj h⟩
  · cases h
def ex_rt (y pc : Nat) (r : Option Int32) : Prop := match r with
  | none => decode (ex_cod y) pc = .ok (.return_, 1) ∧ ex_rty y = none
  | some x => decode (ex_cod y) pc = .ok (.ireturn, 1) ∧ ∃ ty, ex_rty y = some ty ∧ narrow ty (.int x) = .int x
section EXS
variable {S : ex_S} {b : Nat} {p : Program} {l : Launch} {e : Env} {R : Room} {s : State} {m : MethodId} {args : Array Value} {below : List Frame} {meth : Method} {c : Code} {Q : State → Prop} {A : Nat → Prop} {H0 : Heap} {D : va_G} {kc : Nat → ClassId} {y : Nat} {ad0 : List Nat} {pc : Nat} {ls st : List ex_V} {w : ex_W} {cN sN : Nat}
set_option maxHeartbeats 4000000 in
set_option maxRecDepth 100000 in
theorem ex_next (C : ex_Cx S b p R s m args meth c A H0 D kc y) {F : ex_F} (h : ex_dec S y pc ls st w cN sN = some (.inr (.inl F))) (k : ex_Ok S b p l e R s m args below meth c Q A H0 D kc y ad0 F.1 F.2.1 F.2.2.1 F.2.2.2.1 F.2.2.2.2.1 F.2.2.2.2.2) : ex_Ok S b p l e R s m args below meth c Q A H0 D kc y ad0 pc ls st w cN sN := by
  unfold ex_dec at h
  split at h
  · rename_i n hd
    cases ex_nx_inj h
    exact ex_k_iconst C hd k
  · rename_i n hd
    cases ex_nx_inj h
    exact ex_k_bipush C hd k
  · rename_i n hd
    cases ex_nx_inj h
    exact ex_k_sipush C hd k
  · rename_i n hd
    split at h
    · rename_i v hv
      cases ex_nx_inj h
      exact ex_k_ldc C hd hv k
    · cases h
  · rename_i n hd
    split at h
    · rename_i v hv
      cases ex_nx_inj h
      exact ex_k_iload_n C hd hv k
    · cases h
  · rename_i n hd
    split at h
    · rename_i v hv
      cases ex_nx_inj h
      exact ex_k_iload C hd hv k
    · cases h
  · rename_i n hd
    split at h
    · rename_i v hv
      cases ex_nx_inj h
      exact ex_k_aload_n C hd hv k
    · cases h
  · rename_i n hd
    split at h
    · rename_i v hv
      cases ex_nx_inj h
      exact ex_k_aload C hd hv k
    · cases h
  · rename_i n hd
    split at h
    · split at h
      · rename_i hi
        cases ex_nx_inj h
        exact ex_k_istore_n C hd hi k
      · cases h
    · cases h
  · rename_i n hd
    split at h
    · split at h
      · rename_i hi
        cases ex_nx_inj h
        exact ex_k_istore C hd hi k
      · cases h
    · cases h
  · rename_i n hd
    split at h
    · split at h
      · rename_i hi
        cases ex_nx_inj h
        exact ex_k_astore_n C hd hi k
      · cases h
    · cases h
  · rename_i n hd
    split at h
    · split at h
      · rename_i hi
        cases ex_nx_inj h
        exact ex_k_astore C hd hi k
      · cases h
    · cases h
  · rename_i i n hd
    split at h
    · rename_i x hx
      split at h
      · rename_i hi
        cases ex_nx_inj h
        exact ex_k_iinc C hd hx hi k
      · cases h
    · cases h
  · rename_i hd
    split at h
    · cases ex_nx_inj h
      exact ex_k_iadd C hd k
    · cases h
  · rename_i hd
    split at h
    · cases ex_nx_inj h
      exact ex_k_isub C hd k
    · cases h
  · rename_i hd
    split at h
    · cases ex_nx_inj h
      exact ex_k_imul C hd k
    · cases h
  · rename_i hd
    split at h
    · cases ex_nx_inj h
      exact ex_k_iand C hd k
    · cases h
  · rename_i hd
    split at h
    · split at h
      · cases h
      · rename_i hz
        cases ex_nx_inj h
        exact ex_k_idiv C hd hz k
    · cases h
  · rename_i hd
    split at h
    · cases ex_nx_inj h
      exact ex_k_dup C hd k
    · cases h
  · rename_i hd
    split at h
    · cases ex_nx_inj h
      exact ex_k_pop C hd k
    · cases h
  · rename_i off hd
    obtain ⟨t, ht, rfl⟩ := ex_go_inj h
    exact ex_k_goto C hd ht k
  · rename_i k0 off hd
    split at h
    · obtain ⟨t, ht, rfl⟩ := ex_br_inj h
      exact ex_k_if C hd ht k
    · cases h
  · rename_i k0 off hd
    split at h
    · obtain ⟨t, ht, rfl⟩ := ex_br_inj h
      exact ex_k_icmp C hd ht k
    · cases h
  · rename_i dflt lo hi offs len hd
    split at h
    · split at h
      · rename_i off ho
        obtain ⟨t, ht, rfl⟩ := ex_go_inj h
        exact ex_k_switch C hd ho ht k
      · cases h
    · cases h
  · rename_i i hd
    split at h
    · rename_i hf
      split at h
      · rename_i v hv
        cases ex_nx_inj h
        exact ex_k_getfield C hd hf hv k
      · cases h
    · cases h
  · rename_i i hd
    split at h
    · rename_i hf
      split at h
      · rename_i hc
        split at h
        · rename_i w2 hw2
          cases ex_nx_inj h
          exact ex_k_putfield C hd hf hc.1 hc.2 hw2 k
        · cases h
      · cases h
    · cases h
  · rename_i hd
    split at h
    · split at h
      · rename_i x hx
        cases ex_nx_inj h
        exact ex_k_iaload C hd hx k
      · cases h
    · cases h
  · rename_i hd
    split at h
    · split at h
      · rename_i x hx
        cases ex_nx_inj h
        exact ex_k_baload C hd hx k
      · cases h
    · cases h
  · rename_i hd
    split at h
    · split at h
      · rename_i x hx
        cases ex_nx_inj h
        exact ex_k_iastore C hd hx k
      · cases h
    · cases h
  · rename_i hd
    split at h
    · split at h
      · rename_i x hx
        cases ex_nx_inj h
        exact ex_k_bastore C hd hx k
      · cases h
    · cases h
  · rename_i hd
    split at h
    · split at h
      · rename_i x hx
        cases ex_nx_inj h
        exact ex_k_aaload C hd hx k
      · cases h
    · cases h
  · rename_i hd
    split at h
    · split at h
      · rename_i x hx
        cases ex_nx_inj h
        exact ex_k_aastore C hd hx k
      · cases h
    · cases h
  · rename_i hd
    split at h
    · split at h
      · rename_i x hx
        cases ex_nx_inj h
        exact ex_k_len C hd hx k
      · cases h
    · cases h
  · rename_i hd
    split at h
    · split at h
      · rename_i hc
        cases ex_nx_inj h
        exact ex_k_newI C hd hc.1 hc.2.1 hc.2.2.1 hc.2.2.2 k
      · cases h
    · cases h
  · rename_i hd
    split at h
    · split at h
      · rename_i hc
        cases ex_nx_inj h
        exact ex_k_newZ C hd hc.1 hc.2.1 hc.2.2.1 hc.2.2.2 k
      · cases h
    · cases h
  · rename_i i hd
    split at h
    · split at h
      · rename_i hc
        cases ex_nx_inj h
        exact ex_k_newQ C hd hc.1 hc.2.1 hc.2.2.1 hc.2.2.2.1 hc.2.2.2.2 k
      · cases h
    · cases h
  · rename_i i hd
    split at h
    · rename_i ci hci
      split at h
      · rename_i hc
        cases ex_nx_inj h
        exact ex_k_new C hd hci hc.1 hc.2 k
      · cases h
    · cases h
  · rename_i i hd
    split at h
    · split at h <;> cases h
    · rename_i y2 hm
      split at h
      · split at h
        · rename_i hc
          cases ex_nx_inj h
          exact ex_k_max C hd hm hc.1 hc.2.1 hc.2.2 k
        · cases h
      · cases h
    · rename_i y2 hm
      split at h
      · split at h
        · rename_i hc
          cases ex_nx_inj h
          exact ex_k_min C hd hm hc.1 hc.2.1 hc.2.2 k
        · cases h
      · cases h
    · cases h
  · rename_i i hd
    split at h
    · split at h
      · split at h <;> cases h
      · cases h
    · cases h
  · rename_i i hd
    split at h
    · split at h
      · split at h <;> cases h
      · cases h
    · rename_i y2 hm
      split at h
      · split at h
        · rename_i hc
          cases ex_nx_inj h
          exact ex_k_obj C hd hm hc.1 hc.2 k
        · cases h
      · cases h
    · cases h
  · split at h
    · split at h <;> cases h
    · cases h
  · split at h
    · split at h <;> cases h
    · cases h
  · cases h
def ex_Fin (b : Nat) (p : Program) (l : Launch) (e : Env) (R : Room) (s : State) (m : MethodId) (args : Array Value) (below : List Frame) (meth : Method) (c : Code) (Q : State → Prop) (A : Nat → Prop) (H0 : Heap) (D : va_G) (kc : Nat → ClassId) (y : Nat) (ad0 : List Nat) (r : Option Int32) (w2 : ex_W) : Prop :=
  ∀ (pc' : Nat) (ls2 : Array Slot) (ad2 : List Nat) (ws2 : va_W) (H1 : Heap) (locs1 : List Loc), ex_rt y pc' r → ex_le ad0 ad2 → ex_wr b ad2 kc w2 ws2 → va_P D ex_cl ws2 H1 → va_D A ws2 → va_S A H0 H1 locs1 → W p l e R s m args below meth c H1 locs1 (ex_mc y) (ex_ms y) Q (F0 m pc' ls2 (r.map Value.int).toList)
set_option maxHeartbeats 4000000 in
set_option maxRecDepth 100000 in
/-- what the instruction is where the small machine returns -/
theorem ex_dec_ret {r : Option Int32} {w2 : ex_W} (h : ex_dec S y pc ls st w cN sN = some (.inl (r, w2))) : ex_rt y pc r ∧ w2 = w ∧ cN ≤ ex_mc y ∧ sN ≤ ex_ms y ∧ st = ex_rl r := by
  unfold ex_dec at h
  split at h
  all_goals first
    | exact (ex_nx_ret h).elim
    | (exfalso; cases h; done)
    | skip
  all_goals try (exfalso; revert h; (repeat' split) <;> first | exact fun h => ex_nx_ret h | (intro h; unfold ex_go at h; split at h <;> first | exact ex_nx_ret h | cases h) | (intro h; unfold ex_br at h; split at h <;> first | exact ex_nx_ret h | cases h) | (intro h; cases h; done))
  · rename_i hd
    split at h
    · split at h
      · rename_i x hc
        cases h
        obtain ⟨h1, h2⟩ := hc
        simp only [ex_rok, Bool.and_eq_true, decide_eq_true_eq] at h1
        refine ⟨⟨hd, ?_⟩, rfl, h1.1, h1.2, rfl⟩
        rcases h2 with h2 | ⟨h2, rfl | rfl⟩
        · exact ⟨_, h2, rfl⟩
        · exact ⟨_, h2, by decide⟩
        · exact ⟨_, h2, by decide⟩
      · cases h
    · cases h
  · rename_i hd
    split at h
    · split at h
      · rename_i hc
        cases h
        obtain ⟨h1, h2⟩ := hc
        simp only [ex_rok, Bool.and_eq_true, decide_eq_true_eq] at h1
        exact ⟨⟨hd, h2⟩, rfl, h1.1, h1.2, rfl⟩
      · cases h
    · cases h
set_option maxHeartbeats 4000000 in
set_option maxRecDepth 100000 in
/-- what the instruction is where the small machine calls -/
theorem ex_dec_call {y2 : Nat} {as rest : List ex_V} (h : ex_dec S y pc ls st w cN sN = some (.inr (.inr ((y2, as), rest)))) :
    (∃ i, decode (ex_cod y) pc = .ok (.invokestatic i, 3) ∧ ex_mr y i = some (y2, 0) ∧ ex_np y2 ≤ st.length ∧ ex_cok y y2 cN sN (st.drop (ex_np y2)).length = true ∧ as = (st.take (ex_np y2)).reverse ∧ rest = st.drop (ex_np y2))
    ∨ ∃ i q k0, st.drop (ex_np y2) = .inr q :: rest ∧ ex_obj w q (ex_cix y2) = true ∧ ex_cok y y2 cN sN rest.length = true ∧ as = .inr q :: (st.take (ex_np y2)).reverse ∧ ((k0 = 1 ∧ decode (ex_cod y) pc = .ok (.invokevirtual i, 3)) ∨ (k0 = 2 ∧ decode (ex_cod y) pc = .ok (.invokespecial i, 3))) ∧ ex_mr y i = some (y2, k0) := by
  unfold ex_dec at h
  split at h
  all_goals first
    | exact (ex_nx_call h).elim
    | (exfalso; cases h; done)
    | skip
  all_goals try (exfalso; revert h; (repeat' split) <;> first | exact fun h => ex_nx_call h | (intro h; unfold ex_go at h; split at h <;> first | exact ex_nx_call h | cases h) | (intro h; unfold ex_br at h; split at h <;> first | exact ex_nx_call h | cases h) | (intro h; cases h; done))
  · rename_i i hd
    left
    split at h
    · rename_i y3 hm
      split at h
      · rename_i hc
        cases h
        exact ⟨i, hd, hm, hc.1, hc.2, rfl, rfl⟩
      · cases h
    · exfalso; revert h; (repeat' split) <;> first | exact fun h => ex_nx_call h | (intro h; cases h; done)
    · exfalso; revert h; (repeat' split) <;> first | exact fun h => ex_nx_call h | (intro h; cases h; done)
    · cases h
  · rename_i i hd
    right
    split at h
    · rename_i y3 hm
      split at h
      · rename_i q rest3 hs
        split at h
        · rename_i hc
          cases h
          exact ⟨i, q, 1, hs, hc.1, hc.2, rfl, Or.inl ⟨rfl, hd⟩, hm⟩
        · cases h
      · cases h
    · cases h
  · rename_i i hd
    right
    split at h
    · rename_i y3 hm
      split at h
      · rename_i q rest3 hs
        split at h
        · rename_i hc
          cases h
          exact ⟨i, q, 2, hs, hc.1, hc.2, rfl, Or.inr ⟨rfl, hd⟩, hm⟩
        · cases h
      · cases h
    · exfalso; revert h; (repeat' split) <;> first | exact fun h => ex_nx_call h | (intro h; cases h; done)
    · cases h
end EXS
/-- a method's contract out of its body's walk -/
theorem ex_met_of {S : ex_S} {b : Nat} {l : Launch} {D : va_G} {kc : Nat → ClassId} {y : Nat} {as : List ex_V} {w : ex_W} {r : Option Int32} {w2 : ex_W} (hy : y < ex_ny) (has : as.length ≤ ex_mxl y)
    (sim : ∀ (p : Program) (e : Env) (R : Room) (s : State) (m : MethodId) (args : Array Value) (below : List Frame) (meth : Method) (c : Code) (Q : State → Prop) (A : Nat → Prop) (H0 : Heap) (ad0 : List Nat), ex_Cx S b p R s m args meth c A H0 D kc y → ex_Fin b p l e R s m args below meth c Q A H0 D kc y ad0 r w2 → ex_Ok S b p l e R s m args below meth c Q A H0 D kc y ad0 0 (ex_pad y as) [] w 0 0) : ex_Met S b l D kc y as w r w2 := by
  intro ad as' ws sz h1 h2 h3 h4 h5
  obtain ⟨y1, y3, y4, y5, y6, y7, y8⟩ := ex_y_ok hy
  refine Met.ofW (cc := ex_cod y) (maxL := ex_mxl y) (ret := ex_rty y) y7 rfl ?_
  intro p e s m args below meth c s₁ B hml hv
  obtain ⟨rfl, hsz, hP, hK, hX, hAO⟩ := hv
  have hx := B.exec
  have hb := B.bytes
  have hr := B.returns
  have hts := atoms_spec (ws := ex_wsy y) B.pre
  have hown0 : s.vm.findClass (ex_nam y).cls = some m.cls := findClass_of_methodNamed B.named
  have hlocks := B.notSynchronized
  have hin : meth.name = (ex_nam y).name := (name_of_methodNamed B.named B.method).1
  subst hsz
  have C : ex_Cx S b p (headSpec (ex_wsy y) (ex_rm y)).room s m as'.toArray meth c (va_A ws s.heap.size) s.heap D kc y := ⟨hx, hb, hml, by rw [← y3]; exact hown0, fun w hw => hts w (List.mem_cons_of_mem _ hw), hin, hK, fun q h => Or.inr h, ⟨hX, h4, fun h => by
    rcases h with ⟨k, x, h⟩ | h
    · exact h5 k x h
    · omega⟩, ⟨Nat.le_refl _, Nat.le_refl _, Nat.le_refl _, Nat.le_refl _, hAO⟩⟩
  have hF : ex_Fin b p l e (headSpec (ex_wsy y) (ex_rm y)).room s m as'.toArray below meth c (MQ below (ex_post b D kc ad ws s.heap.size r w2) as'.toArray s (ex_mc y) (ex_ms y) (va_A ws s.heap.size)) (va_A ws s.heap.size) s.heap D kc y ad r w2 := by
    intro pc' ls2 ad2 ws2 H1 locs1 g1 g2 g3 g4 g5 g6
    cases r with
    | none => exact W.vret hx hb (hr.trans g1.2) (fun t ht hW => ⟨⟨rfl, ad2, ws2, g2, g3, by rw [ht]; exact g4, g5⟩, g6.F ht⟩) g6.2.2 g1.1
    | some x =>
      obtain ⟨d1, ty, d2, d3⟩ := g1
      exact W.zret hx hb (hr.trans d2) d3 (fun t ht hW => ⟨⟨rfl, ad2, ws2, g2, g3, by rw [ht]; exact g4, g5⟩, g6.F ht⟩) g6.2.2 d1
  have hlen := ex_sr_len h1
  have hsl : ∀ vs : List Value, (∀ v ∈ vs, v.category = 1) → lg_sl vs = vs.map Slot.val := by
    intro vs
    induction vs with
    | nil => intro _; rfl
    | cons v t ih =>
      intro h
      have e1 : v.category = 1 := h v List.mem_cons_self
      have e2 := ih (fun u hu => h u (List.mem_cons_of_mem _ hu))
      simp only [lg_sl, List.flatMap_cons, e1] at e2 ⊢
      rw [e2]; rfl
  have hall : ∀ (vs : List ex_V) (xs : List Value), ex_sr b ad vs xs → ∀ v ∈ xs, v.category = 1 := by
    intro vs
    induction vs with
    | nil => intro xs h v hv; rw [ex_sr_nil h] at hv; cases hv
    | cons u t ih =>
      intro xs h v hv
      obtain ⟨x, r0, rfl, hx0, h0⟩ := ex_sr_c h
      rcases List.mem_cons.mp hv with rfl | hv
      · exact ex_cv_cat hx0
      · exact ih r0 h0 v hv
  have hargs : ∀ (vs : List Value) (i : Nat), (∀ v ∈ vs, v.category = 1) → ∀ (k : Nat) (v : Value), vs[k]? = some v → (i + k, v) ∈ lv_args i vs := by
    intro vs
    induction vs with
    | nil => intro i _ k v h; simp at h
    | cons u t ih =>
      intro i h k v hk
      have e1 : u.category = 1 := h u List.mem_cons_self
      unfold lv_args
      rw [if_neg (by omega)]
      cases k with
      | zero =>
        have : u = v := by simpa using hk
        subst this
        exact List.mem_cons_self
      | succ k =>
        have hk : t[k]? = some v := by simpa using hk
        have := ih (i + 1) (fun u hu => h u (List.mem_cons_of_mem _ hu)) k v hk
        rw [show i + (k + 1) = i + 1 + k by omega]
        exact List.mem_cons_of_mem _ this
  have hcat := hall as as' h1
  have hl := lv_entry as' (n := ex_mxl y) (by rw [hsl as' hcat, List.length_map]; omega)
  rw [lg_entry_eq]
  generalize (lg_sl as' ++ List.replicate (ex_mxl y - (lg_sl as').length) Slot.unset).toArray = ls0 at hl ⊢
  refine sim p e _ s m _ below meth c _ _ _ ad C hF ad ls0 _ [] ws s.heap [] (ex_le_rf ad) hl ?_ trivial h2 hP (h3.self) va_S.rf
  intro i v hi hv
  unfold ex_pad at hi
  by_cases hlt : i < as.length
  · rw [List.getElem?_append_left hlt] at hi
    obtain ⟨x, hx1, hx2⟩ := ex_sr_get h1 hi
    refine ⟨x, hx2, ?_⟩
    have := hargs as' 0 hcat i x hx1
    rwa [Nat.zero_add] at this
  · rw [List.getElem?_append_right (by omega)] at hi
    have := List.mem_of_getElem? hi
    exact absurd (List.eq_of_mem_replicate this) hv
set_option maxHeartbeats 4000000 in
/-- WHAT THE SMALL MACHINE ANSWERS, THE REAL ONE ANSWERS -/
theorem ex_sim {S : ex_S} {b : Nat} {l : Launch} {D : va_G} {kc : Nat → ClassId} : ∀ (n y pc : Nat) (ls st : List ex_V) (w : ex_W) (cN sN : Nat) (r : Option Int32) (w2 : ex_W), ex_run S n y pc ls st w cN sN = some (r, w2) →
    ∀ (p : Program) (e : Env) (R : Room) (s : State) (m : MethodId) (args : Array Value) (below : List Frame) (meth : Method) (c : Code) (Q : State → Prop) (A : Nat → Prop) (H0 : Heap) (ad0 : List Nat), ex_Cx S b p R s m args meth c A H0 D kc y → ex_Fin b p l e R s m args below meth c Q A H0 D kc y ad0 r w2 → ex_Ok S b p l e R s m args below meth c Q A H0 D kc y ad0 pc ls st w cN sN := by
  intro n
  induction n with
  | zero => intro y pc ls st w cN sN r w2 h; cases h
  | succ n ih =>
    intro y pc ls st w cN sN r w2 h p e R s m args below meth c Q A H0 ad0 C hF
    unfold ex_run at h
    split at h
    · rename_i r0 hd
      cases h
      obtain ⟨g1, rfl, g2, g3, rfl⟩ := ex_dec_ret hd
      intro ad ls' lv st' ws H locs h1 h2 h3 h4 h5 h6 h7 h8
      have hst : st' = (r.map Value.int).toList := by
        cases r with
        | none => exact ex_sr_nil h4
        | some x =>
          obtain ⟨t, rfl, ht⟩ := ex_sr_i h4
          rw [ex_sr_nil ht]; rfl
      subst hst
      exact W.widen g2 g3 (hF pc ls' ad ws H locs g1 h1 h5 h6 h7 h8)
    · rename_i F hd
      exact ex_next C hd (ih y _ _ _ _ _ _ r w2 h p e R s m args below meth c Q A H0 ad0 C hF)
    · rename_i q hd
      obtain ⟨⟨y2, as⟩, rest⟩ := q
      split at h
      · rename_i r1 hr1
        obtain ⟨r1, w1⟩ := r1
        have kk := ih y _ _ _ _ _ _ r w2 h p e R s m args below meth c Q A H0 ad0 C hF
        rcases ex_dec_call hd with ⟨i, d1, d2, d3, d4, rfl, rfl⟩ | ⟨i, q, k0, d1, d2, d3, rfl, d5, d6⟩
        · have c5 : y2 < ex_ny := by
            simp only [ex_cok, Bool.and_eq_true, decide_eq_true_eq] at d4
            exact d4.2
          have hM : ex_Met S b l D kc y2 (st.take (ex_np y2)).reverse w r1 w1 := ex_met_of c5 (by rw [List.length_reverse, List.length_take]; have := (ex_y_ok c5).2.2.2.2.2.2; have := ex_np_ok c5; omega) (ih y2 0 _ [] w 0 0 r1 w1 hr1)
          exact ex_k_static C d1 d2 d3 d4 hM kk
        · have c5 : y2 < ex_ny := by
            simp only [ex_cok, Bool.and_eq_true, decide_eq_true_eq] at d3
            exact d3.2
          rcases d5 with ⟨rfl, d5⟩ | ⟨rfl, d5⟩
          · have hM : ex_Met S b l D kc y2 (.inr q :: (st.take (ex_np y2)).reverse) w r1 w1 := ex_met_of c5 (by rw [List.length_cons, List.length_reverse, List.length_take]; have := ex_np_V d6; omega) (ih y2 0 _ [] w 0 0 r1 w1 hr1)
            exact ex_k_virtual C d5 d6 d1 d2 d3 hM kk
          · have hM : ex_Met S b l D kc y2 (.inr q :: (st.take (ex_np y2)).reverse) w r1 w1 := ex_met_of c5 (by rw [List.length_cons, List.length_reverse, List.length_take]; have := ex_np_I d6; omega) (ih y2 0 _ [] w 0 0 r1 w1 hr1)
            exact ex_k_special C d5 d6 d1 d2 d3 hM kk
      · cases h
    · cases h
