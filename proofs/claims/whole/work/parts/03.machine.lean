/-! A small machine over worlds of cells: values are ints or places; its steps follow 'decode'; what it answers the real machine answers (ex_sim, next part). -/
abbrev ex_V : Type := Int32 ⊕ Nat
abbrev ex_C : Type := (Bool × Nat × (Nat → Int32)) ⊕ ((Nat × (Nat → Nat)) ⊕ (Nat × List ex_V))
abbrev ex_W : Type := List ex_C
abbrev ex_S : Type := Nat × (Nat → Int32)
abbrev ex_R : Type := Option Int32 × ex_W
abbrev ex_F : Type := Nat × List ex_V × List ex_V × ex_W × Nat × Nat
abbrev ex_N : Type := ex_R ⊕ (ex_F ⊕ ((Nat × List ex_V) × List ex_V))
def ex_gf (w : ex_W) (q ci k : Nat) : Option ex_V := match q with
  | 0 => none
  | 1 => none
  | p + 2 => match w[p]? with
    | some (.inr (.inr o)) => if o.1 = ci then o.2[k]? else none
    | _ => none
def ex_fits (fk : Nat) (v : ex_V) : Bool := match v with
  | .inl x => fk == 0 || (fk == 1 && (x == 0 || x == 1))
  | .inr 0 => false
  | .inr 1 => false
  | .inr (_ + 2) => fk == 2
def ex_pf (w : ex_W) (q ci k : Nat) (v : ex_V) : Option ex_W := match q with
  | 0 => none
  | 1 => none
  | p + 2 => match w[p]? with
    | some (.inr (.inr o)) => if o.1 = ci ∧ k < o.2.length then some (w.set p (.inr (.inr (ci, o.2.set k v)))) else none
    | _ => none
def ex_rd (S : ex_S) (w : ex_W) (z : Bool) (q : Nat) (i : Int32) : Option Int32 := match q with
  | 0 => none
  | 1 => if z = false ∧ ¬ (i < 0 ∨ S.1 ≤ i.toNatClampNeg) then some (S.2 i.toNatClampNeg) else none
  | p + 2 => match w[p]? with
    | some (.inl a) => if a.1 = z ∧ ¬ (i < 0 ∨ a.2.1 ≤ i.toNatClampNeg) then some (a.2.2 i.toNatClampNeg) else none
    | _ => none
def ex_wt (w : ex_W) (z : Bool) (q : Nat) (i x : Int32) : Option ex_W := match q with
  | 0 => none
  | 1 => none
  | p + 2 => match w[p]? with
    | some (.inl a) => if a.1 = z ∧ ¬ (i < 0 ∨ a.2.1 ≤ i.toNatClampNeg) then some (w.set p (.inl (z, a.2.1, upd a.2.2 i.toNatClampNeg x))) else none
    | _ => none
def ex_rq (w : ex_W) (q : Nat) (i : Int32) : Option Nat := match q with
  | 0 => none
  | 1 => none
  | p + 2 => match w[p]? with
    | some (.inr (.inl a)) => if ¬ (i < 0 ∨ a.1 ≤ i.toNatClampNeg) then some (a.2 i.toNatClampNeg) else none
    | _ => none
def ex_upq (f : Nat → Nat) (k x : Nat) : Nat → Nat := fun j => if j = k then x else f j
def ex_wq (w : ex_W) (q : Nat) (i : Int32) (x : Nat) : Option ex_W := match q, x with
  | p + 2, r + 2 => match w[p]?, w[r]? with
    | some (.inr (.inl a)), some (.inr (.inr o)) => if o.1 = ex_bl ∧ ¬ (i < 0 ∨ a.1 ≤ i.toNatClampNeg) then some (w.set p (.inr (.inl (a.1, ex_upq a.2 i.toNatClampNeg (r + 2))))) else none
    | _, _ => none
  | _, _ => none
def ex_len (S : ex_S) (w : ex_W) (q : Nat) : Option Int32 := match q with
  | 0 => none
  | 1 => some (Int32.ofNat S.1)
  | p + 2 => match w[p]? with
    | some (.inl a) => some (Int32.ofNat a.2.1)
    | some (.inr (.inl a)) => some (Int32.ofNat a.1)
    | _ => none
def ex_ldI (ls : List ex_V) (i : Nat) : Option Int32 := match ls[i]? with
  | some (.inl x) => some x
  | _ => none
def ex_ldA (ls : List ex_V) (i : Nat) : Option Nat := match ls[i]? with
  | some (.inr (q + 1)) => some (q + 1)
  | _ => none
def ex_nx (pc : Nat) (ls st : List ex_V) (w : ex_W) (c s : Nat) : Option ex_N := some (.inr (.inl (pc, ls, st, w, c, s)))
def ex_go (pc : Nat) (off : Int) (ls st : List ex_V) (w : ex_W) (c s : Nat) : Option ex_N := match (pc : Int) + off with
  | .ofNat t => ex_nx t ls st w c s
  | _ => none
def ex_cnd (k : ClassFile.Cond) (x y : Int32) : Bool := match k with
  | .eq => decide (x = y)
  | .ne => !decide (x = y)
  | .lt => decide (x < y)
  | .ge => decide (y ≤ x)
  | .gt => decide (y < x)
  | .le => decide (x ≤ y)
def ex_br (t : Bool) (pc : Nat) (off : Int) (ls st : List ex_V) (w : ex_W) (c s : Nat) : Option ex_N := match (pc : Int) + off with
  | .ofNat g => ex_nx (if t then g else pc + 3) ls st w c s
  | _ => none
def ex_sw (lo hi dflt : Int) (offs : Array Int) (x : Int32) : Option Int := if x.toInt < lo ∨ hi < x.toInt then some dflt else offs[(x.toInt - lo).toNat]?
def ex_obj (w : ex_W) (q ci : Nat) : Bool := match q with
  | 0 => false
  | 1 => false
  | p + 2 => match w[p]? with
    | some (.inr (.inr o)) => decide (o.1 = ci)
    | _ => false
/-- may method y, with c cells and s slots made, call y2 with the rest of the stack of this length? -/
def ex_cok (y y2 c s n : Nat) : Bool := decide (ex_lev y2 < ex_lev y) && decide (c + ex_mc y2 ≤ ex_mc y) && decide (s + ex_ms y2 ≤ ex_ms y) && decide (n ≤ 8) && decide (y2 < ex_ny)
def ex_rok (y c s : Nat) : Bool := decide (c ≤ ex_mc y) && decide (s ≤ ex_ms y)
def ex_dec (S : ex_S) (y pc : Nat) (ls st : List ex_V) (w : ex_W) (c s : Nat) : Option ex_N :=
  match decode (ex_cod y) pc with
  | .ok (.iconst n, 1) => ex_nx (pc + 1) ls (.inl (Int32.ofInt n) :: st) w c s
  | .ok (.bipush n, 2) => ex_nx (pc + 2) ls (.inl (Int8.ofInt n).toInt32 :: st) w c s
  | .ok (.sipush n, 3) => ex_nx (pc + 3) ls (.inl (Int16.ofInt n).toInt32 :: st) w c s
  | .ok (.ldc i, 2) => match ex_kn y i with
    | some v => ex_nx (pc + 2) ls (.inl v :: st) w c s
    | none => none
  | .ok (.iload_n k, 1) => match ex_ldI ls k with
    | some x => ex_nx (pc + 1) ls (.inl x :: st) w c s
    | none => none
  | .ok (.iload k, 2) => match ex_ldI ls k with
    | some x => ex_nx (pc + 2) ls (.inl x :: st) w c s
    | none => none
  | .ok (.aload_n k, 1) => match ex_ldA ls k with
    | some q => ex_nx (pc + 1) ls (.inr q :: st) w c s
    | none => none
  | .ok (.aload k, 2) => match ex_ldA ls k with
    | some q => ex_nx (pc + 2) ls (.inr q :: st) w c s
    | none => none
  | .ok (.istore_n k, 1) => match st with
    | .inl x :: st => if (k : Nat) < ex_mxl y then ex_nx (pc + 1) (ls.set k (.inl x)) st w c s else none
    | _ => none
  | .ok (.istore k, 2) => match st with
    | .inl x :: st => if k < ex_mxl y then ex_nx (pc + 2) (ls.set k (.inl x)) st w c s else none
    | _ => none
  | .ok (.astore_n k, 1) => match st with
    | .inr (q + 1) :: st => if (k : Nat) < ex_mxl y then ex_nx (pc + 1) (ls.set k (.inr (q + 1))) st w c s else none
    | _ => none
  | .ok (.astore k, 2) => match st with
    | .inr (q + 1) :: st => if k < ex_mxl y then ex_nx (pc + 2) (ls.set k (.inr (q + 1))) st w c s else none
    | _ => none
  | .ok (.iinc k n, 3) => match ex_ldI ls k with
    | some x => if k < ex_mxl y then ex_nx (pc + 3) (ls.set k (.inl (x + Int32.ofInt n))) st w c s else none
    | none => none
  | .ok (.iadd, 1) => match st with
    | .inl b :: .inl a :: st => ex_nx (pc + 1) ls (.inl (a + b) :: st) w c s
    | _ => none
  | .ok (.isub, 1) => match st with
    | .inl b :: .inl a :: st => ex_nx (pc + 1) ls (.inl (a - b) :: st) w c s
    | _ => none
  | .ok (.imul, 1) => match st with
    | .inl b :: .inl a :: st => ex_nx (pc + 1) ls (.inl (a * b) :: st) w c s
    | _ => none
  | .ok (.iand, 1) => match st with
    | .inl b :: .inl a :: st => ex_nx (pc + 1) ls (.inl (a &&& b) :: st) w c s
    | _ => none
  | .ok (.idiv, 1) => match st with
    | .inl b :: .inl a :: st => if b = 0 then none else ex_nx (pc + 1) ls (.inl (a / b) :: st) w c s
    | _ => none
  | .ok (.dup, 1) => match st with
    | v :: st => ex_nx (pc + 1) ls (v :: v :: st) w c s
    | _ => none
  | .ok (.pop, 1) => match st with
    | _ :: st => ex_nx (pc + 1) ls st w c s
    | _ => none
  | .ok (.goto off, 3) => ex_go pc off ls st w c s
  | .ok (.ifCond k off, 3) => match st with
    | .inl x :: st => ex_br (ex_cnd k x 0) pc off ls st w c s
    | _ => none
  | .ok (.if_icmp k off, 3) => match st with
    | .inl b :: .inl a :: st => ex_br (ex_cnd k a b) pc off ls st w c s
    | _ => none
  | .ok (.tableswitch dflt lo hi offs, _) => match st with
    | .inl x :: st => match ex_sw lo hi dflt offs x with
      | some off => ex_go pc off ls st w c s
      | none => none
    | _ => none
  | .ok (.getfield i, 3) => match ex_fr y i, st with
    | some (ci, k, _, _), .inr q :: st => match ex_gf w q ci k with
      | some v => ex_nx (pc + 3) ls (v :: st) w c s
      | none => none
    | _, _ => none
  | .ok (.putfield i, 3) => match ex_fr y i, st with
    | some (ci, k, fk, fin), v :: .inr q :: st => if ex_fits fk v = true ∧ (fin = false ∨ (ex_ini y = true ∧ ex_cix y = ci)) then match ex_pf w q ci k v with
        | some w2 => ex_nx (pc + 3) ls st w2 c s
        | none => none
      else none
    | _, _ => none
  | .ok (.iaload, 1) => match st with
    | .inl i :: .inr q :: st => match ex_rd S w false q i with
      | some x => ex_nx (pc + 1) ls (.inl x :: st) w c s
      | none => none
    | _ => none
  | .ok (.baload, 1) => match st with
    | .inl i :: .inr q :: st => match ex_rd S w true q i with
      | some x => ex_nx (pc + 1) ls (.inl x :: st) w c s
      | none => none
    | _ => none
  | .ok (.iastore, 1) => match st with
    | .inl x :: .inl i :: .inr q :: st => match ex_wt w false q i x with
      | some w2 => ex_nx (pc + 1) ls st w2 c s
      | none => none
    | _ => none
  | .ok (.bastore, 1) => match st with
    | .inl x :: .inl i :: .inr q :: st => match ex_wt w true q i (vp_nar .boolean x) with
      | some w2 => ex_nx (pc + 1) ls st w2 c s
      | none => none
    | _ => none
  | .ok (.aaload, 1) => match st with
    | .inl i :: .inr q :: st => match ex_rq w q i with
      | some x => ex_nx (pc + 1) ls (.inr x :: st) w c s
      | none => none
    | _ => none
  | .ok (.aastore, 1) => match st with
    | .inr x :: .inl i :: .inr q :: st => match ex_wq w q i x with
      | some w2 => ex_nx (pc + 1) ls st w2 c s
      | none => none
    | _ => none
  | .ok (.arraylength, 1) => match st with
    | .inr q :: st => match ex_len S w q with
      | some x => ex_nx (pc + 1) ls (.inl x :: st) w c s
      | none => none
    | _ => none
  | .ok (.newarray .int, 2) => match st with
    | .inl n :: st => if ¬ n < 0 ∧ n.toNatClampNeg ≤ 1000 ∧ c + 1 ≤ ex_mc y ∧ s + n.toNatClampNeg ≤ ex_ms y then ex_nx (pc + 2) ls (.inr (w.length + 2) :: st) (w ++ [.inl (false, n.toNatClampNeg, fun _ => 0)]) (c + 1) (s + n.toNatClampNeg) else none
    | _ => none
  | .ok (.newarray .boolean, 2) => match st with
    | .inl n :: st => if ¬ n < 0 ∧ n.toNatClampNeg ≤ 1000 ∧ c + 1 ≤ ex_mc y ∧ s + n.toNatClampNeg ≤ ex_ms y then ex_nx (pc + 2) ls (.inr (w.length + 2) :: st) (w ++ [.inl (true, n.toNatClampNeg, fun _ => 0)]) (c + 1) (s + n.toNatClampNeg) else none
    | _ => none
  | .ok (.anewarray i, 3) => match st with
    | .inl n :: st => if ex_ar y i = true ∧ ¬ n < 0 ∧ n.toNatClampNeg ≤ 1000 ∧ c + 1 ≤ ex_mc y ∧ s + n.toNatClampNeg ≤ ex_ms y then ex_nx (pc + 3) ls (.inr (w.length + 2) :: st) (w ++ [.inr (.inl (n.toNatClampNeg, fun _ => 0))]) (c + 1) (s + n.toNatClampNeg) else none
    | _ => none
  | .ok (.new i, 3) => match ex_nr y i with
    | some ci => if c + 1 ≤ ex_mc y ∧ s + (ex_da ci).length ≤ ex_ms y then ex_nx (pc + 3) ls (.inr (w.length + 2) :: st) (w ++ [.inr (.inr (ci, ex_da ci))]) (c + 1) (s + (ex_da ci).length) else none
    | none => none
  | .ok (.invokestatic i, 3) => match ex_mr y i with
    | some (y2, 0) => if ex_np y2 ≤ st.length ∧ ex_cok y y2 c s (st.drop (ex_np y2)).length = true then some (.inr (.inr ((y2, (st.take (ex_np y2)).reverse), st.drop (ex_np y2)))) else none
    | some (_, 3) => match st with
      | .inl b :: .inl a :: st => if 1 ≤ ex_lev y ∧ st.length ≤ 8 ∧ ex_rok y c s = true then ex_nx (pc + 3) ls (.inl (if a < b then b else a) :: st) w c s else none
      | _ => none
    | some (_, 4) => match st with
      | .inl b :: .inl a :: st => if 1 ≤ ex_lev y ∧ st.length ≤ 8 ∧ ex_rok y c s = true then ex_nx (pc + 3) ls (.inl (if b < a then b else a) :: st) w c s else none
      | _ => none
    | _ => none
  | .ok (.invokevirtual i, 3) => match ex_mr y i with
    | some (y2, 1) => match st.drop (ex_np y2) with
      | .inr q :: rest => if ex_obj w q (ex_cix y2) = true ∧ ex_cok y y2 c s rest.length = true then some (.inr (.inr ((y2, .inr q :: (st.take (ex_np y2)).reverse), rest))) else none
      | _ => none
    | _ => none
  | .ok (.invokespecial i, 3) => match ex_mr y i with
    | some (y2, 2) => match st.drop (ex_np y2) with
      | .inr q :: rest => if ex_obj w q (ex_cix y2) = true ∧ ex_cok y y2 c s rest.length = true then some (.inr (.inr ((y2, .inr q :: (st.take (ex_np y2)).reverse), rest))) else none
      | _ => none
    | some (_, 5) => match st with
      | .inr (_ + 2) :: rest => if 1 ≤ ex_lev y ∧ rest.length ≤ 8 then ex_nx (pc + 3) ls rest w c s else none
      | _ => none
    | _ => none
  | .ok (.ireturn, 1) => match st with
    | [.inl x] => if ex_rok y c s = true ∧ (ex_rty y = some .int ∨ (ex_rty y = some .boolean ∧ (x = 0 ∨ x = 1))) then some (.inl (some x, w)) else none
    | _ => none
  | .ok (.return_, 1) => match st with
    | [] => if ex_rok y c s = true ∧ ex_rty y = none then some (.inl (none, w)) else none
    | _ => none
  | _ => none
def ex_rl (r : Option Int32) : List ex_V := match r with
  | some x => [.inl x]
  | none => []
def ex_pad (y : Nat) (as : List ex_V) : List ex_V := as ++ List.replicate (ex_mxl y - as.length) (.inr 0)
def ex_run (S : ex_S) : Nat → Nat → Nat → List ex_V → List ex_V → ex_W → Nat → Nat → Option ex_R
  | 0, _, _, _, _, _, _, _ => none
  | n + 1, y, pc, ls, st, w, c, s => match ex_dec S y pc ls st w c s with
    | some (.inl r) => some r
    | some (.inr (.inl F)) => ex_run S n y F.1 F.2.1 F.2.2.1 F.2.2.2.1 F.2.2.2.2.1 F.2.2.2.2.2
    | some (.inr (.inr q)) => match ex_run S n q.1.1 0 (ex_pad q.1.1 q.1.2) [] w 0 0 with
      | some r => ex_run S n y (pc + 3) ls (ex_rl r.1 ++ q.2) r.2 (c + ex_mc q.1.1) (s + ex_ms q.1.1)
      | none => none
    | none => none
