/-! the world of one cache and one reference: scalars sc, arrays ar, 2 * C = N -/
def mk_L : Nat → Nat := ex_upq (ex_upq (ex_upq (ex_upq (fun _ => 0) 0 11) 1 13) 2 15) 3 17
def mk_W (N : Nat) (sc : Nat → Int32) (ar : Nat → Nat → Int32) : ex_W := [.inr (.inr (0, [.inl (sc 0), .inr 3, .inr 4, .inr 5, .inr 8, .inr 11, .inr 13, .inr 15, .inr 17, .inr 19, .inl (sc 1), .inl (sc 2), .inl (sc 3), .inl (sc 4)])), .inl (false, 16, ar 0), .inl (false, N, ar 1), .inr (.inr (1, [.inr 6, .inr 7])), .inl (false, N, ar 2), .inl (false, N, ar 3), .inr (.inr (1, [.inr 9, .inr 10])), .inl (false, N, ar 4), .inl (false, N, ar 5), .inr (.inr (2, [.inr 12, .inl (sc 5)])), .inl (false, 16, ar 6), .inr (.inr (2, [.inr 14, .inl (sc 6)])), .inl (false, 16, ar 7), .inr (.inr (2, [.inr 16, .inl (sc 7)])), .inl (false, 16, ar 8), .inr (.inr (2, [.inr 18, .inl (sc 8)])), .inl (false, 16, ar 9), .inr (.inl (4, mk_L)), .inr (.inr (3, [.inl (sc 9), .inr 21, .inr 22, .inr 23, .inr 24, .inr 25, .inr 26, .inr 27, .inl (sc 10), .inl (sc 11), .inl (sc 12), .inl (sc 13), .inl (sc 14), .inr 28, .inr 29, .inr 30])), .inl (false, 16, ar 10), .inl (false, 14, ar 11), .inl (false, 16, ar 12), .inl (true, 16, ar 13), .inl (false, 16, ar 14), .inl (false, 16, ar 15), .inl (false, 16, ar 16), .inl (false, 16, ar 17), .inl (true, 16, ar 18), .inl (false, 16, ar 19)]
theorem wo_0 {N : Nat} {sc : Nat → Int32} {ar : Nat → Nat → Int32} : ex_obj (mk_W N sc ar) 2 0 = true := of_eq_true (eq_true rfl)
theorem wg_0_0 {N : Nat} {sc : Nat → Int32} {ar : Nat → Nat → Int32} : ex_gf (mk_W N sc ar) 2 0 0 = some (.inl (sc 0)) := rfl
theorem wg_0_1 {N : Nat} {sc : Nat → Int32} {ar : Nat → Nat → Int32} : ex_gf (mk_W N sc ar) 2 0 1 = some (.inr 3) := rfl
theorem wg_0_2 {N : Nat} {sc : Nat → Int32} {ar : Nat → Nat → Int32} : ex_gf (mk_W N sc ar) 2 0 2 = some (.inr 4) := rfl
theorem wg_0_3 {N : Nat} {sc : Nat → Int32} {ar : Nat → Nat → Int32} : ex_gf (mk_W N sc ar) 2 0 3 = some (.inr 5) := rfl
theorem wg_0_4 {N : Nat} {sc : Nat → Int32} {ar : Nat → Nat → Int32} : ex_gf (mk_W N sc ar) 2 0 4 = some (.inr 8) := rfl
theorem wg_0_5 {N : Nat} {sc : Nat → Int32} {ar : Nat → Nat → Int32} : ex_gf (mk_W N sc ar) 2 0 5 = some (.inr 11) := rfl
theorem wg_0_6 {N : Nat} {sc : Nat → Int32} {ar : Nat → Nat → Int32} : ex_gf (mk_W N sc ar) 2 0 6 = some (.inr 13) := rfl
theorem wg_0_7 {N : Nat} {sc : Nat → Int32} {ar : Nat → Nat → Int32} : ex_gf (mk_W N sc ar) 2 0 7 = some (.inr 15) := rfl
theorem wg_0_8 {N : Nat} {sc : Nat → Int32} {ar : Nat → Nat → Int32} : ex_gf (mk_W N sc ar) 2 0 8 = some (.inr 17) := rfl
theorem wg_0_9 {N : Nat} {sc : Nat → Int32} {ar : Nat → Nat → Int32} : ex_gf (mk_W N sc ar) 2 0 9 = some (.inr 19) := rfl
theorem wg_0_10 {N : Nat} {sc : Nat → Int32} {ar : Nat → Nat → Int32} : ex_gf (mk_W N sc ar) 2 0 10 = some (.inl (sc 1)) := rfl
theorem wp_0_10 {N : Nat} {sc : Nat → Int32} {ar : Nat → Nat → Int32} {x : Int32} : ex_pf (mk_W N sc ar) 2 0 10 (.inl x) = some (mk_W N (upd sc 1 x) ar) := rfl
theorem wg_0_11 {N : Nat} {sc : Nat → Int32} {ar : Nat → Nat → Int32} : ex_gf (mk_W N sc ar) 2 0 11 = some (.inl (sc 2)) := rfl
theorem wp_0_11 {N : Nat} {sc : Nat → Int32} {ar : Nat → Nat → Int32} {x : Int32} : ex_pf (mk_W N sc ar) 2 0 11 (.inl x) = some (mk_W N (upd sc 2 x) ar) := rfl
theorem wg_0_12 {N : Nat} {sc : Nat → Int32} {ar : Nat → Nat → Int32} : ex_gf (mk_W N sc ar) 2 0 12 = some (.inl (sc 3)) := rfl
theorem wp_0_12 {N : Nat} {sc : Nat → Int32} {ar : Nat → Nat → Int32} {x : Int32} : ex_pf (mk_W N sc ar) 2 0 12 (.inl x) = some (mk_W N (upd sc 3 x) ar) := rfl
theorem wg_0_13 {N : Nat} {sc : Nat → Int32} {ar : Nat → Nat → Int32} : ex_gf (mk_W N sc ar) 2 0 13 = some (.inl (sc 4)) := rfl
theorem wp_0_13 {N : Nat} {sc : Nat → Int32} {ar : Nat → Nat → Int32} {x : Int32} : ex_pf (mk_W N sc ar) 2 0 13 (.inl x) = some (mk_W N (upd sc 4 x) ar) := rfl
theorem wo_3 {N : Nat} {sc : Nat → Int32} {ar : Nat → Nat → Int32} : ex_obj (mk_W N sc ar) 5 1 = true := of_eq_true (eq_true rfl)
theorem wg_3_0 {N : Nat} {sc : Nat → Int32} {ar : Nat → Nat → Int32} : ex_gf (mk_W N sc ar) 5 1 0 = some (.inr 6) := rfl
theorem wg_3_1 {N : Nat} {sc : Nat → Int32} {ar : Nat → Nat → Int32} : ex_gf (mk_W N sc ar) 5 1 1 = some (.inr 7) := rfl
theorem wo_6 {N : Nat} {sc : Nat → Int32} {ar : Nat → Nat → Int32} : ex_obj (mk_W N sc ar) 8 1 = true := of_eq_true (eq_true rfl)
theorem wg_6_0 {N : Nat} {sc : Nat → Int32} {ar : Nat → Nat → Int32} : ex_gf (mk_W N sc ar) 8 1 0 = some (.inr 9) := rfl
theorem wg_6_1 {N : Nat} {sc : Nat → Int32} {ar : Nat → Nat → Int32} : ex_gf (mk_W N sc ar) 8 1 1 = some (.inr 10) := rfl
theorem wo_9 {N : Nat} {sc : Nat → Int32} {ar : Nat → Nat → Int32} : ex_obj (mk_W N sc ar) 11 2 = true := of_eq_true (eq_true rfl)
theorem wg_9_0 {N : Nat} {sc : Nat → Int32} {ar : Nat → Nat → Int32} : ex_gf (mk_W N sc ar) 11 2 0 = some (.inr 12) := rfl
theorem wg_9_1 {N : Nat} {sc : Nat → Int32} {ar : Nat → Nat → Int32} : ex_gf (mk_W N sc ar) 11 2 1 = some (.inl (sc 5)) := rfl
theorem wp_9_1 {N : Nat} {sc : Nat → Int32} {ar : Nat → Nat → Int32} {x : Int32} : ex_pf (mk_W N sc ar) 11 2 1 (.inl x) = some (mk_W N (upd sc 5 x) ar) := rfl
theorem wo_11 {N : Nat} {sc : Nat → Int32} {ar : Nat → Nat → Int32} : ex_obj (mk_W N sc ar) 13 2 = true := of_eq_true (eq_true rfl)
theorem wg_11_0 {N : Nat} {sc : Nat → Int32} {ar : Nat → Nat → Int32} : ex_gf (mk_W N sc ar) 13 2 0 = some (.inr 14) := rfl
theorem wg_11_1 {N : Nat} {sc : Nat → Int32} {ar : Nat → Nat → Int32} : ex_gf (mk_W N sc ar) 13 2 1 = some (.inl (sc 6)) := rfl
theorem wp_11_1 {N : Nat} {sc : Nat → Int32} {ar : Nat → Nat → Int32} {x : Int32} : ex_pf (mk_W N sc ar) 13 2 1 (.inl x) = some (mk_W N (upd sc 6 x) ar) := rfl
theorem wo_13 {N : Nat} {sc : Nat → Int32} {ar : Nat → Nat → Int32} : ex_obj (mk_W N sc ar) 15 2 = true := of_eq_true (eq_true rfl)
theorem wg_13_0 {N : Nat} {sc : Nat → Int32} {ar : Nat → Nat → Int32} : ex_gf (mk_W N sc ar) 15 2 0 = some (.inr 16) := rfl
theorem wg_13_1 {N : Nat} {sc : Nat → Int32} {ar : Nat → Nat → Int32} : ex_gf (mk_W N sc ar) 15 2 1 = some (.inl (sc 7)) := rfl
theorem wp_13_1 {N : Nat} {sc : Nat → Int32} {ar : Nat → Nat → Int32} {x : Int32} : ex_pf (mk_W N sc ar) 15 2 1 (.inl x) = some (mk_W N (upd sc 7 x) ar) := rfl
theorem wo_15 {N : Nat} {sc : Nat → Int32} {ar : Nat → Nat → Int32} : ex_obj (mk_W N sc ar) 17 2 = true := of_eq_true (eq_true rfl)
theorem wg_15_0 {N : Nat} {sc : Nat → Int32} {ar : Nat → Nat → Int32} : ex_gf (mk_W N sc ar) 17 2 0 = some (.inr 18) := rfl
theorem wg_15_1 {N : Nat} {sc : Nat → Int32} {ar : Nat → Nat → Int32} : ex_gf (mk_W N sc ar) 17 2 1 = some (.inl (sc 8)) := rfl
theorem wp_15_1 {N : Nat} {sc : Nat → Int32} {ar : Nat → Nat → Int32} {x : Int32} : ex_pf (mk_W N sc ar) 17 2 1 (.inl x) = some (mk_W N (upd sc 8 x) ar) := rfl
theorem wo_18 {N : Nat} {sc : Nat → Int32} {ar : Nat → Nat → Int32} : ex_obj (mk_W N sc ar) 20 3 = true := of_eq_true (eq_true rfl)
theorem wg_18_0 {N : Nat} {sc : Nat → Int32} {ar : Nat → Nat → Int32} : ex_gf (mk_W N sc ar) 20 3 0 = some (.inl (sc 9)) := rfl
theorem wg_18_1 {N : Nat} {sc : Nat → Int32} {ar : Nat → Nat → Int32} : ex_gf (mk_W N sc ar) 20 3 1 = some (.inr 21) := rfl
theorem wg_18_2 {N : Nat} {sc : Nat → Int32} {ar : Nat → Nat → Int32} : ex_gf (mk_W N sc ar) 20 3 2 = some (.inr 22) := rfl
theorem wg_18_3 {N : Nat} {sc : Nat → Int32} {ar : Nat → Nat → Int32} : ex_gf (mk_W N sc ar) 20 3 3 = some (.inr 23) := rfl
theorem wg_18_4 {N : Nat} {sc : Nat → Int32} {ar : Nat → Nat → Int32} : ex_gf (mk_W N sc ar) 20 3 4 = some (.inr 24) := rfl
theorem wg_18_5 {N : Nat} {sc : Nat → Int32} {ar : Nat → Nat → Int32} : ex_gf (mk_W N sc ar) 20 3 5 = some (.inr 25) := rfl
theorem wg_18_6 {N : Nat} {sc : Nat → Int32} {ar : Nat → Nat → Int32} : ex_gf (mk_W N sc ar) 20 3 6 = some (.inr 26) := rfl
theorem wg_18_7 {N : Nat} {sc : Nat → Int32} {ar : Nat → Nat → Int32} : ex_gf (mk_W N sc ar) 20 3 7 = some (.inr 27) := rfl
theorem wg_18_8 {N : Nat} {sc : Nat → Int32} {ar : Nat → Nat → Int32} : ex_gf (mk_W N sc ar) 20 3 8 = some (.inl (sc 10)) := rfl
theorem wp_18_8 {N : Nat} {sc : Nat → Int32} {ar : Nat → Nat → Int32} {x : Int32} : ex_pf (mk_W N sc ar) 20 3 8 (.inl x) = some (mk_W N (upd sc 10 x) ar) := rfl
theorem wg_18_9 {N : Nat} {sc : Nat → Int32} {ar : Nat → Nat → Int32} : ex_gf (mk_W N sc ar) 20 3 9 = some (.inl (sc 11)) := rfl
theorem wp_18_9 {N : Nat} {sc : Nat → Int32} {ar : Nat → Nat → Int32} {x : Int32} : ex_pf (mk_W N sc ar) 20 3 9 (.inl x) = some (mk_W N (upd sc 11 x) ar) := rfl
theorem wg_18_10 {N : Nat} {sc : Nat → Int32} {ar : Nat → Nat → Int32} : ex_gf (mk_W N sc ar) 20 3 10 = some (.inl (sc 12)) := rfl
theorem wp_18_10 {N : Nat} {sc : Nat → Int32} {ar : Nat → Nat → Int32} {x : Int32} : ex_pf (mk_W N sc ar) 20 3 10 (.inl x) = some (mk_W N (upd sc 12 x) ar) := rfl
theorem wg_18_11 {N : Nat} {sc : Nat → Int32} {ar : Nat → Nat → Int32} : ex_gf (mk_W N sc ar) 20 3 11 = some (.inl (sc 13)) := rfl
theorem wp_18_11 {N : Nat} {sc : Nat → Int32} {ar : Nat → Nat → Int32} {x : Int32} : ex_pf (mk_W N sc ar) 20 3 11 (.inl x) = some (mk_W N (upd sc 13 x) ar) := rfl
theorem wg_18_12 {N : Nat} {sc : Nat → Int32} {ar : Nat → Nat → Int32} : ex_gf (mk_W N sc ar) 20 3 12 = some (.inl (sc 14)) := rfl
theorem wp_18_12 {N : Nat} {sc : Nat → Int32} {ar : Nat → Nat → Int32} {x : Int32} : ex_pf (mk_W N sc ar) 20 3 12 (.inl x) = some (mk_W N (upd sc 14 x) ar) := rfl
theorem wg_18_13 {N : Nat} {sc : Nat → Int32} {ar : Nat → Nat → Int32} : ex_gf (mk_W N sc ar) 20 3 13 = some (.inr 28) := rfl
theorem wg_18_14 {N : Nat} {sc : Nat → Int32} {ar : Nat → Nat → Int32} : ex_gf (mk_W N sc ar) 20 3 14 = some (.inr 29) := rfl
theorem wg_18_15 {N : Nat} {sc : Nat → Int32} {ar : Nat → Nat → Int32} : ex_gf (mk_W N sc ar) 20 3 15 = some (.inr 30) := rfl
theorem w_in {k n : Nat} (hk : k < n) (hn : n ≤ 16) : ¬ (nI k < 0 ∨ n ≤ (nI k).toNatClampNeg) := nI_in hk (by omega)
theorem w_cl {k n : Nat} (hk : k < n) (hn : n ≤ 16) : (nI k).toNatClampNeg = k := nI_clamp (by omega)
theorem ex_rd_at {S : ex_S} {w : ex_W} {z : Bool} {p0 n k : Nat} {f : Nat → Int32} (h : w[p0]? = some (.inl (z, n, f))) (hk : k < n) (hn : n ≤ 16) : ex_rd S w z (p0 + 2) (nI k) = some (f k) := by
  simp only [ex_rd, h]
  rw [if_pos ⟨trivial, w_in hk hn⟩, w_cl hk hn]
theorem ex_wt_at {w : ex_W} {z : Bool} {p0 n k : Nat} {f : Nat → Int32} {x : Int32} (h : w[p0]? = some (.inl (z, n, f))) (hk : k < n) (hn : n ≤ 16) : ex_wt w z (p0 + 2) (nI k) x = some (w.set p0 (.inl (z, n, upd f k x))) := by
  simp only [ex_wt, h]
  rw [if_pos ⟨trivial, w_in hk hn⟩, w_cl hk hn]
theorem wr_1 {S : ex_S} {N : Nat} {sc : Nat → Int32} {ar : Nat → Nat → Int32} {k : Nat} (hk : k < 16) : ex_rd S (mk_W N sc ar) false 3 (nI k) = some (ar 0 k) := ex_rd_at (p0 := 1) rfl hk (by omega)
theorem ww_1 {N : Nat} {sc : Nat → Int32} {ar : Nat → Nat → Int32} {k : Nat} {x : Int32} (hk : k < 16) : ex_wt (mk_W N sc ar) false 3 (nI k) x = some (mk_W N sc (x_up ar 0 (upd (ar 0) k x))) := ex_wt_at (p0 := 1) rfl hk (by omega)
theorem wl_1 {S : ex_S} {N : Nat} {sc : Nat → Int32} {ar : Nat → Nat → Int32} : ex_len S (mk_W N sc ar) 3 = some (nI 16) := rfl
theorem wr_2 {S : ex_S} {N : Nat} {sc : Nat → Int32} {ar : Nat → Nat → Int32} {k : Nat} (hk : k < N) (hN : N ≤ 14) : ex_rd S (mk_W N sc ar) false 4 (nI k) = some (ar 1 k) := ex_rd_at (p0 := 2) rfl hk (by omega)
theorem ww_2 {N : Nat} {sc : Nat → Int32} {ar : Nat → Nat → Int32} {k : Nat} {x : Int32} (hk : k < N) (hN : N ≤ 14) : ex_wt (mk_W N sc ar) false 4 (nI k) x = some (mk_W N sc (x_up ar 1 (upd (ar 1) k x))) := ex_wt_at (p0 := 2) rfl hk (by omega)
theorem wl_2 {S : ex_S} {N : Nat} {sc : Nat → Int32} {ar : Nat → Nat → Int32} : ex_len S (mk_W N sc ar) 4 = some (nI N) := rfl
theorem wr_4 {S : ex_S} {N : Nat} {sc : Nat → Int32} {ar : Nat → Nat → Int32} {k : Nat} (hk : k < N) (hN : N ≤ 14) : ex_rd S (mk_W N sc ar) false 6 (nI k) = some (ar 2 k) := ex_rd_at (p0 := 4) rfl hk (by omega)
theorem ww_4 {N : Nat} {sc : Nat → Int32} {ar : Nat → Nat → Int32} {k : Nat} {x : Int32} (hk : k < N) (hN : N ≤ 14) : ex_wt (mk_W N sc ar) false 6 (nI k) x = some (mk_W N sc (x_up ar 2 (upd (ar 2) k x))) := ex_wt_at (p0 := 4) rfl hk (by omega)
theorem wl_4 {S : ex_S} {N : Nat} {sc : Nat → Int32} {ar : Nat → Nat → Int32} : ex_len S (mk_W N sc ar) 6 = some (nI N) := rfl
theorem wr_5 {S : ex_S} {N : Nat} {sc : Nat → Int32} {ar : Nat → Nat → Int32} {k : Nat} (hk : k < N) (hN : N ≤ 14) : ex_rd S (mk_W N sc ar) false 7 (nI k) = some (ar 3 k) := ex_rd_at (p0 := 5) rfl hk (by omega)
theorem ww_5 {N : Nat} {sc : Nat → Int32} {ar : Nat → Nat → Int32} {k : Nat} {x : Int32} (hk : k < N) (hN : N ≤ 14) : ex_wt (mk_W N sc ar) false 7 (nI k) x = some (mk_W N sc (x_up ar 3 (upd (ar 3) k x))) := ex_wt_at (p0 := 5) rfl hk (by omega)
theorem wl_5 {S : ex_S} {N : Nat} {sc : Nat → Int32} {ar : Nat → Nat → Int32} : ex_len S (mk_W N sc ar) 7 = some (nI N) := rfl
theorem wr_7 {S : ex_S} {N : Nat} {sc : Nat → Int32} {ar : Nat → Nat → Int32} {k : Nat} (hk : k < N) (hN : N ≤ 14) : ex_rd S (mk_W N sc ar) false 9 (nI k) = some (ar 4 k) := ex_rd_at (p0 := 7) rfl hk (by omega)
theorem ww_7 {N : Nat} {sc : Nat → Int32} {ar : Nat → Nat → Int32} {k : Nat} {x : Int32} (hk : k < N) (hN : N ≤ 14) : ex_wt (mk_W N sc ar) false 9 (nI k) x = some (mk_W N sc (x_up ar 4 (upd (ar 4) k x))) := ex_wt_at (p0 := 7) rfl hk (by omega)
theorem wl_7 {S : ex_S} {N : Nat} {sc : Nat → Int32} {ar : Nat → Nat → Int32} : ex_len S (mk_W N sc ar) 9 = some (nI N) := rfl
theorem wr_8 {S : ex_S} {N : Nat} {sc : Nat → Int32} {ar : Nat → Nat → Int32} {k : Nat} (hk : k < N) (hN : N ≤ 14) : ex_rd S (mk_W N sc ar) false 10 (nI k) = some (ar 5 k) := ex_rd_at (p0 := 8) rfl hk (by omega)
theorem ww_8 {N : Nat} {sc : Nat → Int32} {ar : Nat → Nat → Int32} {k : Nat} {x : Int32} (hk : k < N) (hN : N ≤ 14) : ex_wt (mk_W N sc ar) false 10 (nI k) x = some (mk_W N sc (x_up ar 5 (upd (ar 5) k x))) := ex_wt_at (p0 := 8) rfl hk (by omega)
theorem wl_8 {S : ex_S} {N : Nat} {sc : Nat → Int32} {ar : Nat → Nat → Int32} : ex_len S (mk_W N sc ar) 10 = some (nI N) := rfl
theorem wr_10 {S : ex_S} {N : Nat} {sc : Nat → Int32} {ar : Nat → Nat → Int32} {k : Nat} (hk : k < 16) : ex_rd S (mk_W N sc ar) false 12 (nI k) = some (ar 6 k) := ex_rd_at (p0 := 10) rfl hk (by omega)
theorem ww_10 {N : Nat} {sc : Nat → Int32} {ar : Nat → Nat → Int32} {k : Nat} {x : Int32} (hk : k < 16) : ex_wt (mk_W N sc ar) false 12 (nI k) x = some (mk_W N sc (x_up ar 6 (upd (ar 6) k x))) := ex_wt_at (p0 := 10) rfl hk (by omega)
theorem wl_10 {S : ex_S} {N : Nat} {sc : Nat → Int32} {ar : Nat → Nat → Int32} : ex_len S (mk_W N sc ar) 12 = some (nI 16) := rfl
theorem wr_12 {S : ex_S} {N : Nat} {sc : Nat → Int32} {ar : Nat → Nat → Int32} {k : Nat} (hk : k < 16) : ex_rd S (mk_W N sc ar) false 14 (nI k) = some (ar 7 k) := ex_rd_at (p0 := 12) rfl hk (by omega)
theorem ww_12 {N : Nat} {sc : Nat → Int32} {ar : Nat → Nat → Int32} {k : Nat} {x : Int32} (hk : k < 16) : ex_wt (mk_W N sc ar) false 14 (nI k) x = some (mk_W N sc (x_up ar 7 (upd (ar 7) k x))) := ex_wt_at (p0 := 12) rfl hk (by omega)
theorem wl_12 {S : ex_S} {N : Nat} {sc : Nat → Int32} {ar : Nat → Nat → Int32} : ex_len S (mk_W N sc ar) 14 = some (nI 16) := rfl
theorem wr_14 {S : ex_S} {N : Nat} {sc : Nat → Int32} {ar : Nat → Nat → Int32} {k : Nat} (hk : k < 16) : ex_rd S (mk_W N sc ar) false 16 (nI k) = some (ar 8 k) := ex_rd_at (p0 := 14) rfl hk (by omega)
theorem ww_14 {N : Nat} {sc : Nat → Int32} {ar : Nat → Nat → Int32} {k : Nat} {x : Int32} (hk : k < 16) : ex_wt (mk_W N sc ar) false 16 (nI k) x = some (mk_W N sc (x_up ar 8 (upd (ar 8) k x))) := ex_wt_at (p0 := 14) rfl hk (by omega)
theorem wl_14 {S : ex_S} {N : Nat} {sc : Nat → Int32} {ar : Nat → Nat → Int32} : ex_len S (mk_W N sc ar) 16 = some (nI 16) := rfl
theorem wr_16 {S : ex_S} {N : Nat} {sc : Nat → Int32} {ar : Nat → Nat → Int32} {k : Nat} (hk : k < 16) : ex_rd S (mk_W N sc ar) false 18 (nI k) = some (ar 9 k) := ex_rd_at (p0 := 16) rfl hk (by omega)
theorem ww_16 {N : Nat} {sc : Nat → Int32} {ar : Nat → Nat → Int32} {k : Nat} {x : Int32} (hk : k < 16) : ex_wt (mk_W N sc ar) false 18 (nI k) x = some (mk_W N sc (x_up ar 9 (upd (ar 9) k x))) := ex_wt_at (p0 := 16) rfl hk (by omega)
theorem wl_16 {S : ex_S} {N : Nat} {sc : Nat → Int32} {ar : Nat → Nat → Int32} : ex_len S (mk_W N sc ar) 18 = some (nI 16) := rfl
theorem wr_19 {S : ex_S} {N : Nat} {sc : Nat → Int32} {ar : Nat → Nat → Int32} {k : Nat} (hk : k < 16) : ex_rd S (mk_W N sc ar) false 21 (nI k) = some (ar 10 k) := ex_rd_at (p0 := 19) rfl hk (by omega)
theorem ww_19 {N : Nat} {sc : Nat → Int32} {ar : Nat → Nat → Int32} {k : Nat} {x : Int32} (hk : k < 16) : ex_wt (mk_W N sc ar) false 21 (nI k) x = some (mk_W N sc (x_up ar 10 (upd (ar 10) k x))) := ex_wt_at (p0 := 19) rfl hk (by omega)
theorem wl_19 {S : ex_S} {N : Nat} {sc : Nat → Int32} {ar : Nat → Nat → Int32} : ex_len S (mk_W N sc ar) 21 = some (nI 16) := rfl
theorem wr_20 {S : ex_S} {N : Nat} {sc : Nat → Int32} {ar : Nat → Nat → Int32} {k : Nat} (hk : k < 14) : ex_rd S (mk_W N sc ar) false 22 (nI k) = some (ar 11 k) := ex_rd_at (p0 := 20) rfl hk (by omega)
theorem ww_20 {N : Nat} {sc : Nat → Int32} {ar : Nat → Nat → Int32} {k : Nat} {x : Int32} (hk : k < 14) : ex_wt (mk_W N sc ar) false 22 (nI k) x = some (mk_W N sc (x_up ar 11 (upd (ar 11) k x))) := ex_wt_at (p0 := 20) rfl hk (by omega)
theorem wl_20 {S : ex_S} {N : Nat} {sc : Nat → Int32} {ar : Nat → Nat → Int32} : ex_len S (mk_W N sc ar) 22 = some (nI 14) := rfl
theorem wr_21 {S : ex_S} {N : Nat} {sc : Nat → Int32} {ar : Nat → Nat → Int32} {k : Nat} (hk : k < 16) : ex_rd S (mk_W N sc ar) false 23 (nI k) = some (ar 12 k) := ex_rd_at (p0 := 21) rfl hk (by omega)
theorem ww_21 {N : Nat} {sc : Nat → Int32} {ar : Nat → Nat → Int32} {k : Nat} {x : Int32} (hk : k < 16) : ex_wt (mk_W N sc ar) false 23 (nI k) x = some (mk_W N sc (x_up ar 12 (upd (ar 12) k x))) := ex_wt_at (p0 := 21) rfl hk (by omega)
theorem wl_21 {S : ex_S} {N : Nat} {sc : Nat → Int32} {ar : Nat → Nat → Int32} : ex_len S (mk_W N sc ar) 23 = some (nI 16) := rfl
theorem wr_22 {S : ex_S} {N : Nat} {sc : Nat → Int32} {ar : Nat → Nat → Int32} {k : Nat} (hk : k < 16) : ex_rd S (mk_W N sc ar) true 24 (nI k) = some (ar 13 k) := ex_rd_at (p0 := 22) rfl hk (by omega)
theorem ww_22 {N : Nat} {sc : Nat → Int32} {ar : Nat → Nat → Int32} {k : Nat} {x : Int32} (hk : k < 16) : ex_wt (mk_W N sc ar) true 24 (nI k) x = some (mk_W N sc (x_up ar 13 (upd (ar 13) k x))) := ex_wt_at (p0 := 22) rfl hk (by omega)
theorem wl_22 {S : ex_S} {N : Nat} {sc : Nat → Int32} {ar : Nat → Nat → Int32} : ex_len S (mk_W N sc ar) 24 = some (nI 16) := rfl
theorem wr_23 {S : ex_S} {N : Nat} {sc : Nat → Int32} {ar : Nat → Nat → Int32} {k : Nat} (hk : k < 16) : ex_rd S (mk_W N sc ar) false 25 (nI k) = some (ar 14 k) := ex_rd_at (p0 := 23) rfl hk (by omega)
theorem ww_23 {N : Nat} {sc : Nat → Int32} {ar : Nat → Nat → Int32} {k : Nat} {x : Int32} (hk : k < 16) : ex_wt (mk_W N sc ar) false 25 (nI k) x = some (mk_W N sc (x_up ar 14 (upd (ar 14) k x))) := ex_wt_at (p0 := 23) rfl hk (by omega)
theorem wl_23 {S : ex_S} {N : Nat} {sc : Nat → Int32} {ar : Nat → Nat → Int32} : ex_len S (mk_W N sc ar) 25 = some (nI 16) := rfl
theorem wr_24 {S : ex_S} {N : Nat} {sc : Nat → Int32} {ar : Nat → Nat → Int32} {k : Nat} (hk : k < 16) : ex_rd S (mk_W N sc ar) false 26 (nI k) = some (ar 15 k) := ex_rd_at (p0 := 24) rfl hk (by omega)
theorem ww_24 {N : Nat} {sc : Nat → Int32} {ar : Nat → Nat → Int32} {k : Nat} {x : Int32} (hk : k < 16) : ex_wt (mk_W N sc ar) false 26 (nI k) x = some (mk_W N sc (x_up ar 15 (upd (ar 15) k x))) := ex_wt_at (p0 := 24) rfl hk (by omega)
theorem wl_24 {S : ex_S} {N : Nat} {sc : Nat → Int32} {ar : Nat → Nat → Int32} : ex_len S (mk_W N sc ar) 26 = some (nI 16) := rfl
theorem wr_25 {S : ex_S} {N : Nat} {sc : Nat → Int32} {ar : Nat → Nat → Int32} {k : Nat} (hk : k < 16) : ex_rd S (mk_W N sc ar) false 27 (nI k) = some (ar 16 k) := ex_rd_at (p0 := 25) rfl hk (by omega)
theorem ww_25 {N : Nat} {sc : Nat → Int32} {ar : Nat → Nat → Int32} {k : Nat} {x : Int32} (hk : k < 16) : ex_wt (mk_W N sc ar) false 27 (nI k) x = some (mk_W N sc (x_up ar 16 (upd (ar 16) k x))) := ex_wt_at (p0 := 25) rfl hk (by omega)
theorem wl_25 {S : ex_S} {N : Nat} {sc : Nat → Int32} {ar : Nat → Nat → Int32} : ex_len S (mk_W N sc ar) 27 = some (nI 16) := rfl
theorem wr_26 {S : ex_S} {N : Nat} {sc : Nat → Int32} {ar : Nat → Nat → Int32} {k : Nat} (hk : k < 16) : ex_rd S (mk_W N sc ar) false 28 (nI k) = some (ar 17 k) := ex_rd_at (p0 := 26) rfl hk (by omega)
theorem ww_26 {N : Nat} {sc : Nat → Int32} {ar : Nat → Nat → Int32} {k : Nat} {x : Int32} (hk : k < 16) : ex_wt (mk_W N sc ar) false 28 (nI k) x = some (mk_W N sc (x_up ar 17 (upd (ar 17) k x))) := ex_wt_at (p0 := 26) rfl hk (by omega)
theorem wl_26 {S : ex_S} {N : Nat} {sc : Nat → Int32} {ar : Nat → Nat → Int32} : ex_len S (mk_W N sc ar) 28 = some (nI 16) := rfl
theorem wr_27 {S : ex_S} {N : Nat} {sc : Nat → Int32} {ar : Nat → Nat → Int32} {k : Nat} (hk : k < 16) : ex_rd S (mk_W N sc ar) true 29 (nI k) = some (ar 18 k) := ex_rd_at (p0 := 27) rfl hk (by omega)
theorem ww_27 {N : Nat} {sc : Nat → Int32} {ar : Nat → Nat → Int32} {k : Nat} {x : Int32} (hk : k < 16) : ex_wt (mk_W N sc ar) true 29 (nI k) x = some (mk_W N sc (x_up ar 18 (upd (ar 18) k x))) := ex_wt_at (p0 := 27) rfl hk (by omega)
theorem wl_27 {S : ex_S} {N : Nat} {sc : Nat → Int32} {ar : Nat → Nat → Int32} : ex_len S (mk_W N sc ar) 29 = some (nI 16) := rfl
theorem wr_28 {S : ex_S} {N : Nat} {sc : Nat → Int32} {ar : Nat → Nat → Int32} {k : Nat} (hk : k < 16) : ex_rd S (mk_W N sc ar) false 30 (nI k) = some (ar 19 k) := ex_rd_at (p0 := 28) rfl hk (by omega)
theorem ww_28 {N : Nat} {sc : Nat → Int32} {ar : Nat → Nat → Int32} {k : Nat} {x : Int32} (hk : k < 16) : ex_wt (mk_W N sc ar) false 30 (nI k) x = some (mk_W N sc (x_up ar 19 (upd (ar 19) k x))) := ex_wt_at (p0 := 28) rfl hk (by omega)
theorem wl_28 {S : ex_S} {N : Nat} {sc : Nat → Int32} {ar : Nat → Nat → Int32} : ex_len S (mk_W N sc ar) 30 = some (nI 16) := rfl
theorem wl_17 {S : ex_S} {N : Nat} {sc : Nat → Int32} {ar : Nat → Nat → Int32} : ex_len S (mk_W N sc ar) 19 = some (nI 4) := rfl
theorem wq_0 {N : Nat} {sc : Nat → Int32} {ar : Nat → Nat → Int32} : ex_rq (mk_W N sc ar) 19 (nI 0) = some 11 := rfl
theorem wq_1 {N : Nat} {sc : Nat → Int32} {ar : Nat → Nat → Int32} : ex_rq (mk_W N sc ar) 19 (nI 1) = some 13 := rfl
theorem wq_2 {N : Nat} {sc : Nat → Int32} {ar : Nat → Nat → Int32} : ex_rq (mk_W N sc ar) 19 (nI 2) = some 15 := rfl
theorem wq_3 {N : Nat} {sc : Nat → Int32} {ar : Nat → Nat → Int32} : ex_rq (mk_W N sc ar) 19 (nI 3) = some 17 := rfl
theorem bl_ob {N : Nat} {sc : Nat → Int32} {ar : Nat → Nat → Int32} {i : Nat} (hi : i < 4) : ex_obj (mk_W N sc ar) (2 * i + 11) 2 = true := by
  match i, hi with
  | 0, _ => rfl
  | 1, _ => rfl
  | 2, _ => rfl
  | 3, _ => rfl
theorem bl_g0 {N : Nat} {sc : Nat → Int32} {ar : Nat → Nat → Int32} {i : Nat} (hi : i < 4) : ex_gf (mk_W N sc ar) (2 * i + 11) 2 0 = some (.inr (2 * i + 12)) := by
  match i, hi with
  | 0, _ => rfl
  | 1, _ => rfl
  | 2, _ => rfl
  | 3, _ => rfl
theorem bl_g1 {N : Nat} {sc : Nat → Int32} {ar : Nat → Nat → Int32} {i : Nat} (hi : i < 4) : ex_gf (mk_W N sc ar) (2 * i + 11) 2 1 = some (.inl (sc (i + 5))) := by
  match i, hi with
  | 0, _ => rfl
  | 1, _ => rfl
  | 2, _ => rfl
  | 3, _ => rfl
theorem bl_p1 {N : Nat} {sc : Nat → Int32} {ar : Nat → Nat → Int32} {i : Nat} (hi : i < 4) {x : Int32} : ex_pf (mk_W N sc ar) (2 * i + 11) 2 1 (.inl x) = some (mk_W N (upd sc (i + 5) x) ar) := by
  match i, hi with
  | 0, _ => rfl
  | 1, _ => rfl
  | 2, _ => rfl
  | 3, _ => rfl
theorem bl_rd {S : ex_S} {N : Nat} {sc : Nat → Int32} {ar : Nat → Nat → Int32} {i k : Nat} (hi : i < 4) (hk : k < 16) : ex_rd S (mk_W N sc ar) false (2 * i + 12) (nI k) = some (ar (i + 6) k) := by
  match i, hi with
  | 0, _ => exact wr_10 hk
  | 1, _ => exact wr_12 hk
  | 2, _ => exact wr_14 hk
  | 3, _ => exact wr_16 hk
theorem bl_wt {N : Nat} {sc : Nat → Int32} {ar : Nat → Nat → Int32} {i k : Nat} {x : Int32} (hi : i < 4) (hk : k < 16) : ex_wt (mk_W N sc ar) false (2 * i + 12) (nI k) x = some (mk_W N sc (x_up ar (i + 6) (upd (ar (i + 6)) k x))) := by
  match i, hi with
  | 0, _ => exact ww_10 hk
  | 1, _ => exact ww_12 hk
  | 2, _ => exact ww_14 hk
  | 3, _ => exact ww_16 hk
theorem bl_rq {N : Nat} {sc : Nat → Int32} {ar : Nat → Nat → Int32} {i : Nat} (hi : i < 4) : ex_rq (mk_W N sc ar) 19 (nI i) = some (2 * i + 11) := by
  match i, hi with
  | 0, _ => rfl
  | 1, _ => rfl
  | 2, _ => rfl
  | 3, _ => rfl
theorem pl_ob {N : Nat} {sc : Nat → Int32} {ar : Nat → Nat → Int32} {h : Nat} (hh : h < 2) : ex_obj (mk_W N sc ar) (3 * h + 5) 1 = true := by
  match h, hh with
  | 0, _ => rfl
  | 1, _ => rfl
theorem pl_g0 {N : Nat} {sc : Nat → Int32} {ar : Nat → Nat → Int32} {h : Nat} (hh : h < 2) : ex_gf (mk_W N sc ar) (3 * h + 5) 1 0 = some (.inr (3 * h + 6)) := by
  match h, hh with
  | 0, _ => rfl
  | 1, _ => rfl
theorem pl_g1 {N : Nat} {sc : Nat → Int32} {ar : Nat → Nat → Int32} {h : Nat} (hh : h < 2) : ex_gf (mk_W N sc ar) (3 * h + 5) 1 1 = some (.inr (3 * h + 7)) := by
  match h, hh with
  | 0, _ => rfl
  | 1, _ => rfl
theorem pl_r0 {S : ex_S} {N : Nat} {sc : Nat → Int32} {ar : Nat → Nat → Int32} {h k : Nat} (hh : h < 2) (hk : k < N) (hN : N ≤ 14) : ex_rd S (mk_W N sc ar) false (3 * h + 6) (nI k) = some (ar (2 * h + 2) k) := by
  match h, hh with
  | 0, _ => exact wr_4 hk hN
  | 1, _ => exact wr_7 hk hN
theorem pl_r1 {S : ex_S} {N : Nat} {sc : Nat → Int32} {ar : Nat → Nat → Int32} {h k : Nat} (hh : h < 2) (hk : k < N) (hN : N ≤ 14) : ex_rd S (mk_W N sc ar) false (3 * h + 7) (nI k) = some (ar (2 * h + 3) k) := by
  match h, hh with
  | 0, _ => exact wr_5 hk hN
  | 1, _ => exact wr_8 hk hN
theorem pl_w0 {N : Nat} {sc : Nat → Int32} {ar : Nat → Nat → Int32} {h k : Nat} {x : Int32} (hh : h < 2) (hk : k < N) (hN : N ≤ 14) : ex_wt (mk_W N sc ar) false (3 * h + 6) (nI k) x = some (mk_W N sc (x_up ar (2 * h + 2) (upd (ar (2 * h + 2)) k x))) := by
  match h, hh with
  | 0, _ => exact ww_4 hk hN
  | 1, _ => exact ww_7 hk hN
theorem pl_w1 {N : Nat} {sc : Nat → Int32} {ar : Nat → Nat → Int32} {h k : Nat} {x : Int32} (hh : h < 2) (hk : k < N) (hN : N ≤ 14) : ex_wt (mk_W N sc ar) false (3 * h + 7) (nI k) x = some (mk_W N sc (x_up ar (2 * h + 3) (upd (ar (2 * h + 3)) k x))) := by
  match h, hh with
  | 0, _ => exact ww_5 hk hN
  | 1, _ => exact ww_8 hk hN
theorem pl_l0 {S : ex_S} {N : Nat} {sc : Nat → Int32} {ar : Nat → Nat → Int32} {h : Nat} (hh : h < 2) : ex_len S (mk_W N sc ar) (3 * h + 6) = some (nI N) := by
  match h, hh with
  | 0, _ => rfl
  | 1, _ => rfl
theorem rk_0 : ex_rok 0 0 0 = true := by decide +kernel
theorem rk_1 : ex_rok 1 0 0 = true := by decide +kernel
theorem rk_2 : ex_rok 2 0 0 = true := by decide +kernel
theorem rk_3 : ex_rok 3 0 0 = true := by decide +kernel
theorem rk_4 : ex_rok 4 0 0 = true := by decide +kernel
theorem rk_5 : ex_rok 5 0 0 = true := by decide +kernel
theorem rk_6 : ex_rok 6 0 0 = true := by decide +kernel
theorem rk_7 : ex_rok 7 0 0 = true := by decide +kernel
theorem rk_8 : ex_rok 8 0 0 = true := by decide +kernel
theorem rk_9 : ex_rok 9 0 0 = true := by decide +kernel
theorem rk_10 : ex_rok 10 0 0 = true := by decide +kernel
theorem rk_11 : ex_rok 11 0 0 = true := by decide +kernel
theorem rk_12 : ex_rok 12 0 0 = true := by decide +kernel
theorem rk_13 : ex_rok 13 0 0 = true := by decide +kernel
theorem rk_14 : ex_rok 14 0 0 = true := by decide +kernel
theorem rk_15 : ex_rok 15 0 0 = true := by decide +kernel
theorem rk_16 : ex_rok 16 0 0 = true := by decide +kernel
theorem rk_17 : ex_rok 17 0 0 = true := by decide +kernel
theorem rk_18 : ex_rok 18 0 0 = true := by decide +kernel
theorem rk_19 : ex_rok 19 0 0 = true := by decide +kernel
theorem rk_20 : ex_rok 20 0 0 = true := by decide +kernel
theorem rk_21 : ex_rok 21 0 0 = true := by decide +kernel
theorem rk_22 : ex_rok 22 0 0 = true := by decide +kernel
theorem rk_23 : ex_rok 23 0 0 = true := by decide +kernel
theorem rk_24 : ex_rok 24 0 0 = true := by decide +kernel
theorem rk_25 : ex_rok 25 0 0 = true := by decide +kernel
theorem rk_26 : ex_rok 26 0 0 = true := by decide +kernel
theorem rk_27 : ex_rok 27 0 0 = true := by decide +kernel
theorem rk_28 : ex_rok 28 0 0 = true := by decide +kernel
theorem rk_29 : ex_rok 29 0 0 = true := by decide +kernel
theorem rk_30 : ex_rok 30 0 0 = true := by decide +kernel
theorem rk_31 : ex_rok 31 0 0 = true := by decide +kernel
theorem rk_32 : ex_rok 32 0 0 = true := by decide +kernel
theorem rk_33 : ex_rok 33 0 0 = true := by decide +kernel
theorem rk_34 : ex_rok 34 0 0 = true := by decide +kernel
theorem rk_35 : ex_rok 35 0 0 = true := by decide +kernel
theorem rk_36 : ex_rok 36 0 0 = true := by decide +kernel
theorem rk_37 : ex_rok 37 0 0 = true := by decide +kernel
theorem rk_38 : ex_rok 38 0 0 = true := by decide +kernel
theorem rk_39 : ex_rok 39 0 0 = true := by decide +kernel
theorem rk_40 : ex_rok 40 0 0 = true := by decide +kernel
theorem rk_41 : ex_rok 41 0 0 = true := by decide +kernel
theorem rk_42 : ex_rok 42 0 0 = true := by decide +kernel
theorem rk_43 : ex_rok 43 0 0 = true := by decide +kernel
theorem rk_44 : ex_rok 44 0 0 = true := by decide +kernel
theorem rk_45 : ex_rok 45 0 0 = true := by decide +kernel
theorem rk_46 : ex_rok 46 0 0 = true := by decide +kernel
theorem rk_47 : ex_rok 47 0 0 = true := by decide +kernel
theorem rk_48 : ex_rok 48 0 0 = true := by decide +kernel
theorem rk_49 : ex_rok 49 0 0 = true := by decide +kernel
theorem rk_50 : ex_rok 50 0 0 = true := by decide +kernel
theorem rk_51 : ex_rok 51 0 0 = true := by decide +kernel
theorem rk_52 : ex_rok 52 0 0 = true := by decide +kernel
theorem rk_53 : ex_rok 53 0 0 = true := by decide +kernel
theorem rk_54 : ex_rok 54 0 0 = true := by decide +kernel
theorem rk_55 : ex_rok 55 0 0 = true := by decide +kernel
theorem rk_56 : ex_rok 56 0 0 = true := by decide +kernel
theorem rk_57 : ex_rok 57 0 0 = true := by decide +kernel
theorem rk_58 : ex_rok 58 0 0 = true := by decide +kernel
theorem rk_59 : ex_rok 59 0 0 = true := by decide +kernel
theorem rk_60 : ex_rok 60 0 0 = true := by decide +kernel
theorem rk_61 : ex_rok 61 0 0 = true := by decide +kernel
theorem rk_62 : ex_rok 62 0 0 = true := by decide +kernel
theorem rk_63 : ex_rok 63 0 0 = true := by decide +kernel
theorem rk_64 : ex_rok 64 0 0 = true := by decide +kernel
theorem rk_65 : ex_rok 65 0 0 = true := by decide +kernel
theorem rk_66 : ex_rok 66 0 0 = true := by decide +kernel
theorem rk_67 : ex_rok 67 0 0 = true := by decide +kernel
theorem rk_68 : ex_rok 68 0 0 = true := by decide +kernel
theorem rk_69 : ex_rok 69 0 0 = true := by decide +kernel
theorem rk_70 : ex_rok 70 0 0 = true := by decide +kernel
theorem rk_71 : ex_rok 71 0 0 = true := by decide +kernel
theorem rk_72 : ex_rok 72 0 0 = true := by decide +kernel
theorem rk_73 : ex_rok 73 0 0 = true := by decide +kernel
theorem rk_74 : ex_rok 74 0 0 = true := by decide +kernel
theorem rk_75 : ex_rok 75 0 0 = true := by decide +kernel
theorem rk_76 : ex_rok 76 0 0 = true := by decide +kernel
theorem rk_77 : ex_rok 77 0 0 = true := by decide +kernel
theorem rk_78 : ex_rok 78 0 0 = true := by decide +kernel
theorem rk_79 : ex_rok 79 0 0 = true := by decide +kernel
theorem rk_80 : ex_rok 80 0 0 = true := by decide +kernel
theorem rk_81 : ex_rok 81 0 0 = true := by decide +kernel
theorem rk_82 : ex_rok 82 0 0 = true := by decide +kernel
theorem rk_83 : ex_rok 83 0 0 = true := by decide +kernel
theorem rk_84 : ex_rok 84 0 0 = true := by decide +kernel
theorem rk_85 : ex_rok 85 0 0 = true := by decide +kernel
theorem rk_86 : ex_rok 86 0 0 = true := by decide +kernel
theorem rk_87 : ex_rok 87 0 0 = true := by decide +kernel
theorem ck_9_8 : ex_cok 9 8 0 0 0 = true := by decide +kernel
theorem ck_15_33 : ex_cok 15 33 0 0 0 = true := by decide +kernel
theorem ck_15_35 : ex_cok 15 35 0 0 0 = true := by decide +kernel
theorem ck_15_34 : ex_cok 15 34 0 0 0 = true := by decide +kernel
theorem ck_16_33 : ex_cok 16 33 0 0 0 = true := by decide +kernel
theorem ck_16_35 : ex_cok 16 35 0 0 0 = true := by decide +kernel
theorem ck_16_42 : ex_cok 16 42 0 0 0 = true := by decide +kernel
theorem ck_17_46 : ex_cok 17 46 0 0 0 = true := by decide +kernel
theorem ck_18_13 : ex_cok 18 13 0 0 0 = true := by decide +kernel
theorem ck_18_48 : ex_cok 18 48 0 0 0 = true := by decide +kernel
theorem ck_19_47 : ex_cok 19 47 0 0 0 = true := by decide +kernel
theorem ck_19_9 : ex_cok 19 9 0 0 0 = true := by decide +kernel
theorem ck_19_41 : ex_cok 19 41 0 0 0 = true := by decide +kernel
theorem ck_19_10 : ex_cok 19 10 0 0 0 = true := by decide +kernel
theorem ck_20_10 : ex_cok 20 10 0 0 0 = true := by decide +kernel
theorem ck_20_41 : ex_cok 20 41 0 0 0 = true := by decide +kernel
theorem ck_20_4 : ex_cok 20 4 0 0 0 = true := by decide +kernel
theorem ck_20_1 : ex_cok 20 1 0 0 0 = true := by decide +kernel
theorem ck_21_12 : ex_cok 21 12 0 0 0 = true := by decide +kernel
theorem ck_21_9 : ex_cok 21 9 0 0 0 = true := by decide +kernel
theorem ck_21_41 : ex_cok 21 41 0 0 0 = true := by decide +kernel
theorem ck_23_33 : ex_cok 23 33 0 0 0 = true := by decide +kernel
theorem ck_23_34 : ex_cok 23 34 0 0 0 = true := by decide +kernel
theorem ck_24_33 : ex_cok 24 33 0 0 0 = true := by decide +kernel
theorem ck_25_11 : ex_cok 25 11 0 0 0 = true := by decide +kernel
theorem ck_26_11 : ex_cok 26 11 0 0 0 = true := by decide +kernel
theorem ck_27_11 : ex_cok 27 11 0 0 0 = true := by decide +kernel
theorem ck_28_3 : ex_cok 28 3 0 0 0 = true := by decide +kernel
theorem ck_29_2 : ex_cok 29 2 0 0 0 = true := by decide +kernel
theorem ck_31_45 : ex_cok 31 45 0 0 0 = true := by decide +kernel
theorem ck_34_11 : ex_cok 34 11 0 0 0 = true := by decide +kernel
theorem ck_35_3 : ex_cok 35 3 0 0 0 = true := by decide +kernel
theorem ck_35_40 : ex_cok 35 40 0 0 0 = true := by decide +kernel
theorem ck_35_1 : ex_cok 35 1 0 0 0 = true := by decide +kernel
theorem ck_35_36 : ex_cok 35 36 0 0 0 = true := by decide +kernel
theorem ck_35_38 : ex_cok 35 38 0 0 0 = true := by decide +kernel
theorem ck_35_37 : ex_cok 35 37 0 0 0 = true := by decide +kernel
theorem ck_35_42 : ex_cok 35 42 0 0 0 = true := by decide +kernel
theorem ck_37_1 : ex_cok 37 1 0 0 0 = true := by decide +kernel
theorem ck_37_2 : ex_cok 37 2 0 0 0 = true := by decide +kernel
theorem ck_37_5 : ex_cok 37 5 0 0 0 = true := by decide +kernel
theorem ck_37_38 : ex_cok 37 38 0 0 0 = true := by decide +kernel
theorem ck_37_39 : ex_cok 37 39 0 0 0 = true := by decide +kernel
theorem ck_38_1 : ex_cok 38 1 0 0 0 = true := by decide +kernel
theorem ck_38_3 : ex_cok 38 3 0 0 0 = true := by decide +kernel
theorem ck_38_2 : ex_cok 38 2 0 0 0 = true := by decide +kernel
theorem ck_38_39 : ex_cok 38 39 0 0 0 = true := by decide +kernel
theorem ck_38_40 : ex_cok 38 40 0 0 0 = true := by decide +kernel
theorem ck_39_11 : ex_cok 39 11 0 0 0 = true := by decide +kernel
theorem ck_39_46 : ex_cok 39 46 0 0 0 = true := by decide +kernel
theorem ck_39_47 : ex_cok 39 47 0 0 0 = true := by decide +kernel
theorem ck_39_8 : ex_cok 39 8 0 0 0 = true := by decide +kernel
theorem ck_40_5 : ex_cok 40 5 0 0 0 = true := by decide +kernel
theorem ck_40_4 : ex_cok 40 4 0 0 0 = true := by decide +kernel
theorem ck_41_6 : ex_cok 41 6 0 0 0 = true := by decide +kernel
theorem ck_42_43 : ex_cok 42 43 0 0 0 = true := by decide +kernel
theorem ck_42_11 : ex_cok 42 11 0 0 0 = true := by decide +kernel
theorem ck_42_8 : ex_cok 42 8 0 0 0 = true := by decide +kernel
theorem ck_43_44 : ex_cok 43 44 0 0 0 = true := by decide +kernel
theorem ck_43_46 : ex_cok 43 46 0 0 0 = true := by decide +kernel
theorem ck_44_45 : ex_cok 44 45 0 0 0 = true := by decide +kernel
theorem ck_46_10 : ex_cok 46 10 0 0 0 = true := by decide +kernel
theorem ck_47_13 : ex_cok 47 13 0 0 0 = true := by decide +kernel
theorem ck_47_48 : ex_cok 47 48 0 0 0 = true := by decide +kernel
theorem ck_52_51 : ex_cok 52 51 0 0 0 = true := by decide +kernel
theorem ck_54_53 : ex_cok 54 53 0 0 0 = true := by decide +kernel
theorem ck_55_52 : ex_cok 55 52 0 0 0 = true := by decide +kernel
theorem ck_55_54 : ex_cok 55 54 0 0 0 = true := by decide +kernel
theorem ck_58_56 : ex_cok 58 56 0 0 0 = true := by decide +kernel
theorem ck_58_57 : ex_cok 58 57 0 0 0 = true := by decide +kernel
theorem ck_62_61 : ex_cok 62 61 0 0 0 = true := by decide +kernel
theorem ck_62_54 : ex_cok 62 54 0 0 0 = true := by decide +kernel
theorem ck_62_58 : ex_cok 62 58 0 0 0 = true := by decide +kernel
theorem ck_62_59 : ex_cok 62 59 0 0 0 = true := by decide +kernel
theorem ck_63_60 : ex_cok 63 60 0 0 0 = true := by decide +kernel
theorem ck_63_62 : ex_cok 63 62 0 0 0 = true := by decide +kernel
theorem ck_64_60 : ex_cok 64 60 0 0 0 = true := by decide +kernel
theorem ck_64_63 : ex_cok 64 63 0 0 0 = true := by decide +kernel
theorem ck_64_59 : ex_cok 64 59 0 0 0 = true := by decide +kernel
theorem ck_64_61 : ex_cok 64 61 0 0 0 = true := by decide +kernel
theorem ck_64_62 : ex_cok 64 62 0 0 0 = true := by decide +kernel
theorem ck_65_59 : ex_cok 65 59 0 0 0 = true := by decide +kernel
theorem ck_65_64 : ex_cok 65 64 0 0 0 = true := by decide +kernel
theorem ck_65_55 : ex_cok 65 55 0 0 0 = true := by decide +kernel
theorem ck_66_50 : ex_cok 66 50 0 0 0 = true := by decide +kernel
theorem ck_66_65 : ex_cok 66 65 0 0 0 = true := by decide +kernel
theorem ck_67_50 : ex_cok 67 50 0 0 0 = true := by decide +kernel
theorem ck_67_65 : ex_cok 67 65 0 0 0 = true := by decide +kernel
theorem ck_67_55 : ex_cok 67 55 0 0 0 = true := by decide +kernel
theorem ck_68_54 : ex_cok 68 54 0 0 0 = true := by decide +kernel
theorem ck_69_57 : ex_cok 69 57 0 0 0 = true := by decide +kernel
theorem ck_72_56 : ex_cok 72 56 0 0 0 = true := by decide +kernel
theorem ck_72_57 : ex_cok 72 57 0 0 0 = true := by decide +kernel
theorem ck_72_70 : ex_cok 72 70 0 0 0 = true := by decide +kernel
theorem ck_72_53 : ex_cok 72 53 0 0 0 = true := by decide +kernel
theorem ck_73_70 : ex_cok 73 70 0 0 0 = true := by decide +kernel
theorem ck_73_59 : ex_cok 73 59 0 0 0 = true := by decide +kernel
theorem ck_74_71 : ex_cok 74 71 0 0 0 = true := by decide +kernel
theorem ck_74_70 : ex_cok 74 70 0 0 0 = true := by decide +kernel
theorem ck_74_53 : ex_cok 74 53 0 0 0 = true := by decide +kernel
theorem ck_76_50 : ex_cok 76 50 0 0 0 = true := by decide +kernel
theorem ck_77_50 : ex_cok 77 50 0 0 0 = true := by decide +kernel
theorem ck_78_50 : ex_cok 78 50 0 0 0 = true := by decide +kernel
theorem ck_79_50 : ex_cok 79 50 0 0 0 = true := by decide +kernel
theorem ck_80_50 : ex_cok 80 50 0 0 0 = true := by decide +kernel
theorem ck_81_50 : ex_cok 81 50 0 0 0 = true := by decide +kernel
theorem ck_82_61 : ex_cok 82 61 0 0 0 = true := by decide +kernel
theorem ck_84_51 : ex_cok 84 51 0 0 0 = true := by decide +kernel
theorem rl_s {x : Int32} {st : List ex_V} : ex_rl (some x) ++ st = .inl x :: st := rfl
theorem rl_n {st : List ex_V} : ex_rl none ++ st = st := rfl
theorem z01 : (0 : Int32) = 0 ∨ (0 : Int32) = 1 := Or.inl rfl
theorem o01 : (1 : Int32) = 0 ∨ (1 : Int32) = 1 := Or.inr rfl
theorem ft_0 {x : Int32} : ex_fits 0 (.inl x) = true := rfl
theorem ft_10 : ex_fits 1 (.inl 0) = true := rfl
theorem ft_11 : ex_fits 1 (.inl 1) = true := rfl
