/-! Both feeds, and the law's row of feed. -/
theorem zi_sg_le (v : Int64) (j : Nat) : zi_sg v j ≤ j + 8 := by
  unfold zi_sg
  have b1 := zi_av_le (zi_by v 56) j
  have b2 := zi_av_le (zi_by v 48) (zi_av (zi_by v 56) j)
  have b3 := zi_av_le (zi_by v 40) (zi_av (zi_by v 48) (zi_av (zi_by v 56) j))
  have b4 := zi_av_le (zi_by v 32) (zi_av (zi_by v 40) (zi_av (zi_by v 48) (zi_av (zi_by v 56) j)))
  have b5 := zi_av_le (zi_by v 24) (zi_av (zi_by v 32) (zi_av (zi_by v 40) (zi_av (zi_by v 48) (zi_av (zi_by v 56) j))))
  have b6 := zi_av_le (zi_by v 16) (zi_av (zi_by v 24) (zi_av (zi_by v 32) (zi_av (zi_by v 40) (zi_av (zi_by v 48) (zi_av (zi_by v 56) j)))))
  have b7 := zi_av_le (zi_by v 8) (zi_av (zi_by v 16) (zi_av (zi_by v 24) (zi_av (zi_by v 32) (zi_av (zi_by v 40) (zi_av (zi_by v 48) (zi_av (zi_by v 56) j))))))
  have b8 := zi_av_le (zi_by v 0) (zi_av (zi_by v 8) (zi_av (zi_by v 16) (zi_av (zi_by v 24) (zi_av (zi_by v 32) (zi_av (zi_by v 40) (zi_av (zi_by v 48) (zi_av (zi_by v 56) j)))))))
  omega
theorem zi_ret_i (x : Int32) : zi_ret 0 (some .int) [.inl (.int x)] = some (.inr (some (.inl (.int x)))) := by
  unfold zi_ret
  dsimp only
  rw [show zi_rok .int (.inl (.int x)) = true from decide_eq_true (vp_nar_int x)]
  rfl
theorem zi_ev70 {d : Nat} (a b c : Int64) {A : List zi_C} {j : Nat} {fs0 : List zi_V} (h0 : A[0]? = some (.inl (0, fs0))) (h1 : fs0[1]? = some (.inl (.ref 12))) (hj : j + 24 ≤ 1000) (hP : zi_Pq 2 3 2 3 0 5 A j) : ∃ A', zi_ev zi_Ms 100000 (d + 2) 70 [.inl (.ref 10), .inl (.long a), .inl (.long b), .inl (.long c)] A = some (some (.inl (.int (nI (zi_sg c (zi_sg b (zi_sg a j)))))), A', 0, 0) ∧ zi_Kq 2 3 A A' := by
  have s1 := zi_sg_le a j
  have s2 := zi_sg_le b (zi_sg a j)
  obtain ⟨A1, e1, p1, k1⟩ := zi_ev40 (d := d) a (by omega) hP
  obtain ⟨A2, e2, p2, k2⟩ := zi_ev40 (d := d) b (by omega) p1
  obtain ⟨A3, e3, p3, k3⟩ := zi_ev40 (d := d) c (by omega) p2
  have g1 : A1[0]? = some (.inl (0, fs0)) := (k1 0 (by decide) (by decide)).trans h0
  have g2 : A2[0]? = some (.inl (0, fs0)) := (k2 0 (by decide) (by decide)).trans g1
  have g3 : A3[0]? = some (.inl (0, fs0)) := (k3 0 (by decide) (by decide)).trans g2
  obtain ⟨⟨f0, q0, -, -⟩, -⟩ := hP
  obtain ⟨⟨f1, q1, -, -⟩, -⟩ := p1
  obtain ⟨⟨f2, q2, -, -⟩, -⟩ := p2
  obtain ⟨⟨f3, q3, -, w3⟩, -⟩ := p3
  have r : zi_rc (zi_ev zi_Ms 100000 (d + 1)) zi_m70 (0, (0, .inl (.ref 10)) :: (1, .inl (.long a)) :: (3, .inl (.long b)) :: (5, .inl (.long c)) :: [], [], A, 0, 0) (32, (0, .inl (.ref 10)) :: (1, .inl (.long a)) :: (3, .inl (.long b)) :: (5, .inl (.long c)) :: [], [.inl (.int (nI (zi_sg c (zi_sg b (zi_sg a j)))))], A3, 0, 0) 20 := by
    refine zi_rc_c (zi_run_1 (g := (1, (0, .inl (.ref 10)) :: (1, .inl (.long a)) :: (3, .inl (.long b)) :: (5, .inl (.long c)) :: [], [.inl (.ref 10)], A, 0, 0)) rfl (rfl) rfl) ?_
    refine zi_rc_c (zi_run_1 (g := (4, (0, .inl (.ref 10)) :: (1, .inl (.long a)) :: (3, .inl (.long b)) :: (5, .inl (.long c)) :: [], [.inl (.ref 12)], A, 0, 0)) rfl (show zi_get 1 3 ((0, .inl (.ref 10)) :: (1, .inl (.long a)) :: (3, .inl (.long b)) :: (5, .inl (.long c)) :: []) [.inl (.ref 10)] A 0 0 0 1 = some (.inl (4, (0, .inl (.ref 10)) :: (1, .inl (.long a)) :: (3, .inl (.long b)) :: (5, .inl (.long c)) :: [], [.inl (.ref 12)], A, 0, 0)) from zi_get_s rfl h0 h1) rfl) ?_
    refine zi_rc_c (zi_run_1 (g := (5, (0, .inl (.ref 10)) :: (1, .inl (.long a)) :: (3, .inl (.long b)) :: (5, .inl (.long c)) :: [], [.inl (.long a), .inl (.ref 12)], A, 0, 0)) rfl (rfl) rfl) ?_
    refine zi_rc_c (zi_run_1 (g := (8, (0, .inl (.ref 10)) :: (1, .inl (.long a)) :: (3, .inl (.long b)) :: (5, .inl (.long c)) :: [], [], A1, 0, 0)) rfl (zi_ivv rfl (zi_rcv_s rfl q0) (zi_inv_n (c1 := 0) (c2 := 0) rfl e1)) rfl) ?_
    refine zi_rc_c (zi_run_1 (g := (9, (0, .inl (.ref 10)) :: (1, .inl (.long a)) :: (3, .inl (.long b)) :: (5, .inl (.long c)) :: [], [.inl (.ref 10)], A1, 0, 0)) rfl (rfl) rfl) ?_
    refine zi_rc_c (zi_run_1 (g := (12, (0, .inl (.ref 10)) :: (1, .inl (.long a)) :: (3, .inl (.long b)) :: (5, .inl (.long c)) :: [], [.inl (.ref 12)], A1, 0, 0)) rfl (show zi_get 9 3 ((0, .inl (.ref 10)) :: (1, .inl (.long a)) :: (3, .inl (.long b)) :: (5, .inl (.long c)) :: []) [.inl (.ref 10)] A1 0 0 0 1 = some (.inl (12, (0, .inl (.ref 10)) :: (1, .inl (.long a)) :: (3, .inl (.long b)) :: (5, .inl (.long c)) :: [], [.inl (.ref 12)], A1, 0, 0)) from zi_get_s rfl g1 h1) rfl) ?_
    refine zi_rc_c (zi_run_1 (g := (13, (0, .inl (.ref 10)) :: (1, .inl (.long a)) :: (3, .inl (.long b)) :: (5, .inl (.long c)) :: [], [.inl (.long b), .inl (.ref 12)], A1, 0, 0)) rfl (rfl) rfl) ?_
    refine zi_rc_c (zi_run_1 (g := (16, (0, .inl (.ref 10)) :: (1, .inl (.long a)) :: (3, .inl (.long b)) :: (5, .inl (.long c)) :: [], [], A2, 0, 0)) rfl (zi_ivv rfl (zi_rcv_s rfl q1) (zi_inv_n (c1 := 0) (c2 := 0) rfl e2)) rfl) ?_
    refine zi_rc_c (zi_run_1 (g := (17, (0, .inl (.ref 10)) :: (1, .inl (.long a)) :: (3, .inl (.long b)) :: (5, .inl (.long c)) :: [], [.inl (.ref 10)], A2, 0, 0)) rfl (rfl) rfl) ?_
    refine zi_rc_c (zi_run_1 (g := (20, (0, .inl (.ref 10)) :: (1, .inl (.long a)) :: (3, .inl (.long b)) :: (5, .inl (.long c)) :: [], [.inl (.ref 12)], A2, 0, 0)) rfl (show zi_get 17 3 ((0, .inl (.ref 10)) :: (1, .inl (.long a)) :: (3, .inl (.long b)) :: (5, .inl (.long c)) :: []) [.inl (.ref 10)] A2 0 0 0 1 = some (.inl (20, (0, .inl (.ref 10)) :: (1, .inl (.long a)) :: (3, .inl (.long b)) :: (5, .inl (.long c)) :: [], [.inl (.ref 12)], A2, 0, 0)) from zi_get_s rfl g2 h1) rfl) ?_
    refine zi_rc_c (zi_run_1 (g := (22, (0, .inl (.ref 10)) :: (1, .inl (.long a)) :: (3, .inl (.long b)) :: (5, .inl (.long c)) :: [], [.inl (.long c), .inl (.ref 12)], A2, 0, 0)) rfl (rfl) rfl) ?_
    refine zi_rc_c (zi_run_1 (g := (25, (0, .inl (.ref 10)) :: (1, .inl (.long a)) :: (3, .inl (.long b)) :: (5, .inl (.long c)) :: [], [], A3, 0, 0)) rfl (zi_ivv rfl (zi_rcv_s rfl q2) (zi_inv_n (c1 := 0) (c2 := 0) rfl e3)) rfl) ?_
    refine zi_rc_c (zi_run_1 (g := (26, (0, .inl (.ref 10)) :: (1, .inl (.long a)) :: (3, .inl (.long b)) :: (5, .inl (.long c)) :: [], [.inl (.ref 10)], A3, 0, 0)) rfl (rfl) rfl) ?_
    refine zi_rc_c (zi_run_1 (g := (29, (0, .inl (.ref 10)) :: (1, .inl (.long a)) :: (3, .inl (.long b)) :: (5, .inl (.long c)) :: [], [.inl (.ref 12)], A3, 0, 0)) rfl (show zi_get 26 3 ((0, .inl (.ref 10)) :: (1, .inl (.long a)) :: (3, .inl (.long b)) :: (5, .inl (.long c)) :: []) [.inl (.ref 10)] A3 0 0 0 1 = some (.inl (29, (0, .inl (.ref 10)) :: (1, .inl (.long a)) :: (3, .inl (.long b)) :: (5, .inl (.long c)) :: [], [.inl (.ref 12)], A3, 0, 0)) from zi_get_s rfl g3 h1) rfl) ?_
    refine zi_rc_c (zi_run_1 (g := (32, (0, .inl (.ref 10)) :: (1, .inl (.long a)) :: (3, .inl (.long b)) :: (5, .inl (.long c)) :: [], [.inl (.int (nI (zi_sg c (zi_sg b (zi_sg a j)))))], A3, 0, 0)) rfl (show zi_get 29 3 ((0, .inl (.ref 10)) :: (1, .inl (.long a)) :: (3, .inl (.long b)) :: (5, .inl (.long c)) :: []) [.inl (.ref 12)] A3 0 0 2 5 = some (.inl (32, (0, .inl (.ref 10)) :: (1, .inl (.long a)) :: (3, .inl (.long b)) :: (5, .inl (.long c)) :: [], [.inl (.int (nI (zi_sg c (zi_sg b (zi_sg a j)))))], A3, 0, 0)) from zi_get_s rfl q3 w3) rfl) ?_
    exact zi_rc_0
  refine ⟨A3, ?_, zi_Kq_t (zi_Kq_t k1 k2) k3⟩
  show (bif Nat.ble (zi_cats [.inl (.ref 10), .inl (.long a), .inl (.long b), .inl (.long c)]) zi_m70.2.2.1 then zi_loop (zi_ev zi_Ms 100000 (d + 1)) zi_m70 100000 (0, zi_ent 0 [.inl (.ref 10), .inl (.long a), .inl (.long b), .inl (.long c)], [], A, 0, 0) else none) = some (some (.inl (.int (nI (zi_sg c (zi_sg b (zi_sg a j)))))), A3, 0, 0)
  have e9 : zi_loop (zi_ev zi_Ms 100000 (d + 1)) zi_m70 100000 (0, zi_ent 0 [.inl (.ref 10), .inl (.long a), .inl (.long b), .inl (.long c)], [], A, 0, 0) = some (some (.inl (.int (nI (zi_sg c (zi_sg b (zi_sg a j)))))), A3, 0, 0) := zi_rc_end r (zi_loop_e rfl (zi_ret_i _) rfl) (Nat.le_of_ble_eq_true rfl)
  rw [show Nat.ble (zi_cats [.inl (.ref 10), .inl (.long a), .inl (.long b), .inl (.long c)]) zi_m70.2.2.1 = true from rfl, cond_true]
  exact e9
theorem zi_ev81 {d : Nat} (a b c : Int64) {A : List zi_C} {j : Nat} (hj : j + 24 ≤ 1000) (hP : zi_Pq 72 73 11 0 1 2 A j) : ∃ A', zi_ev zi_Ms 100000 (d + 2) 81 [.inl (.ref 82), .inl (.long a), .inl (.long b), .inl (.long c)] A = some (some (.inl (.int (nI (zi_sg c (zi_sg b (zi_sg a j)))))), A', 0, 0) := by
  have s1 := zi_sg_le a j
  have s2 := zi_sg_le b (zi_sg a j)
  obtain ⟨⟨fs, h1, h2, h3⟩, us, h4⟩ := hP
  have l1 : 72 < A.length := (List.getElem?_eq_some_iff.mp h1).1
  have l0 : 0 < fs.length := Nat.lt_of_le_of_lt (Nat.zero_le _) (List.getElem?_eq_some_iff.mp h3).1
  have hP0 : zi_Pq 72 73 11 0 1 2 (A.set 72 (.inl (11, fs.set 0 (.inl (.int (Int32.ofInt 0)))))) j := by
    refine ⟨⟨fs.set 0 (.inl (.int (Int32.ofInt 0))), ?_, ?_, ?_⟩, us, ?_⟩
    · simp [l1]
    · rw [List.getElem?_set_ne (by decide)]; exact h2
    · rw [List.getElem?_set_ne (by decide)]; exact h3
    · rw [List.getElem?_set_ne (by decide)]; exact h4
  obtain ⟨A1, e1, p1, k1⟩ := zi_ev39 (d := d) a (by omega) hP0
  obtain ⟨A2, e2, p2, k2⟩ := zi_ev39 (d := d) b (by omega) p1
  obtain ⟨A3, e3, p3, k3⟩ := zi_ev39 (d := d) c (by omega) p2
  obtain ⟨⟨f0, q0, -, -⟩, -⟩ := hP0
  obtain ⟨⟨f1, q1, -, -⟩, -⟩ := p1
  obtain ⟨⟨f2, q2, -, -⟩, -⟩ := p2
  obtain ⟨⟨f3, q3, -, w3⟩, -⟩ := p3
  have r : zi_rc (zi_ev zi_Ms 100000 (d + 1)) zi_m81 (0, (0, .inl (.ref 82)) :: (1, .inl (.long a)) :: (3, .inl (.long b)) :: (5, .inl (.long c)) :: [], [], A, 0, 0) (25, (0, .inl (.ref 82)) :: (1, .inl (.long a)) :: (3, .inl (.long b)) :: (5, .inl (.long c)) :: [], [.inl (.int (nI (zi_sg c (zi_sg b (zi_sg a j)))))], A3, 0, 0) 20 := by
    refine zi_rc_c (zi_run_1 (g := (1, (0, .inl (.ref 82)) :: (1, .inl (.long a)) :: (3, .inl (.long b)) :: (5, .inl (.long c)) :: [], [.inl (.ref 82)], A, 0, 0)) rfl (rfl) rfl) ?_
    refine zi_rc_c (zi_run_1 (g := (2, (0, .inl (.ref 82)) :: (1, .inl (.long a)) :: (3, .inl (.long b)) :: (5, .inl (.long c)) :: [], [.inl (.int (Int32.ofInt 0)), .inl (.ref 82)], A, 0, 0)) rfl (rfl) rfl) ?_
    refine zi_rc_c (zi_run_1 (g := (5, (0, .inl (.ref 82)) :: (1, .inl (.long a)) :: (3, .inl (.long b)) :: (5, .inl (.long c)) :: [], [], (A.set 72 (.inl (11, fs.set 0 (.inl (.int (Int32.ofInt 0)))))), 0, 0)) rfl (show zi_put 2 3 ((0, .inl (.ref 82)) :: (1, .inl (.long a)) :: (3, .inl (.long b)) :: (5, .inl (.long c)) :: []) [.inl (.int (Int32.ofInt 0)), .inl (.ref 82)] A 0 0 11 0 = some (.inl (5, (0, .inl (.ref 82)) :: (1, .inl (.long a)) :: (3, .inl (.long b)) :: (5, .inl (.long c)) :: [], [], (A.set 72 (.inl (11, fs.set 0 (.inl (.int (Int32.ofInt 0)))))), 0, 0)) from zi_put_s rfl h1 l0 (by decide +kernel)) rfl) ?_
    refine zi_rc_c (zi_run_1 (g := (6, (0, .inl (.ref 82)) :: (1, .inl (.long a)) :: (3, .inl (.long b)) :: (5, .inl (.long c)) :: [], [.inl (.ref 82)], (A.set 72 (.inl (11, fs.set 0 (.inl (.int (Int32.ofInt 0)))))), 0, 0)) rfl (rfl) rfl) ?_
    refine zi_rc_c (zi_run_1 (g := (7, (0, .inl (.ref 82)) :: (1, .inl (.long a)) :: (3, .inl (.long b)) :: (5, .inl (.long c)) :: [], [.inl (.long a), .inl (.ref 82)], (A.set 72 (.inl (11, fs.set 0 (.inl (.int (Int32.ofInt 0)))))), 0, 0)) rfl (rfl) rfl) ?_
    refine zi_rc_c (zi_run_1 (g := (10, (0, .inl (.ref 82)) :: (1, .inl (.long a)) :: (3, .inl (.long b)) :: (5, .inl (.long c)) :: [], [], A1, 0, 0)) rfl (zi_ivv rfl (zi_rcv_s rfl q0) (zi_inv_n (c1 := 0) (c2 := 0) rfl e1)) rfl) ?_
    refine zi_rc_c (zi_run_1 (g := (11, (0, .inl (.ref 82)) :: (1, .inl (.long a)) :: (3, .inl (.long b)) :: (5, .inl (.long c)) :: [], [.inl (.ref 82)], A1, 0, 0)) rfl (rfl) rfl) ?_
    refine zi_rc_c (zi_run_1 (g := (12, (0, .inl (.ref 82)) :: (1, .inl (.long a)) :: (3, .inl (.long b)) :: (5, .inl (.long c)) :: [], [.inl (.long b), .inl (.ref 82)], A1, 0, 0)) rfl (rfl) rfl) ?_
    refine zi_rc_c (zi_run_1 (g := (15, (0, .inl (.ref 82)) :: (1, .inl (.long a)) :: (3, .inl (.long b)) :: (5, .inl (.long c)) :: [], [], A2, 0, 0)) rfl (zi_ivv rfl (zi_rcv_s rfl q1) (zi_inv_n (c1 := 0) (c2 := 0) rfl e2)) rfl) ?_
    refine zi_rc_c (zi_run_1 (g := (16, (0, .inl (.ref 82)) :: (1, .inl (.long a)) :: (3, .inl (.long b)) :: (5, .inl (.long c)) :: [], [.inl (.ref 82)], A2, 0, 0)) rfl (rfl) rfl) ?_
    refine zi_rc_c (zi_run_1 (g := (18, (0, .inl (.ref 82)) :: (1, .inl (.long a)) :: (3, .inl (.long b)) :: (5, .inl (.long c)) :: [], [.inl (.long c), .inl (.ref 82)], A2, 0, 0)) rfl (rfl) rfl) ?_
    refine zi_rc_c (zi_run_1 (g := (21, (0, .inl (.ref 82)) :: (1, .inl (.long a)) :: (3, .inl (.long b)) :: (5, .inl (.long c)) :: [], [], A3, 0, 0)) rfl (zi_ivv rfl (zi_rcv_s rfl q2) (zi_inv_n (c1 := 0) (c2 := 0) rfl e3)) rfl) ?_
    refine zi_rc_c (zi_run_1 (g := (22, (0, .inl (.ref 82)) :: (1, .inl (.long a)) :: (3, .inl (.long b)) :: (5, .inl (.long c)) :: [], [.inl (.ref 82)], A3, 0, 0)) rfl (rfl) rfl) ?_
    refine zi_rc_c (zi_run_1 (g := (25, (0, .inl (.ref 82)) :: (1, .inl (.long a)) :: (3, .inl (.long b)) :: (5, .inl (.long c)) :: [], [.inl (.int (nI (zi_sg c (zi_sg b (zi_sg a j)))))], A3, 0, 0)) rfl (show zi_get 22 3 ((0, .inl (.ref 82)) :: (1, .inl (.long a)) :: (3, .inl (.long b)) :: (5, .inl (.long c)) :: []) [.inl (.ref 82)] A3 0 0 11 2 = some (.inl (25, (0, .inl (.ref 82)) :: (1, .inl (.long a)) :: (3, .inl (.long b)) :: (5, .inl (.long c)) :: [], [.inl (.int (nI (zi_sg c (zi_sg b (zi_sg a j)))))], A3, 0, 0)) from zi_get_s rfl q3 w3) rfl) ?_
    exact zi_rc_0
  refine ⟨A3, ?_⟩
  show (bif Nat.ble (zi_cats [.inl (.ref 82), .inl (.long a), .inl (.long b), .inl (.long c)]) zi_m81.2.2.1 then zi_loop (zi_ev zi_Ms 100000 (d + 1)) zi_m81 100000 (0, zi_ent 0 [.inl (.ref 82), .inl (.long a), .inl (.long b), .inl (.long c)], [], A, 0, 0) else none) = some (some (.inl (.int (nI (zi_sg c (zi_sg b (zi_sg a j)))))), A3, 0, 0)
  have e9 : zi_loop (zi_ev zi_Ms 100000 (d + 1)) zi_m81 100000 (0, zi_ent 0 [.inl (.ref 82), .inl (.long a), .inl (.long b), .inl (.long c)], [], A, 0, 0) = some (some (.inl (.int (nI (zi_sg c (zi_sg b (zi_sg a j)))))), A3, 0, 0) := zi_rc_end r (zi_loop_e rfl (zi_ret_i _) rfl) (Nat.le_of_ble_eq_true rfl)
  rw [show Nat.ble (zi_cats [.inl (.ref 82), .inl (.long a), .inl (.long b), .inl (.long c)]) zi_m81.2.2.1 = true from rfl, cond_true]
  exact e9
theorem zi_fin_c {sl : List zi_V} {n : Nat} {f g : zi_F} (h : zi_run zi_call sl zi_mlaw 1 f = some g) (h2 : zi_fin sl n g = true) : zi_fin sl (n + 1) f = true := by
  unfold zi_fin at h2 ⊢
  split at h2
  · rename_i x hx
    rw [zi_run_tr 1 n h hx]
    exact h2
  · cases h2
theorem zi_lb_1 : zi_lb zi_vb [.inl (.int (Int32.ofInt 1))] [.inl (.int 1)] = true := by decide +kernel
theorem zi_fin_0 {sl : List zi_V} {al : List (Nat × zi_V)} {A : List zi_C} : zi_fin sl 0 (1433, al, [.inl (.int (Int32.ofInt 1))], A, 100, 177797) = true := by
  show (Nat.beq 1433 1433 && zi_lb zi_vb [.inl (.int (Int32.ofInt 1))] [.inl (.int 1)] && Nat.ble 100 600002 && Nat.ble 177797 7302232) = true
  rw [zi_lb_1]
  rfl
/-- a long out of two ints of the script -/
def zi_lg (x y : Int32) : Int64 := (x.toInt64 <<< ((Int8.ofInt 32).toInt32.toInt64 &&& 63)) ||| (y.toInt64 &&& Int64.ofNat 4294967295)
theorem zi_ix : (zi_in (0 + Int32.ofInt 1) 7 && zi_in (0 + Int32.ofInt 2) 7 && zi_in (0 + Int32.ofInt 3) 7 && zi_in (0 + Int32.ofInt 4) 7 && zi_in (0 + Int32.ofInt 5) 7 && zi_in (0 + (Int8.ofInt 6).toInt32) 7) = true := by decide +kernel
theorem zi_i1t : zi_in (0 + Int32.ofInt 1) 7 = true ∧ (0 + Int32.ofInt 1 : Int32).toNatClampNeg = 1 := by decide +kernel
theorem zi_i2t : zi_in (0 + Int32.ofInt 2) 7 = true ∧ (0 + Int32.ofInt 2 : Int32).toNatClampNeg = 2 := by decide +kernel
theorem zi_i3t : zi_in (0 + Int32.ofInt 3) 7 = true ∧ (0 + Int32.ofInt 3 : Int32).toNatClampNeg = 3 := by decide +kernel
theorem zi_i4t : zi_in (0 + Int32.ofInt 4) 7 = true ∧ (0 + Int32.ofInt 4 : Int32).toNatClampNeg = 4 := by decide +kernel
theorem zi_i5t : zi_in (0 + Int32.ofInt 5) 7 = true ∧ (0 + Int32.ofInt 5 : Int32).toNatClampNeg = 5 := by decide +kernel
theorem zi_i6t : zi_in (0 + (Int8.ofInt 6).toInt32) 7 = true ∧ (0 + (Int8.ofInt 6).toInt32 : Int32).toNatClampNeg = 6 := by decide +kernel
theorem zi_P0c : zi_Pq 2 3 2 3 0 5 zi_A0 0 := by
  refine ⟨⟨_, rfl, rfl, ?_⟩, _, rfl⟩
  rw [nI_0]
  rfl
theorem zi_P0m : zi_Pq 72 73 11 0 1 2 zi_A0 0 := by
  refine ⟨⟨_, rfl, rfl, ?_⟩, _, rfl⟩
  rw [nI_0]
  rfl
theorem zi_o0 (x0 x1 x2 x3 x4 x5 x6 : Int32) : zi_fin [.inl (.int x0), .inl (.int x1), .inl (.int x2), .inl (.int x3), .inl (.int x4), .inl (.int x5), .inl (.int x6)] 116 (188, zi_al0, [], zi_A0, 100, 177797) = true := by
  obtain ⟨fs0, c0, d0⟩ : ∃ fs0 : List zi_V, zi_A0[0]? = some (.inl (0, fs0)) ∧ fs0[1]? = some (.inl (.ref 12)) := ⟨_, rfl, rfl⟩
  obtain ⟨A1, e1, k1⟩ := zi_ev70 (d := 38) (zi_lg x1 x2) (zi_lg x3 x4) (zi_lg x5 x6) c0 d0 (by decide) zi_P0c
  have p1 : zi_Pq 72 73 11 0 1 2 A1 0 := by
    obtain ⟨⟨fs, h1, h2, h3⟩, us, h4⟩ := zi_P0m
    exact ⟨⟨fs, (k1 72 (by decide) (by decide)).trans h1, h2, h3⟩, us, (k1 73 (by decide) (by decide)).trans h4⟩
  obtain ⟨A2, e2⟩ := zi_ev81 (d := 38) (zi_lg x1 x2) (zi_lg x3 x4) (zi_lg x5 x6) (by decide) p1
  obtain ⟨⟨fs2, c2, -, -⟩, -⟩ := p1
  generalize zi_sg (zi_lg x5 x6) (zi_sg (zi_lg x3 x4) (zi_sg (zi_lg x1 x2) 0)) = n at e1 e2
  refine zi_fin_c (zi_run_1 (g := (189, zi_al0, [.inl (.ref 10)], zi_A0, 100, 177797)) rfl (rfl) rfl) ?_
  refine zi_fin_c (zi_run_1 (g := (190, zi_al0, [.inl (.ref 8), .inl (.ref 10)], zi_A0, 100, 177797)) rfl (rfl) rfl) ?_
  refine zi_fin_c (zi_run_1 (g := (192, zi_al0, [.inl (.int 0), .inl (.ref 8), .inl (.ref 10)], zi_A0, 100, 177797)) rfl (rfl) rfl) ?_
  refine zi_fin_c (zi_run_1 (g := (193, zi_al0, [.inl (.int (Int32.ofInt 1)), .inl (.int 0), .inl (.ref 8), .inl (.ref 10)], zi_A0, 100, 177797)) rfl (rfl) rfl) ?_
  refine zi_fin_c (zi_run_1 (g := (194, zi_al0, [.inl (.int (0 + (Int32.ofInt 1))), .inl (.ref 8), .inl (.ref 10)], zi_A0, 100, 177797)) rfl (rfl) rfl) ?_
  refine zi_fin_c (zi_run_1 (g := (195, zi_al0, [.inl (.int x1), .inl (.ref 10)], zi_A0, 100, 177797)) rfl (show zi_ald 0 [.inl (.int x0), .inl (.int x1), .inl (.int x2), .inl (.int x3), .inl (.int x4), .inl (.int x5), .inl (.int x6)] 194 1 zi_al0 [.inl (.int (0 + (Int32.ofInt 1))), .inl (.ref 8), .inl (.ref 10)] zi_A0 100 177797 = some (.inl (195, zi_al0, [.inl (.int x1), .inl (.ref 10)], zi_A0, 100, 177797)) from zi_ald_s zi_i1t.1 zi_i1t.2 rfl) rfl) ?_
  refine zi_fin_c (zi_run_1 (g := (196, zi_al0, [.inl (.long x1.toInt64), .inl (.ref 10)], zi_A0, 100, 177797)) rfl (rfl) rfl) ?_
  refine zi_fin_c (zi_run_1 (g := (198, zi_al0, [.inl (.int (Int8.ofInt 32).toInt32), .inl (.long x1.toInt64), .inl (.ref 10)], zi_A0, 100, 177797)) rfl (rfl) rfl) ?_
  refine zi_fin_c (zi_run_1 (g := (199, zi_al0, [.inl (.long (x1.toInt64 <<< ((Int8.ofInt 32).toInt32.toInt64 &&& 63))), .inl (.ref 10)], zi_A0, 100, 177797)) rfl (rfl) rfl) ?_
  refine zi_fin_c (zi_run_1 (g := (200, zi_al0, [.inl (.ref 8), .inl (.long (x1.toInt64 <<< ((Int8.ofInt 32).toInt32.toInt64 &&& 63))), .inl (.ref 10)], zi_A0, 100, 177797)) rfl (rfl) rfl) ?_
  refine zi_fin_c (zi_run_1 (g := (202, zi_al0, [.inl (.int 0), .inl (.ref 8), .inl (.long (x1.toInt64 <<< ((Int8.ofInt 32).toInt32.toInt64 &&& 63))), .inl (.ref 10)], zi_A0, 100, 177797)) rfl (rfl) rfl) ?_
  refine zi_fin_c (zi_run_1 (g := (203, zi_al0, [.inl (.int (Int32.ofInt 2)), .inl (.int 0), .inl (.ref 8), .inl (.long (x1.toInt64 <<< ((Int8.ofInt 32).toInt32.toInt64 &&& 63))), .inl (.ref 10)], zi_A0, 100, 177797)) rfl (rfl) rfl) ?_
  refine zi_fin_c (zi_run_1 (g := (204, zi_al0, [.inl (.int (0 + (Int32.ofInt 2))), .inl (.ref 8), .inl (.long (x1.toInt64 <<< ((Int8.ofInt 32).toInt32.toInt64 &&& 63))), .inl (.ref 10)], zi_A0, 100, 177797)) rfl (rfl) rfl) ?_
  refine zi_fin_c (zi_run_1 (g := (205, zi_al0, [.inl (.int x2), .inl (.long (x1.toInt64 <<< ((Int8.ofInt 32).toInt32.toInt64 &&& 63))), .inl (.ref 10)], zi_A0, 100, 177797)) rfl (show zi_ald 0 [.inl (.int x0), .inl (.int x1), .inl (.int x2), .inl (.int x3), .inl (.int x4), .inl (.int x5), .inl (.int x6)] 204 1 zi_al0 [.inl (.int (0 + (Int32.ofInt 2))), .inl (.ref 8), .inl (.long (x1.toInt64 <<< ((Int8.ofInt 32).toInt32.toInt64 &&& 63))), .inl (.ref 10)] zi_A0 100 177797 = some (.inl (205, zi_al0, [.inl (.int x2), .inl (.long (x1.toInt64 <<< ((Int8.ofInt 32).toInt32.toInt64 &&& 63))), .inl (.ref 10)], zi_A0, 100, 177797)) from zi_ald_s zi_i2t.1 zi_i2t.2 rfl) rfl) ?_
  refine zi_fin_c (zi_run_1 (g := (206, zi_al0, [.inl (.long x2.toInt64), .inl (.long (x1.toInt64 <<< ((Int8.ofInt 32).toInt32.toInt64 &&& 63))), .inl (.ref 10)], zi_A0, 100, 177797)) rfl (rfl) rfl) ?_
  refine zi_fin_c (zi_run_1 (g := (209, zi_al0, [.inl (.long (Int64.ofNat 4294967295)), .inl (.long x2.toInt64), .inl (.long (x1.toInt64 <<< ((Int8.ofInt 32).toInt32.toInt64 &&& 63))), .inl (.ref 10)], zi_A0, 100, 177797)) rfl (rfl) rfl) ?_
  refine zi_fin_c (zi_run_1 (g := (210, zi_al0, [.inl (.long (x2.toInt64 &&& Int64.ofNat 4294967295)), .inl (.long (x1.toInt64 <<< ((Int8.ofInt 32).toInt32.toInt64 &&& 63))), .inl (.ref 10)], zi_A0, 100, 177797)) rfl (rfl) rfl) ?_
  refine zi_fin_c (zi_run_1 (g := (211, zi_al0, [.inl (.long (zi_lg x1 x2)), .inl (.ref 10)], zi_A0, 100, 177797)) rfl (rfl) rfl) ?_
  refine zi_fin_c (zi_run_1 (g := (212, zi_al0, [.inl (.ref 8), .inl (.long (zi_lg x1 x2)), .inl (.ref 10)], zi_A0, 100, 177797)) rfl (rfl) rfl) ?_
  refine zi_fin_c (zi_run_1 (g := (214, zi_al0, [.inl (.int 0), .inl (.ref 8), .inl (.long (zi_lg x1 x2)), .inl (.ref 10)], zi_A0, 100, 177797)) rfl (rfl) rfl) ?_
  refine zi_fin_c (zi_run_1 (g := (215, zi_al0, [.inl (.int (Int32.ofInt 3)), .inl (.int 0), .inl (.ref 8), .inl (.long (zi_lg x1 x2)), .inl (.ref 10)], zi_A0, 100, 177797)) rfl (rfl) rfl) ?_
  refine zi_fin_c (zi_run_1 (g := (216, zi_al0, [.inl (.int (0 + (Int32.ofInt 3))), .inl (.ref 8), .inl (.long (zi_lg x1 x2)), .inl (.ref 10)], zi_A0, 100, 177797)) rfl (rfl) rfl) ?_
  refine zi_fin_c (zi_run_1 (g := (217, zi_al0, [.inl (.int x3), .inl (.long (zi_lg x1 x2)), .inl (.ref 10)], zi_A0, 100, 177797)) rfl (show zi_ald 0 [.inl (.int x0), .inl (.int x1), .inl (.int x2), .inl (.int x3), .inl (.int x4), .inl (.int x5), .inl (.int x6)] 216 1 zi_al0 [.inl (.int (0 + (Int32.ofInt 3))), .inl (.ref 8), .inl (.long (zi_lg x1 x2)), .inl (.ref 10)] zi_A0 100 177797 = some (.inl (217, zi_al0, [.inl (.int x3), .inl (.long (zi_lg x1 x2)), .inl (.ref 10)], zi_A0, 100, 177797)) from zi_ald_s zi_i3t.1 zi_i3t.2 rfl) rfl) ?_
  refine zi_fin_c (zi_run_1 (g := (218, zi_al0, [.inl (.long x3.toInt64), .inl (.long (zi_lg x1 x2)), .inl (.ref 10)], zi_A0, 100, 177797)) rfl (rfl) rfl) ?_
  refine zi_fin_c (zi_run_1 (g := (220, zi_al0, [.inl (.int (Int8.ofInt 32).toInt32), .inl (.long x3.toInt64), .inl (.long (zi_lg x1 x2)), .inl (.ref 10)], zi_A0, 100, 177797)) rfl (rfl) rfl) ?_
  refine zi_fin_c (zi_run_1 (g := (221, zi_al0, [.inl (.long (x3.toInt64 <<< ((Int8.ofInt 32).toInt32.toInt64 &&& 63))), .inl (.long (zi_lg x1 x2)), .inl (.ref 10)], zi_A0, 100, 177797)) rfl (rfl) rfl) ?_
  refine zi_fin_c (zi_run_1 (g := (222, zi_al0, [.inl (.ref 8), .inl (.long (x3.toInt64 <<< ((Int8.ofInt 32).toInt32.toInt64 &&& 63))), .inl (.long (zi_lg x1 x2)), .inl (.ref 10)], zi_A0, 100, 177797)) rfl (rfl) rfl) ?_
  refine zi_fin_c (zi_run_1 (g := (224, zi_al0, [.inl (.int 0), .inl (.ref 8), .inl (.long (x3.toInt64 <<< ((Int8.ofInt 32).toInt32.toInt64 &&& 63))), .inl (.long (zi_lg x1 x2)), .inl (.ref 10)], zi_A0, 100, 177797)) rfl (rfl) rfl) ?_
  refine zi_fin_c (zi_run_1 (g := (225, zi_al0, [.inl (.int (Int32.ofInt 4)), .inl (.int 0), .inl (.ref 8), .inl (.long (x3.toInt64 <<< ((Int8.ofInt 32).toInt32.toInt64 &&& 63))), .inl (.long (zi_lg x1 x2)), .inl (.ref 10)], zi_A0, 100, 177797)) rfl (rfl) rfl) ?_
  refine zi_fin_c (zi_run_1 (g := (226, zi_al0, [.inl (.int (0 + (Int32.ofInt 4))), .inl (.ref 8), .inl (.long (x3.toInt64 <<< ((Int8.ofInt 32).toInt32.toInt64 &&& 63))), .inl (.long (zi_lg x1 x2)), .inl (.ref 10)], zi_A0, 100, 177797)) rfl (rfl) rfl) ?_
  refine zi_fin_c (zi_run_1 (g := (227, zi_al0, [.inl (.int x4), .inl (.long (x3.toInt64 <<< ((Int8.ofInt 32).toInt32.toInt64 &&& 63))), .inl (.long (zi_lg x1 x2)), .inl (.ref 10)], zi_A0, 100, 177797)) rfl (show zi_ald 0 [.inl (.int x0), .inl (.int x1), .inl (.int x2), .inl (.int x3), .inl (.int x4), .inl (.int x5), .inl (.int x6)] 226 1 zi_al0 [.inl (.int (0 + (Int32.ofInt 4))), .inl (.ref 8), .inl (.long (x3.toInt64 <<< ((Int8.ofInt 32).toInt32.toInt64 &&& 63))), .inl (.long (zi_lg x1 x2)), .inl (.ref 10)] zi_A0 100 177797 = some (.inl (227, zi_al0, [.inl (.int x4), .inl (.long (x3.toInt64 <<< ((Int8.ofInt 32).toInt32.toInt64 &&& 63))), .inl (.long (zi_lg x1 x2)), .inl (.ref 10)], zi_A0, 100, 177797)) from zi_ald_s zi_i4t.1 zi_i4t.2 rfl) rfl) ?_
  refine zi_fin_c (zi_run_1 (g := (228, zi_al0, [.inl (.long x4.toInt64), .inl (.long (x3.toInt64 <<< ((Int8.ofInt 32).toInt32.toInt64 &&& 63))), .inl (.long (zi_lg x1 x2)), .inl (.ref 10)], zi_A0, 100, 177797)) rfl (rfl) rfl) ?_
  refine zi_fin_c (zi_run_1 (g := (231, zi_al0, [.inl (.long (Int64.ofNat 4294967295)), .inl (.long x4.toInt64), .inl (.long (x3.toInt64 <<< ((Int8.ofInt 32).toInt32.toInt64 &&& 63))), .inl (.long (zi_lg x1 x2)), .inl (.ref 10)], zi_A0, 100, 177797)) rfl (rfl) rfl) ?_
  refine zi_fin_c (zi_run_1 (g := (232, zi_al0, [.inl (.long (x4.toInt64 &&& Int64.ofNat 4294967295)), .inl (.long (x3.toInt64 <<< ((Int8.ofInt 32).toInt32.toInt64 &&& 63))), .inl (.long (zi_lg x1 x2)), .inl (.ref 10)], zi_A0, 100, 177797)) rfl (rfl) rfl) ?_
  refine zi_fin_c (zi_run_1 (g := (233, zi_al0, [.inl (.long (zi_lg x3 x4)), .inl (.long (zi_lg x1 x2)), .inl (.ref 10)], zi_A0, 100, 177797)) rfl (rfl) rfl) ?_
  refine zi_fin_c (zi_run_1 (g := (234, zi_al0, [.inl (.ref 8), .inl (.long (zi_lg x3 x4)), .inl (.long (zi_lg x1 x2)), .inl (.ref 10)], zi_A0, 100, 177797)) rfl (rfl) rfl) ?_
  refine zi_fin_c (zi_run_1 (g := (236, zi_al0, [.inl (.int 0), .inl (.ref 8), .inl (.long (zi_lg x3 x4)), .inl (.long (zi_lg x1 x2)), .inl (.ref 10)], zi_A0, 100, 177797)) rfl (rfl) rfl) ?_
  refine zi_fin_c (zi_run_1 (g := (237, zi_al0, [.inl (.int (Int32.ofInt 5)), .inl (.int 0), .inl (.ref 8), .inl (.long (zi_lg x3 x4)), .inl (.long (zi_lg x1 x2)), .inl (.ref 10)], zi_A0, 100, 177797)) rfl (rfl) rfl) ?_
  refine zi_fin_c (zi_run_1 (g := (238, zi_al0, [.inl (.int (0 + (Int32.ofInt 5))), .inl (.ref 8), .inl (.long (zi_lg x3 x4)), .inl (.long (zi_lg x1 x2)), .inl (.ref 10)], zi_A0, 100, 177797)) rfl (rfl) rfl) ?_
  refine zi_fin_c (zi_run_1 (g := (239, zi_al0, [.inl (.int x5), .inl (.long (zi_lg x3 x4)), .inl (.long (zi_lg x1 x2)), .inl (.ref 10)], zi_A0, 100, 177797)) rfl (show zi_ald 0 [.inl (.int x0), .inl (.int x1), .inl (.int x2), .inl (.int x3), .inl (.int x4), .inl (.int x5), .inl (.int x6)] 238 1 zi_al0 [.inl (.int (0 + (Int32.ofInt 5))), .inl (.ref 8), .inl (.long (zi_lg x3 x4)), .inl (.long (zi_lg x1 x2)), .inl (.ref 10)] zi_A0 100 177797 = some (.inl (239, zi_al0, [.inl (.int x5), .inl (.long (zi_lg x3 x4)), .inl (.long (zi_lg x1 x2)), .inl (.ref 10)], zi_A0, 100, 177797)) from zi_ald_s zi_i5t.1 zi_i5t.2 rfl) rfl) ?_
  refine zi_fin_c (zi_run_1 (g := (240, zi_al0, [.inl (.long x5.toInt64), .inl (.long (zi_lg x3 x4)), .inl (.long (zi_lg x1 x2)), .inl (.ref 10)], zi_A0, 100, 177797)) rfl (rfl) rfl) ?_
  refine zi_fin_c (zi_run_1 (g := (242, zi_al0, [.inl (.int (Int8.ofInt 32).toInt32), .inl (.long x5.toInt64), .inl (.long (zi_lg x3 x4)), .inl (.long (zi_lg x1 x2)), .inl (.ref 10)], zi_A0, 100, 177797)) rfl (rfl) rfl) ?_
  refine zi_fin_c (zi_run_1 (g := (243, zi_al0, [.inl (.long (x5.toInt64 <<< ((Int8.ofInt 32).toInt32.toInt64 &&& 63))), .inl (.long (zi_lg x3 x4)), .inl (.long (zi_lg x1 x2)), .inl (.ref 10)], zi_A0, 100, 177797)) rfl (rfl) rfl) ?_
  refine zi_fin_c (zi_run_1 (g := (244, zi_al0, [.inl (.ref 8), .inl (.long (x5.toInt64 <<< ((Int8.ofInt 32).toInt32.toInt64 &&& 63))), .inl (.long (zi_lg x3 x4)), .inl (.long (zi_lg x1 x2)), .inl (.ref 10)], zi_A0, 100, 177797)) rfl (rfl) rfl) ?_
  refine zi_fin_c (zi_run_1 (g := (246, zi_al0, [.inl (.int 0), .inl (.ref 8), .inl (.long (x5.toInt64 <<< ((Int8.ofInt 32).toInt32.toInt64 &&& 63))), .inl (.long (zi_lg x3 x4)), .inl (.long (zi_lg x1 x2)), .inl (.ref 10)], zi_A0, 100, 177797)) rfl (rfl) rfl) ?_
  refine zi_fin_c (zi_run_1 (g := (248, zi_al0, [.inl (.int (Int8.ofInt 6).toInt32), .inl (.int 0), .inl (.ref 8), .inl (.long (x5.toInt64 <<< ((Int8.ofInt 32).toInt32.toInt64 &&& 63))), .inl (.long (zi_lg x3 x4)), .inl (.long (zi_lg x1 x2)), .inl (.ref 10)], zi_A0, 100, 177797)) rfl (rfl) rfl) ?_
  refine zi_fin_c (zi_run_1 (g := (249, zi_al0, [.inl (.int (0 + (Int8.ofInt 6).toInt32)), .inl (.ref 8), .inl (.long (x5.toInt64 <<< ((Int8.ofInt 32).toInt32.toInt64 &&& 63))), .inl (.long (zi_lg x3 x4)), .inl (.long (zi_lg x1 x2)), .inl (.ref 10)], zi_A0, 100, 177797)) rfl (rfl) rfl) ?_
  refine zi_fin_c (zi_run_1 (g := (250, zi_al0, [.inl (.int x6), .inl (.long (x5.toInt64 <<< ((Int8.ofInt 32).toInt32.toInt64 &&& 63))), .inl (.long (zi_lg x3 x4)), .inl (.long (zi_lg x1 x2)), .inl (.ref 10)], zi_A0, 100, 177797)) rfl (show zi_ald 0 [.inl (.int x0), .inl (.int x1), .inl (.int x2), .inl (.int x3), .inl (.int x4), .inl (.int x5), .inl (.int x6)] 249 1 zi_al0 [.inl (.int (0 + (Int8.ofInt 6).toInt32)), .inl (.ref 8), .inl (.long (x5.toInt64 <<< ((Int8.ofInt 32).toInt32.toInt64 &&& 63))), .inl (.long (zi_lg x3 x4)), .inl (.long (zi_lg x1 x2)), .inl (.ref 10)] zi_A0 100 177797 = some (.inl (250, zi_al0, [.inl (.int x6), .inl (.long (x5.toInt64 <<< ((Int8.ofInt 32).toInt32.toInt64 &&& 63))), .inl (.long (zi_lg x3 x4)), .inl (.long (zi_lg x1 x2)), .inl (.ref 10)], zi_A0, 100, 177797)) from zi_ald_s zi_i6t.1 zi_i6t.2 rfl) rfl) ?_
  refine zi_fin_c (zi_run_1 (g := (251, zi_al0, [.inl (.long x6.toInt64), .inl (.long (x5.toInt64 <<< ((Int8.ofInt 32).toInt32.toInt64 &&& 63))), .inl (.long (zi_lg x3 x4)), .inl (.long (zi_lg x1 x2)), .inl (.ref 10)], zi_A0, 100, 177797)) rfl (rfl) rfl) ?_
  refine zi_fin_c (zi_run_1 (g := (254, zi_al0, [.inl (.long (Int64.ofNat 4294967295)), .inl (.long x6.toInt64), .inl (.long (x5.toInt64 <<< ((Int8.ofInt 32).toInt32.toInt64 &&& 63))), .inl (.long (zi_lg x3 x4)), .inl (.long (zi_lg x1 x2)), .inl (.ref 10)], zi_A0, 100, 177797)) rfl (rfl) rfl) ?_
  refine zi_fin_c (zi_run_1 (g := (255, zi_al0, [.inl (.long (x6.toInt64 &&& Int64.ofNat 4294967295)), .inl (.long (x5.toInt64 <<< ((Int8.ofInt 32).toInt32.toInt64 &&& 63))), .inl (.long (zi_lg x3 x4)), .inl (.long (zi_lg x1 x2)), .inl (.ref 10)], zi_A0, 100, 177797)) rfl (rfl) rfl) ?_
  refine zi_fin_c (zi_run_1 (g := (256, zi_al0, [.inl (.long (zi_lg x5 x6)), .inl (.long (zi_lg x3 x4)), .inl (.long (zi_lg x1 x2)), .inl (.ref 10)], zi_A0, 100, 177797)) rfl (rfl) rfl) ?_
  refine zi_fin_c (zi_run_1 (g := (259, zi_al0, [.inl (.int (nI n))], A1, 100, 177797)) rfl (zi_ivv rfl (zi_rcv_s rfl c0) (zi_inv_s (c1 := 0) (c2 := 0) rfl e1)) rfl) ?_
  refine zi_fin_c (zi_run_1 (g := (260, zi_al0, [.inl (.ref 82), .inl (.int (nI n))], A1, 100, 177797)) rfl (rfl) rfl) ?_
  refine zi_fin_c (zi_run_1 (g := (261, zi_al0, [.inl (.ref 8), .inl (.ref 82), .inl (.int (nI n))], A1, 100, 177797)) rfl (rfl) rfl) ?_
  refine zi_fin_c (zi_run_1 (g := (263, zi_al0, [.inl (.int 0), .inl (.ref 8), .inl (.ref 82), .inl (.int (nI n))], A1, 100, 177797)) rfl (rfl) rfl) ?_
  refine zi_fin_c (zi_run_1 (g := (264, zi_al0, [.inl (.int (Int32.ofInt 1)), .inl (.int 0), .inl (.ref 8), .inl (.ref 82), .inl (.int (nI n))], A1, 100, 177797)) rfl (rfl) rfl) ?_
  refine zi_fin_c (zi_run_1 (g := (265, zi_al0, [.inl (.int (0 + (Int32.ofInt 1))), .inl (.ref 8), .inl (.ref 82), .inl (.int (nI n))], A1, 100, 177797)) rfl (rfl) rfl) ?_
  refine zi_fin_c (zi_run_1 (g := (266, zi_al0, [.inl (.int x1), .inl (.ref 82), .inl (.int (nI n))], A1, 100, 177797)) rfl (show zi_ald 0 [.inl (.int x0), .inl (.int x1), .inl (.int x2), .inl (.int x3), .inl (.int x4), .inl (.int x5), .inl (.int x6)] 265 1 zi_al0 [.inl (.int (0 + (Int32.ofInt 1))), .inl (.ref 8), .inl (.ref 82), .inl (.int (nI n))] A1 100 177797 = some (.inl (266, zi_al0, [.inl (.int x1), .inl (.ref 82), .inl (.int (nI n))], A1, 100, 177797)) from zi_ald_s zi_i1t.1 zi_i1t.2 rfl) rfl) ?_
  refine zi_fin_c (zi_run_1 (g := (267, zi_al0, [.inl (.long x1.toInt64), .inl (.ref 82), .inl (.int (nI n))], A1, 100, 177797)) rfl (rfl) rfl) ?_
  refine zi_fin_c (zi_run_1 (g := (269, zi_al0, [.inl (.int (Int8.ofInt 32).toInt32), .inl (.long x1.toInt64), .inl (.ref 82), .inl (.int (nI n))], A1, 100, 177797)) rfl (rfl) rfl) ?_
  refine zi_fin_c (zi_run_1 (g := (270, zi_al0, [.inl (.long (x1.toInt64 <<< ((Int8.ofInt 32).toInt32.toInt64 &&& 63))), .inl (.ref 82), .inl (.int (nI n))], A1, 100, 177797)) rfl (rfl) rfl) ?_
  refine zi_fin_c (zi_run_1 (g := (271, zi_al0, [.inl (.ref 8), .inl (.long (x1.toInt64 <<< ((Int8.ofInt 32).toInt32.toInt64 &&& 63))), .inl (.ref 82), .inl (.int (nI n))], A1, 100, 177797)) rfl (rfl) rfl) ?_
  refine zi_fin_c (zi_run_1 (g := (273, zi_al0, [.inl (.int 0), .inl (.ref 8), .inl (.long (x1.toInt64 <<< ((Int8.ofInt 32).toInt32.toInt64 &&& 63))), .inl (.ref 82), .inl (.int (nI n))], A1, 100, 177797)) rfl (rfl) rfl) ?_
  refine zi_fin_c (zi_run_1 (g := (274, zi_al0, [.inl (.int (Int32.ofInt 2)), .inl (.int 0), .inl (.ref 8), .inl (.long (x1.toInt64 <<< ((Int8.ofInt 32).toInt32.toInt64 &&& 63))), .inl (.ref 82), .inl (.int (nI n))], A1, 100, 177797)) rfl (rfl) rfl) ?_
  refine zi_fin_c (zi_run_1 (g := (275, zi_al0, [.inl (.int (0 + (Int32.ofInt 2))), .inl (.ref 8), .inl (.long (x1.toInt64 <<< ((Int8.ofInt 32).toInt32.toInt64 &&& 63))), .inl (.ref 82), .inl (.int (nI n))], A1, 100, 177797)) rfl (rfl) rfl) ?_
  refine zi_fin_c (zi_run_1 (g := (276, zi_al0, [.inl (.int x2), .inl (.long (x1.toInt64 <<< ((Int8.ofInt 32).toInt32.toInt64 &&& 63))), .inl (.ref 82), .inl (.int (nI n))], A1, 100, 177797)) rfl (show zi_ald 0 [.inl (.int x0), .inl (.int x1), .inl (.int x2), .inl (.int x3), .inl (.int x4), .inl (.int x5), .inl (.int x6)] 275 1 zi_al0 [.inl (.int (0 + (Int32.ofInt 2))), .inl (.ref 8), .inl (.long (x1.toInt64 <<< ((Int8.ofInt 32).toInt32.toInt64 &&& 63))), .inl (.ref 82), .inl (.int (nI n))] A1 100 177797 = some (.inl (276, zi_al0, [.inl (.int x2), .inl (.long (x1.toInt64 <<< ((Int8.ofInt 32).toInt32.toInt64 &&& 63))), .inl (.ref 82), .inl (.int (nI n))], A1, 100, 177797)) from zi_ald_s zi_i2t.1 zi_i2t.2 rfl) rfl) ?_
  refine zi_fin_c (zi_run_1 (g := (277, zi_al0, [.inl (.long x2.toInt64), .inl (.long (x1.toInt64 <<< ((Int8.ofInt 32).toInt32.toInt64 &&& 63))), .inl (.ref 82), .inl (.int (nI n))], A1, 100, 177797)) rfl (rfl) rfl) ?_
  refine zi_fin_c (zi_run_1 (g := (280, zi_al0, [.inl (.long (Int64.ofNat 4294967295)), .inl (.long x2.toInt64), .inl (.long (x1.toInt64 <<< ((Int8.ofInt 32).toInt32.toInt64 &&& 63))), .inl (.ref 82), .inl (.int (nI n))], A1, 100, 177797)) rfl (rfl) rfl) ?_
  refine zi_fin_c (zi_run_1 (g := (281, zi_al0, [.inl (.long (x2.toInt64 &&& Int64.ofNat 4294967295)), .inl (.long (x1.toInt64 <<< ((Int8.ofInt 32).toInt32.toInt64 &&& 63))), .inl (.ref 82), .inl (.int (nI n))], A1, 100, 177797)) rfl (rfl) rfl) ?_
  refine zi_fin_c (zi_run_1 (g := (282, zi_al0, [.inl (.long (zi_lg x1 x2)), .inl (.ref 82), .inl (.int (nI n))], A1, 100, 177797)) rfl (rfl) rfl) ?_
  refine zi_fin_c (zi_run_1 (g := (283, zi_al0, [.inl (.ref 8), .inl (.long (zi_lg x1 x2)), .inl (.ref 82), .inl (.int (nI n))], A1, 100, 177797)) rfl (rfl) rfl) ?_
  refine zi_fin_c (zi_run_1 (g := (285, zi_al0, [.inl (.int 0), .inl (.ref 8), .inl (.long (zi_lg x1 x2)), .inl (.ref 82), .inl (.int (nI n))], A1, 100, 177797)) rfl (rfl) rfl) ?_
  refine zi_fin_c (zi_run_1 (g := (286, zi_al0, [.inl (.int (Int32.ofInt 3)), .inl (.int 0), .inl (.ref 8), .inl (.long (zi_lg x1 x2)), .inl (.ref 82), .inl (.int (nI n))], A1, 100, 177797)) rfl (rfl) rfl) ?_
  refine zi_fin_c (zi_run_1 (g := (287, zi_al0, [.inl (.int (0 + (Int32.ofInt 3))), .inl (.ref 8), .inl (.long (zi_lg x1 x2)), .inl (.ref 82), .inl (.int (nI n))], A1, 100, 177797)) rfl (rfl) rfl) ?_
  refine zi_fin_c (zi_run_1 (g := (288, zi_al0, [.inl (.int x3), .inl (.long (zi_lg x1 x2)), .inl (.ref 82), .inl (.int (nI n))], A1, 100, 177797)) rfl (show zi_ald 0 [.inl (.int x0), .inl (.int x1), .inl (.int x2), .inl (.int x3), .inl (.int x4), .inl (.int x5), .inl (.int x6)] 287 1 zi_al0 [.inl (.int (0 + (Int32.ofInt 3))), .inl (.ref 8), .inl (.long (zi_lg x1 x2)), .inl (.ref 82), .inl (.int (nI n))] A1 100 177797 = some (.inl (288, zi_al0, [.inl (.int x3), .inl (.long (zi_lg x1 x2)), .inl (.ref 82), .inl (.int (nI n))], A1, 100, 177797)) from zi_ald_s zi_i3t.1 zi_i3t.2 rfl) rfl) ?_
  refine zi_fin_c (zi_run_1 (g := (289, zi_al0, [.inl (.long x3.toInt64), .inl (.long (zi_lg x1 x2)), .inl (.ref 82), .inl (.int (nI n))], A1, 100, 177797)) rfl (rfl) rfl) ?_
  refine zi_fin_c (zi_run_1 (g := (291, zi_al0, [.inl (.int (Int8.ofInt 32).toInt32), .inl (.long x3.toInt64), .inl (.long (zi_lg x1 x2)), .inl (.ref 82), .inl (.int (nI n))], A1, 100, 177797)) rfl (rfl) rfl) ?_
  refine zi_fin_c (zi_run_1 (g := (292, zi_al0, [.inl (.long (x3.toInt64 <<< ((Int8.ofInt 32).toInt32.toInt64 &&& 63))), .inl (.long (zi_lg x1 x2)), .inl (.ref 82), .inl (.int (nI n))], A1, 100, 177797)) rfl (rfl) rfl) ?_
  refine zi_fin_c (zi_run_1 (g := (293, zi_al0, [.inl (.ref 8), .inl (.long (x3.toInt64 <<< ((Int8.ofInt 32).toInt32.toInt64 &&& 63))), .inl (.long (zi_lg x1 x2)), .inl (.ref 82), .inl (.int (nI n))], A1, 100, 177797)) rfl (rfl) rfl) ?_
  refine zi_fin_c (zi_run_1 (g := (295, zi_al0, [.inl (.int 0), .inl (.ref 8), .inl (.long (x3.toInt64 <<< ((Int8.ofInt 32).toInt32.toInt64 &&& 63))), .inl (.long (zi_lg x1 x2)), .inl (.ref 82), .inl (.int (nI n))], A1, 100, 177797)) rfl (rfl) rfl) ?_
  refine zi_fin_c (zi_run_1 (g := (296, zi_al0, [.inl (.int (Int32.ofInt 4)), .inl (.int 0), .inl (.ref 8), .inl (.long (x3.toInt64 <<< ((Int8.ofInt 32).toInt32.toInt64 &&& 63))), .inl (.long (zi_lg x1 x2)), .inl (.ref 82), .inl (.int (nI n))], A1, 100, 177797)) rfl (rfl) rfl) ?_
  refine zi_fin_c (zi_run_1 (g := (297, zi_al0, [.inl (.int (0 + (Int32.ofInt 4))), .inl (.ref 8), .inl (.long (x3.toInt64 <<< ((Int8.ofInt 32).toInt32.toInt64 &&& 63))), .inl (.long (zi_lg x1 x2)), .inl (.ref 82), .inl (.int (nI n))], A1, 100, 177797)) rfl (rfl) rfl) ?_
  refine zi_fin_c (zi_run_1 (g := (298, zi_al0, [.inl (.int x4), .inl (.long (x3.toInt64 <<< ((Int8.ofInt 32).toInt32.toInt64 &&& 63))), .inl (.long (zi_lg x1 x2)), .inl (.ref 82), .inl (.int (nI n))], A1, 100, 177797)) rfl (show zi_ald 0 [.inl (.int x0), .inl (.int x1), .inl (.int x2), .inl (.int x3), .inl (.int x4), .inl (.int x5), .inl (.int x6)] 297 1 zi_al0 [.inl (.int (0 + (Int32.ofInt 4))), .inl (.ref 8), .inl (.long (x3.toInt64 <<< ((Int8.ofInt 32).toInt32.toInt64 &&& 63))), .inl (.long (zi_lg x1 x2)), .inl (.ref 82), .inl (.int (nI n))] A1 100 177797 = some (.inl (298, zi_al0, [.inl (.int x4), .inl (.long (x3.toInt64 <<< ((Int8.ofInt 32).toInt32.toInt64 &&& 63))), .inl (.long (zi_lg x1 x2)), .inl (.ref 82), .inl (.int (nI n))], A1, 100, 177797)) from zi_ald_s zi_i4t.1 zi_i4t.2 rfl) rfl) ?_
  refine zi_fin_c (zi_run_1 (g := (299, zi_al0, [.inl (.long x4.toInt64), .inl (.long (x3.toInt64 <<< ((Int8.ofInt 32).toInt32.toInt64 &&& 63))), .inl (.long (zi_lg x1 x2)), .inl (.ref 82), .inl (.int (nI n))], A1, 100, 177797)) rfl (rfl) rfl) ?_
  refine zi_fin_c (zi_run_1 (g := (302, zi_al0, [.inl (.long (Int64.ofNat 4294967295)), .inl (.long x4.toInt64), .inl (.long (x3.toInt64 <<< ((Int8.ofInt 32).toInt32.toInt64 &&& 63))), .inl (.long (zi_lg x1 x2)), .inl (.ref 82), .inl (.int (nI n))], A1, 100, 177797)) rfl (rfl) rfl) ?_
  refine zi_fin_c (zi_run_1 (g := (303, zi_al0, [.inl (.long (x4.toInt64 &&& Int64.ofNat 4294967295)), .inl (.long (x3.toInt64 <<< ((Int8.ofInt 32).toInt32.toInt64 &&& 63))), .inl (.long (zi_lg x1 x2)), .inl (.ref 82), .inl (.int (nI n))], A1, 100, 177797)) rfl (rfl) rfl) ?_
  refine zi_fin_c (zi_run_1 (g := (304, zi_al0, [.inl (.long (zi_lg x3 x4)), .inl (.long (zi_lg x1 x2)), .inl (.ref 82), .inl (.int (nI n))], A1, 100, 177797)) rfl (rfl) rfl) ?_
  refine zi_fin_c (zi_run_1 (g := (305, zi_al0, [.inl (.ref 8), .inl (.long (zi_lg x3 x4)), .inl (.long (zi_lg x1 x2)), .inl (.ref 82), .inl (.int (nI n))], A1, 100, 177797)) rfl (rfl) rfl) ?_
  refine zi_fin_c (zi_run_1 (g := (307, zi_al0, [.inl (.int 0), .inl (.ref 8), .inl (.long (zi_lg x3 x4)), .inl (.long (zi_lg x1 x2)), .inl (.ref 82), .inl (.int (nI n))], A1, 100, 177797)) rfl (rfl) rfl) ?_
  refine zi_fin_c (zi_run_1 (g := (308, zi_al0, [.inl (.int (Int32.ofInt 5)), .inl (.int 0), .inl (.ref 8), .inl (.long (zi_lg x3 x4)), .inl (.long (zi_lg x1 x2)), .inl (.ref 82), .inl (.int (nI n))], A1, 100, 177797)) rfl (rfl) rfl) ?_
  refine zi_fin_c (zi_run_1 (g := (309, zi_al0, [.inl (.int (0 + (Int32.ofInt 5))), .inl (.ref 8), .inl (.long (zi_lg x3 x4)), .inl (.long (zi_lg x1 x2)), .inl (.ref 82), .inl (.int (nI n))], A1, 100, 177797)) rfl (rfl) rfl) ?_
  refine zi_fin_c (zi_run_1 (g := (310, zi_al0, [.inl (.int x5), .inl (.long (zi_lg x3 x4)), .inl (.long (zi_lg x1 x2)), .inl (.ref 82), .inl (.int (nI n))], A1, 100, 177797)) rfl (show zi_ald 0 [.inl (.int x0), .inl (.int x1), .inl (.int x2), .inl (.int x3), .inl (.int x4), .inl (.int x5), .inl (.int x6)] 309 1 zi_al0 [.inl (.int (0 + (Int32.ofInt 5))), .inl (.ref 8), .inl (.long (zi_lg x3 x4)), .inl (.long (zi_lg x1 x2)), .inl (.ref 82), .inl (.int (nI n))] A1 100 177797 = some (.inl (310, zi_al0, [.inl (.int x5), .inl (.long (zi_lg x3 x4)), .inl (.long (zi_lg x1 x2)), .inl (.ref 82), .inl (.int (nI n))], A1, 100, 177797)) from zi_ald_s zi_i5t.1 zi_i5t.2 rfl) rfl) ?_
  refine zi_fin_c (zi_run_1 (g := (311, zi_al0, [.inl (.long x5.toInt64), .inl (.long (zi_lg x3 x4)), .inl (.long (zi_lg x1 x2)), .inl (.ref 82), .inl (.int (nI n))], A1, 100, 177797)) rfl (rfl) rfl) ?_
  refine zi_fin_c (zi_run_1 (g := (313, zi_al0, [.inl (.int (Int8.ofInt 32).toInt32), .inl (.long x5.toInt64), .inl (.long (zi_lg x3 x4)), .inl (.long (zi_lg x1 x2)), .inl (.ref 82), .inl (.int (nI n))], A1, 100, 177797)) rfl (rfl) rfl) ?_
  refine zi_fin_c (zi_run_1 (g := (314, zi_al0, [.inl (.long (x5.toInt64 <<< ((Int8.ofInt 32).toInt32.toInt64 &&& 63))), .inl (.long (zi_lg x3 x4)), .inl (.long (zi_lg x1 x2)), .inl (.ref 82), .inl (.int (nI n))], A1, 100, 177797)) rfl (rfl) rfl) ?_
  refine zi_fin_c (zi_run_1 (g := (315, zi_al0, [.inl (.ref 8), .inl (.long (x5.toInt64 <<< ((Int8.ofInt 32).toInt32.toInt64 &&& 63))), .inl (.long (zi_lg x3 x4)), .inl (.long (zi_lg x1 x2)), .inl (.ref 82), .inl (.int (nI n))], A1, 100, 177797)) rfl (rfl) rfl) ?_
  refine zi_fin_c (zi_run_1 (g := (317, zi_al0, [.inl (.int 0), .inl (.ref 8), .inl (.long (x5.toInt64 <<< ((Int8.ofInt 32).toInt32.toInt64 &&& 63))), .inl (.long (zi_lg x3 x4)), .inl (.long (zi_lg x1 x2)), .inl (.ref 82), .inl (.int (nI n))], A1, 100, 177797)) rfl (rfl) rfl) ?_
  refine zi_fin_c (zi_run_1 (g := (319, zi_al0, [.inl (.int (Int8.ofInt 6).toInt32), .inl (.int 0), .inl (.ref 8), .inl (.long (x5.toInt64 <<< ((Int8.ofInt 32).toInt32.toInt64 &&& 63))), .inl (.long (zi_lg x3 x4)), .inl (.long (zi_lg x1 x2)), .inl (.ref 82), .inl (.int (nI n))], A1, 100, 177797)) rfl (rfl) rfl) ?_
  refine zi_fin_c (zi_run_1 (g := (320, zi_al0, [.inl (.int (0 + (Int8.ofInt 6).toInt32)), .inl (.ref 8), .inl (.long (x5.toInt64 <<< ((Int8.ofInt 32).toInt32.toInt64 &&& 63))), .inl (.long (zi_lg x3 x4)), .inl (.long (zi_lg x1 x2)), .inl (.ref 82), .inl (.int (nI n))], A1, 100, 177797)) rfl (rfl) rfl) ?_
  refine zi_fin_c (zi_run_1 (g := (321, zi_al0, [.inl (.int x6), .inl (.long (x5.toInt64 <<< ((Int8.ofInt 32).toInt32.toInt64 &&& 63))), .inl (.long (zi_lg x3 x4)), .inl (.long (zi_lg x1 x2)), .inl (.ref 82), .inl (.int (nI n))], A1, 100, 177797)) rfl (show zi_ald 0 [.inl (.int x0), .inl (.int x1), .inl (.int x2), .inl (.int x3), .inl (.int x4), .inl (.int x5), .inl (.int x6)] 320 1 zi_al0 [.inl (.int (0 + (Int8.ofInt 6).toInt32)), .inl (.ref 8), .inl (.long (x5.toInt64 <<< ((Int8.ofInt 32).toInt32.toInt64 &&& 63))), .inl (.long (zi_lg x3 x4)), .inl (.long (zi_lg x1 x2)), .inl (.ref 82), .inl (.int (nI n))] A1 100 177797 = some (.inl (321, zi_al0, [.inl (.int x6), .inl (.long (x5.toInt64 <<< ((Int8.ofInt 32).toInt32.toInt64 &&& 63))), .inl (.long (zi_lg x3 x4)), .inl (.long (zi_lg x1 x2)), .inl (.ref 82), .inl (.int (nI n))], A1, 100, 177797)) from zi_ald_s zi_i6t.1 zi_i6t.2 rfl) rfl) ?_
  refine zi_fin_c (zi_run_1 (g := (322, zi_al0, [.inl (.long x6.toInt64), .inl (.long (x5.toInt64 <<< ((Int8.ofInt 32).toInt32.toInt64 &&& 63))), .inl (.long (zi_lg x3 x4)), .inl (.long (zi_lg x1 x2)), .inl (.ref 82), .inl (.int (nI n))], A1, 100, 177797)) rfl (rfl) rfl) ?_
  refine zi_fin_c (zi_run_1 (g := (325, zi_al0, [.inl (.long (Int64.ofNat 4294967295)), .inl (.long x6.toInt64), .inl (.long (x5.toInt64 <<< ((Int8.ofInt 32).toInt32.toInt64 &&& 63))), .inl (.long (zi_lg x3 x4)), .inl (.long (zi_lg x1 x2)), .inl (.ref 82), .inl (.int (nI n))], A1, 100, 177797)) rfl (rfl) rfl) ?_
  refine zi_fin_c (zi_run_1 (g := (326, zi_al0, [.inl (.long (x6.toInt64 &&& Int64.ofNat 4294967295)), .inl (.long (x5.toInt64 <<< ((Int8.ofInt 32).toInt32.toInt64 &&& 63))), .inl (.long (zi_lg x3 x4)), .inl (.long (zi_lg x1 x2)), .inl (.ref 82), .inl (.int (nI n))], A1, 100, 177797)) rfl (rfl) rfl) ?_
  refine zi_fin_c (zi_run_1 (g := (327, zi_al0, [.inl (.long (zi_lg x5 x6)), .inl (.long (zi_lg x3 x4)), .inl (.long (zi_lg x1 x2)), .inl (.ref 82), .inl (.int (nI n))], A1, 100, 177797)) rfl (rfl) rfl) ?_
  refine zi_fin_c (zi_run_1 (g := (330, zi_al0, [.inl (.int (nI n)), .inl (.int (nI n))], A2, 100, 177797)) rfl (zi_ivv rfl (zi_rcv_s rfl c2) (zi_inv_s (c1 := 0) (c2 := 0) rfl e2)) rfl) ?_
  refine zi_fin_c (zi_run_1 (g := (1426, zi_al0, [], A2, 100, 177797)) rfl (show zi_if2 .eq 330 3 zi_al0 [.inl (.int (nI n)), .inl (.int (nI n))] A2 100 177797 1426 = some (.inl (1426, zi_al0, [], A2, 100, 177797)) from zi_if2_s true (by rw [zi_teq]; simp)) rfl) ?_
  refine zi_fin_c (zi_run_1 (g := (1429, (4, .inl (.int (0 + Int32.ofInt 7))) :: (3, .inl (.ref 109)) :: (2, .inl (.ref 82)) :: (1, .inl (.ref 10)) :: (0, .inl (.ref 8)) :: [], [], A2, 100, 177797)) rfl (rfl) rfl) ?_
  refine zi_fin_c (zi_run_1 (g := (23, (4, .inl (.int (0 + Int32.ofInt 7))) :: (3, .inl (.ref 109)) :: (2, .inl (.ref 82)) :: (1, .inl (.ref 10)) :: (0, .inl (.ref 8)) :: [], [], A2, 100, 177797)) rfl (rfl) rfl) ?_
  refine zi_fin_c (zi_run_1 (g := (25, (4, .inl (.int (0 + Int32.ofInt 7))) :: (3, .inl (.ref 109)) :: (2, .inl (.ref 82)) :: (1, .inl (.ref 10)) :: (0, .inl (.ref 8)) :: [], [.inl (.int (0 + Int32.ofInt 7))], A2, 100, 177797)) rfl (rfl) rfl) ?_
  refine zi_fin_c (zi_run_1 (g := (26, (4, .inl (.int (0 + Int32.ofInt 7))) :: (3, .inl (.ref 109)) :: (2, .inl (.ref 82)) :: (1, .inl (.ref 10)) :: (0, .inl (.ref 8)) :: [], [.inl (.ref 8), .inl (.int (0 + Int32.ofInt 7))], A2, 100, 177797)) rfl (rfl) rfl) ?_
  refine zi_fin_c (zi_run_1 (g := (27, (4, .inl (.int (0 + Int32.ofInt 7))) :: (3, .inl (.ref 109)) :: (2, .inl (.ref 82)) :: (1, .inl (.ref 10)) :: (0, .inl (.ref 8)) :: [], [.inl (.int (Int32.ofNat 7)), .inl (.int (0 + Int32.ofInt 7))], A2, 100, 177797)) rfl (rfl) rfl) ?_
  refine zi_fin_c (zi_run_1 (g := (29, (4, .inl (.int (0 + Int32.ofInt 7))) :: (3, .inl (.ref 109)) :: (2, .inl (.ref 82)) :: (1, .inl (.ref 10)) :: (0, .inl (.ref 8)) :: [], [.inl (.int (Int8.ofInt 7).toInt32), .inl (.int (Int32.ofNat 7)), .inl (.int (0 + Int32.ofInt 7))], A2, 100, 177797)) rfl (rfl) rfl) ?_
  refine zi_fin_c (zi_run_1 (g := (30, (4, .inl (.int (0 + Int32.ofInt 7))) :: (3, .inl (.ref 109)) :: (2, .inl (.ref 82)) :: (1, .inl (.ref 10)) :: (0, .inl (.ref 8)) :: [], [.inl (.int (Int32.ofNat 7 - (Int8.ofInt 7).toInt32)), .inl (.int (0 + Int32.ofInt 7))], A2, 100, 177797)) rfl (rfl) rfl) ?_
  refine zi_fin_c (zi_run_1 (g := (1432, (4, .inl (.int (0 + Int32.ofInt 7))) :: (3, .inl (.ref 109)) :: (2, .inl (.ref 82)) :: (1, .inl (.ref 10)) :: (0, .inl (.ref 8)) :: [], [], A2, 100, 177797)) rfl (show zi_if2 .gt 30 3 ((4, .inl (.int (0 + Int32.ofInt 7))) :: (3, .inl (.ref 109)) :: (2, .inl (.ref 82)) :: (1, .inl (.ref 10)) :: (0, .inl (.ref 8)) :: []) [.inl (.int (Int32.ofNat 7 - (Int8.ofInt 7).toInt32)), .inl (.int (0 + Int32.ofInt 7))] A2 100 177797 1432 = some (.inl (1432, (4, .inl (.int (0 + Int32.ofInt 7))) :: (3, .inl (.ref 109)) :: (2, .inl (.ref 82)) :: (1, .inl (.ref 10)) :: (0, .inl (.ref 8)) :: [], [], A2, 100, 177797)) from zi_if2_s true (by decide +kernel)) rfl) ?_
  refine zi_fin_c (zi_run_1 (g := (1433, (4, .inl (.int (0 + Int32.ofInt 7))) :: (3, .inl (.ref 109)) :: (2, .inl (.ref 82)) :: (1, .inl (.ref 10)) :: (0, .inl (.ref 8)) :: [], [.inl (.int (Int32.ofInt 1))], A2, 100, 177797)) rfl (rfl) rfl) ?_
  exact zi_fin_0
