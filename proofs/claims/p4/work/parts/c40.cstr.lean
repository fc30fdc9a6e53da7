/-! The class cuts its tape: signs. -/
theorem yi_D_sb {Ms : List zi_M} {d : Nat} {M : zi_M} {k : Nat} {Q : yi_R → Prop} {pc n : Nat} {al : List (Nat × yi_V)} {r : List yi_V} {H : yi_H} {nc ns : Nat} {o : List Nat} {x v : Int} (h1 : zi_lk2 pc M.2.2.2.2.1 = some (.baload, n, o)) (hv : ((zi_sb.getD 2 []).getD x.toNat 0).toInt = v) (hg : yi_D Ms d M k (pc + n, al, .inl v :: r, H, nc, ns) Q) : yi_D Ms d M k (pc, al, .inl x :: .inr (.inr (some 6)) :: r, H, nc, ns) Q := by
  refine yi_D_l1 (g := (pc + n, al, .inl v :: r, H, nc, ns)) (c := decide (0 ≤ x) && decide (x < 8)) h1 rfl (fun call => ?_) (fun _ => hg)
  subst hv
  rfl
theorem p_isLatin1 {d : Nat} {I L : Nat → Nat → Int} {R : Nat → Nat → Option Nat} {Y : (Nat → Nat) × (Nat → Nat) × Nat} : yi_P zi_Ms d 325 [.inr (.inr (some 2))] (I, L, R, Y) (fun r => r = (some (.inl 1), (I, L, R, Y), 0, 0)) := by
  refine yi_P_of (M := zi_m325) rfl (fun d k => ?_)
  show yi_D zi_Ms d zi_m325 k (0, [(0, .inr (.inr (some 2)))], [], (I, L, R, Y), 0, 0) _
  refine yi_D_run 1 (3, [(0, .inr (.inr (some 2)))], [.inl 1], (I, L, R, Y), 0, 0) (fun _ => rfl) ?_
  refine yi_D_if1 false rfl (by decide) ?_
  refine yi_D_run 2 (10, [(0, .inr (.inr (some 2)))], [.inl 0], (I, L, R, Y), 0, 0) (fun _ => rfl) ?_
  refine yi_D_if1 false rfl (by decide) ?_
  refine yi_D_run 2 (18, [(0, .inr (.inr (some 2)))], [.inl 1], (I, L, R, Y), 0, 0) (fun _ => rfl) ?_
  refine yi_D_reti rfl ?_
  rfl
theorem p_coder {d : Nat} {I L : Nat → Nat → Int} {R : Nat → Nat → Option Nat} {Y : (Nat → Nat) × (Nat → Nat) × Nat} : yi_P zi_Ms d 322 [.inr (.inr (some 2))] (I, L, R, Y) (fun r => r = (some (.inl 0), (I, L, R, Y), 0, 0)) := by
  refine yi_P_of (M := zi_m322) rfl (fun d k => ?_)
  show yi_D zi_Ms d zi_m322 k (0, [(0, .inr (.inr (some 2)))], [], (I, L, R, Y), 0, 0) _
  refine yi_D_run 1 (3, [(0, .inr (.inr (some 2)))], [.inl 1], (I, L, R, Y), 0, 0) (fun _ => rfl) ?_
  refine yi_D_if1 false rfl (by decide) ?_
  refine yi_D_run 3 (14, [(0, .inr (.inr (some 2)))], [.inl 0], (I, L, R, Y), 0, 0) (fun _ => rfl) ?_
  refine yi_D_reti rfl ?_
  rfl
theorem p_lengthS {d : Nat} {I L : Nat → Nat → Int} {R : Nat → Nat → Option Nat} {Y : (Nat → Nat) × (Nat → Nat) × Nat} : yi_P zi_Ms d 326 [.inr (.inr (some 2))] (I, L, R, Y) (fun r => r = (some (.inl 8), (I, L, R, Y), 0, 0)) := by
  refine yi_P_of (M := zi_m326) rfl (fun d k => ?_)
  show yi_D zi_Ms d zi_m326 k (0, [(0, .inr (.inr (some 2)))], [], (I, L, R, Y), 0, 0) _
  refine yi_D_run 4 (6, [(0, .inr (.inr (some 2)))], [.inr (.inr (some 2)), .inl 8], (I, L, R, Y), 0, 0) (fun _ => rfl) ?_
  refine yi_D_callv rfl (p_coder) ?_
  rintro _ rfl
  show yi_D zi_Ms d zi_m326 k (9, [(0, .inr (.inr (some 2)))], [.inl 0, .inl 8], (I, L, R, Y), 0, 0) _
  refine yi_D_run 1 (10, [(0, .inr (.inr (some 2)))], [.inl (yi_shr 8 0)], (I, L, R, Y), 0, 0) (fun _ => rfl) ?_
  refine yi_D_reti rfl ?_
  rfl
theorem p_canEncode {d : Nat} {I L : Nat → Nat → Int} {R : Nat → Nat → Option Nat} {Y : (Nat → Nat) × (Nat → Nat) × Nat} {c : Int} (hc : 0 ≤ c ∧ c ≤ 127) : yi_P zi_Ms d 327 [.inl c] (I, L, R, Y) (fun r => r = (some (.inl 1), (I, L, R, Y), 0, 0)) := by
  refine yi_P_of (M := zi_m327) rfl (fun d k => ?_)
  show yi_D zi_Ms d zi_m327 k (0, [(0, .inl c)], [], (I, L, R, Y), 0, 0) _
  refine yi_D_run 1 (1, [(0, .inl c)], [.inl c], (I, L, R, Y), 0, 0) (fun _ => rfl) ?_
  by_cases h1 : c < 0
  · refine yi_D_if1 true rfl (yi_lt_t h1) ?_
    refine yi_D_run 1 (16, [(0, .inl c)], [.inl 0], (I, L, R, Y), 0, 0) (fun _ => rfl) ?_
    refine yi_D_reti rfl ?_
    first
    | (exfalso; omega)
    | rfl
  · refine yi_D_if1 false rfl (yi_lt_f h1) ?_
    refine yi_D_run 2 (8, [(0, .inl c)], [.inl 255, .inl c], (I, L, R, Y), 0, 0) (fun _ => rfl) ?_
    by_cases h2 : 255 < c
    · refine yi_D_if2 true rfl (yi_gt_t h2) ?_
      refine yi_D_run 1 (16, [(0, .inl c)], [.inl 0], (I, L, R, Y), 0, 0) (fun _ => rfl) ?_
      refine yi_D_reti rfl ?_
      first
      | (exfalso; omega)
      | rfl
    · refine yi_D_if2 false rfl (yi_gt_f h2) ?_
      refine yi_D_run 2 (16, [(0, .inl c)], [.inl 1], (I, L, R, Y), 0, 0) (fun _ => rfl) ?_
      refine yi_D_reti rfl ?_
      first
      | (exfalso; omega)
      | rfl
theorem p_indexOfChar {d : Nat} {I L : Nat → Nat → Int} {R : Nat → Nat → Option Nat} {Y : (Nat → Nat) × (Nat → Nat) × Nat} {c : Int} (hc : 0 ≤ c ∧ c ≤ 127) : yi_P zi_Ms d 330 [.inr (.inr (some 6)), .inl c, .inl 0, .inl 8] (I, L, R, Y) (fun r => ∃ z, r = (some (.inl z), (I, L, R, Y), 0, 0) ∧ (tk_sg c = true → 0 ≤ z) ∧ (tk_sg c = false → z < 0)) := by
  refine yi_P_of (M := zi_m330) rfl (fun d k => ?_)
  have hb : yi_bt c = c := by unfold yi_bt; omega
  show yi_D zi_Ms d zi_m330 k (0, [(0, .inr (.inr (some 6))), (1, .inl c), (2, .inl 0), (3, .inl 8)], [], (I, L, R, Y), 0, 0) _
  refine yi_D_run 7 (10, [(5, .inl 0), (4, .inl (yi_bt c)), (0, .inr (.inr (some 6))), (1, .inl c), (2, .inl 0), (3, .inl 8)], [.inl 8, .inl 0], (I, L, R, Y), 0, 0) (fun _ => rfl) ?_
  refine yi_D_if2 false rfl (by decide) ?_
  refine yi_D_run 2 (16, [(5, .inl 0), (4, .inl (yi_bt c)), (0, .inr (.inr (some 6))), (1, .inl c), (2, .inl 0), (3, .inl 8)], [.inl 0, .inr (.inr (some 6))], (I, L, R, Y), 0, 0) (fun _ => rfl) ?_
  refine yi_D_sb (v := 40) rfl (by decide +kernel) ?_
  refine yi_D_run 1 (19, [(5, .inl 0), (4, .inl (yi_bt c)), (0, .inr (.inr (some 6))), (1, .inl c), (2, .inl 0), (3, .inl 8)], [.inl (yi_bt c), .inl 40], (I, L, R, Y), 0, 0) (fun _ => rfl) ?_
  by_cases h1 : 40 = (yi_bt c)
  · refine yi_D_if2 false rfl (yi_ne_f h1) ?_
    refine yi_D_run 1 (24, [(5, .inl 0), (4, .inl (yi_bt c)), (0, .inr (.inr (some 6))), (1, .inl c), (2, .inl 0), (3, .inl 8)], [.inl 0], (I, L, R, Y), 0, 0) (fun _ => rfl) ?_
    refine yi_D_reti rfl ?_
    refine ⟨_, rfl, fun hs => ?_, fun hs => ?_⟩
    · have hs := tk_sg_t.mp hs; omega
    · have hn : ¬ tk_sg c = true := by rw [hs]; decide
      rw [tk_sg_t] at hn
      omega
  · refine yi_D_if2 true rfl (yi_ne_t h1) ?_
    refine yi_D_iinc [(5, .inl 1), (4, .inl (yi_bt c)), (0, .inr (.inr (some 6))), (1, .inl c), (2, .inl 0), (3, .inl 8)] rfl rfl rfl (by rw [show yi_w (0 + 1) = 1 from (yi_wn (by omega) (by omega)).trans (by omega)]; rfl) ?_
    refine yi_D_run 3 (10, [(5, .inl 1), (4, .inl (yi_bt c)), (0, .inr (.inr (some 6))), (1, .inl c), (2, .inl 0), (3, .inl 8)], [.inl 8, .inl 1], (I, L, R, Y), 0, 0) (fun _ => rfl) ?_
    refine yi_D_if2 false rfl (by decide) ?_
    refine yi_D_run 2 (16, [(5, .inl 1), (4, .inl (yi_bt c)), (0, .inr (.inr (some 6))), (1, .inl c), (2, .inl 0), (3, .inl 8)], [.inl 1, .inr (.inr (some 6))], (I, L, R, Y), 0, 0) (fun _ => rfl) ?_
    refine yi_D_sb (v := 41) rfl (by decide +kernel) ?_
    refine yi_D_run 1 (19, [(5, .inl 1), (4, .inl (yi_bt c)), (0, .inr (.inr (some 6))), (1, .inl c), (2, .inl 0), (3, .inl 8)], [.inl (yi_bt c), .inl 41], (I, L, R, Y), 0, 0) (fun _ => rfl) ?_
    by_cases h2 : 41 = (yi_bt c)
    · refine yi_D_if2 false rfl (yi_ne_f h2) ?_
      refine yi_D_run 1 (24, [(5, .inl 1), (4, .inl (yi_bt c)), (0, .inr (.inr (some 6))), (1, .inl c), (2, .inl 0), (3, .inl 8)], [.inl 1], (I, L, R, Y), 0, 0) (fun _ => rfl) ?_
      refine yi_D_reti rfl ?_
      refine ⟨_, rfl, fun hs => ?_, fun hs => ?_⟩
      · have hs := tk_sg_t.mp hs; omega
      · have hn : ¬ tk_sg c = true := by rw [hs]; decide
        rw [tk_sg_t] at hn
        omega
    · refine yi_D_if2 true rfl (yi_ne_t h2) ?_
      refine yi_D_iinc [(5, .inl 2), (4, .inl (yi_bt c)), (0, .inr (.inr (some 6))), (1, .inl c), (2, .inl 0), (3, .inl 8)] rfl rfl rfl (by rw [show yi_w (1 + 1) = 2 from (yi_wn (by omega) (by omega)).trans (by omega)]; rfl) ?_
      refine yi_D_run 3 (10, [(5, .inl 2), (4, .inl (yi_bt c)), (0, .inr (.inr (some 6))), (1, .inl c), (2, .inl 0), (3, .inl 8)], [.inl 8, .inl 2], (I, L, R, Y), 0, 0) (fun _ => rfl) ?_
      refine yi_D_if2 false rfl (by decide) ?_
      refine yi_D_run 2 (16, [(5, .inl 2), (4, .inl (yi_bt c)), (0, .inr (.inr (some 6))), (1, .inl c), (2, .inl 0), (3, .inl 8)], [.inl 2, .inr (.inr (some 6))], (I, L, R, Y), 0, 0) (fun _ => rfl) ?_
      refine yi_D_sb (v := 60) rfl (by decide +kernel) ?_
      refine yi_D_run 1 (19, [(5, .inl 2), (4, .inl (yi_bt c)), (0, .inr (.inr (some 6))), (1, .inl c), (2, .inl 0), (3, .inl 8)], [.inl (yi_bt c), .inl 60], (I, L, R, Y), 0, 0) (fun _ => rfl) ?_
      by_cases h3 : 60 = (yi_bt c)
      · refine yi_D_if2 false rfl (yi_ne_f h3) ?_
        refine yi_D_run 1 (24, [(5, .inl 2), (4, .inl (yi_bt c)), (0, .inr (.inr (some 6))), (1, .inl c), (2, .inl 0), (3, .inl 8)], [.inl 2], (I, L, R, Y), 0, 0) (fun _ => rfl) ?_
        refine yi_D_reti rfl ?_
        refine ⟨_, rfl, fun hs => ?_, fun hs => ?_⟩
        · have hs := tk_sg_t.mp hs; omega
        · have hn : ¬ tk_sg c = true := by rw [hs]; decide
          rw [tk_sg_t] at hn
          omega
      · refine yi_D_if2 true rfl (yi_ne_t h3) ?_
        refine yi_D_iinc [(5, .inl 3), (4, .inl (yi_bt c)), (0, .inr (.inr (some 6))), (1, .inl c), (2, .inl 0), (3, .inl 8)] rfl rfl rfl (by rw [show yi_w (2 + 1) = 3 from (yi_wn (by omega) (by omega)).trans (by omega)]; rfl) ?_
        refine yi_D_run 3 (10, [(5, .inl 3), (4, .inl (yi_bt c)), (0, .inr (.inr (some 6))), (1, .inl c), (2, .inl 0), (3, .inl 8)], [.inl 8, .inl 3], (I, L, R, Y), 0, 0) (fun _ => rfl) ?_
        refine yi_D_if2 false rfl (by decide) ?_
        refine yi_D_run 2 (16, [(5, .inl 3), (4, .inl (yi_bt c)), (0, .inr (.inr (some 6))), (1, .inl c), (2, .inl 0), (3, .inl 8)], [.inl 3, .inr (.inr (some 6))], (I, L, R, Y), 0, 0) (fun _ => rfl) ?_
        refine yi_D_sb (v := 61) rfl (by decide +kernel) ?_
        refine yi_D_run 1 (19, [(5, .inl 3), (4, .inl (yi_bt c)), (0, .inr (.inr (some 6))), (1, .inl c), (2, .inl 0), (3, .inl 8)], [.inl (yi_bt c), .inl 61], (I, L, R, Y), 0, 0) (fun _ => rfl) ?_
        by_cases h4 : 61 = (yi_bt c)
        · refine yi_D_if2 false rfl (yi_ne_f h4) ?_
          refine yi_D_run 1 (24, [(5, .inl 3), (4, .inl (yi_bt c)), (0, .inr (.inr (some 6))), (1, .inl c), (2, .inl 0), (3, .inl 8)], [.inl 3], (I, L, R, Y), 0, 0) (fun _ => rfl) ?_
          refine yi_D_reti rfl ?_
          refine ⟨_, rfl, fun hs => ?_, fun hs => ?_⟩
          · have hs := tk_sg_t.mp hs; omega
          · have hn : ¬ tk_sg c = true := by rw [hs]; decide
            rw [tk_sg_t] at hn
            omega
        · refine yi_D_if2 true rfl (yi_ne_t h4) ?_
          refine yi_D_iinc [(5, .inl 4), (4, .inl (yi_bt c)), (0, .inr (.inr (some 6))), (1, .inl c), (2, .inl 0), (3, .inl 8)] rfl rfl rfl (by rw [show yi_w (3 + 1) = 4 from (yi_wn (by omega) (by omega)).trans (by omega)]; rfl) ?_
          refine yi_D_run 3 (10, [(5, .inl 4), (4, .inl (yi_bt c)), (0, .inr (.inr (some 6))), (1, .inl c), (2, .inl 0), (3, .inl 8)], [.inl 8, .inl 4], (I, L, R, Y), 0, 0) (fun _ => rfl) ?_
          refine yi_D_if2 false rfl (by decide) ?_
          refine yi_D_run 2 (16, [(5, .inl 4), (4, .inl (yi_bt c)), (0, .inr (.inr (some 6))), (1, .inl c), (2, .inl 0), (3, .inl 8)], [.inl 4, .inr (.inr (some 6))], (I, L, R, Y), 0, 0) (fun _ => rfl) ?_
          refine yi_D_sb (v := 43) rfl (by decide +kernel) ?_
          refine yi_D_run 1 (19, [(5, .inl 4), (4, .inl (yi_bt c)), (0, .inr (.inr (some 6))), (1, .inl c), (2, .inl 0), (3, .inl 8)], [.inl (yi_bt c), .inl 43], (I, L, R, Y), 0, 0) (fun _ => rfl) ?_
          by_cases h5 : 43 = (yi_bt c)
          · refine yi_D_if2 false rfl (yi_ne_f h5) ?_
            refine yi_D_run 1 (24, [(5, .inl 4), (4, .inl (yi_bt c)), (0, .inr (.inr (some 6))), (1, .inl c), (2, .inl 0), (3, .inl 8)], [.inl 4], (I, L, R, Y), 0, 0) (fun _ => rfl) ?_
            refine yi_D_reti rfl ?_
            refine ⟨_, rfl, fun hs => ?_, fun hs => ?_⟩
            · have hs := tk_sg_t.mp hs; omega
            · have hn : ¬ tk_sg c = true := by rw [hs]; decide
              rw [tk_sg_t] at hn
              omega
          · refine yi_D_if2 true rfl (yi_ne_t h5) ?_
            refine yi_D_iinc [(5, .inl 5), (4, .inl (yi_bt c)), (0, .inr (.inr (some 6))), (1, .inl c), (2, .inl 0), (3, .inl 8)] rfl rfl rfl (by rw [show yi_w (4 + 1) = 5 from (yi_wn (by omega) (by omega)).trans (by omega)]; rfl) ?_
            refine yi_D_run 3 (10, [(5, .inl 5), (4, .inl (yi_bt c)), (0, .inr (.inr (some 6))), (1, .inl c), (2, .inl 0), (3, .inl 8)], [.inl 8, .inl 5], (I, L, R, Y), 0, 0) (fun _ => rfl) ?_
            refine yi_D_if2 false rfl (by decide) ?_
            refine yi_D_run 2 (16, [(5, .inl 5), (4, .inl (yi_bt c)), (0, .inr (.inr (some 6))), (1, .inl c), (2, .inl 0), (3, .inl 8)], [.inl 5, .inr (.inr (some 6))], (I, L, R, Y), 0, 0) (fun _ => rfl) ?_
            refine yi_D_sb (v := 45) rfl (by decide +kernel) ?_
            refine yi_D_run 1 (19, [(5, .inl 5), (4, .inl (yi_bt c)), (0, .inr (.inr (some 6))), (1, .inl c), (2, .inl 0), (3, .inl 8)], [.inl (yi_bt c), .inl 45], (I, L, R, Y), 0, 0) (fun _ => rfl) ?_
            by_cases h6 : 45 = (yi_bt c)
            · refine yi_D_if2 false rfl (yi_ne_f h6) ?_
              refine yi_D_run 1 (24, [(5, .inl 5), (4, .inl (yi_bt c)), (0, .inr (.inr (some 6))), (1, .inl c), (2, .inl 0), (3, .inl 8)], [.inl 5], (I, L, R, Y), 0, 0) (fun _ => rfl) ?_
              refine yi_D_reti rfl ?_
              refine ⟨_, rfl, fun hs => ?_, fun hs => ?_⟩
              · have hs := tk_sg_t.mp hs; omega
              · have hn : ¬ tk_sg c = true := by rw [hs]; decide
                rw [tk_sg_t] at hn
                omega
            · refine yi_D_if2 true rfl (yi_ne_t h6) ?_
              refine yi_D_iinc [(5, .inl 6), (4, .inl (yi_bt c)), (0, .inr (.inr (some 6))), (1, .inl c), (2, .inl 0), (3, .inl 8)] rfl rfl rfl (by rw [show yi_w (5 + 1) = 6 from (yi_wn (by omega) (by omega)).trans (by omega)]; rfl) ?_
              refine yi_D_run 3 (10, [(5, .inl 6), (4, .inl (yi_bt c)), (0, .inr (.inr (some 6))), (1, .inl c), (2, .inl 0), (3, .inl 8)], [.inl 8, .inl 6], (I, L, R, Y), 0, 0) (fun _ => rfl) ?_
              refine yi_D_if2 false rfl (by decide) ?_
              refine yi_D_run 2 (16, [(5, .inl 6), (4, .inl (yi_bt c)), (0, .inr (.inr (some 6))), (1, .inl c), (2, .inl 0), (3, .inl 8)], [.inl 6, .inr (.inr (some 6))], (I, L, R, Y), 0, 0) (fun _ => rfl) ?_
              refine yi_D_sb (v := 42) rfl (by decide +kernel) ?_
              refine yi_D_run 1 (19, [(5, .inl 6), (4, .inl (yi_bt c)), (0, .inr (.inr (some 6))), (1, .inl c), (2, .inl 0), (3, .inl 8)], [.inl (yi_bt c), .inl 42], (I, L, R, Y), 0, 0) (fun _ => rfl) ?_
              by_cases h7 : 42 = (yi_bt c)
              · refine yi_D_if2 false rfl (yi_ne_f h7) ?_
                refine yi_D_run 1 (24, [(5, .inl 6), (4, .inl (yi_bt c)), (0, .inr (.inr (some 6))), (1, .inl c), (2, .inl 0), (3, .inl 8)], [.inl 6], (I, L, R, Y), 0, 0) (fun _ => rfl) ?_
                refine yi_D_reti rfl ?_
                refine ⟨_, rfl, fun hs => ?_, fun hs => ?_⟩
                · have hs := tk_sg_t.mp hs; omega
                · have hn : ¬ tk_sg c = true := by rw [hs]; decide
                  rw [tk_sg_t] at hn
                  omega
              · refine yi_D_if2 true rfl (yi_ne_t h7) ?_
                refine yi_D_iinc [(5, .inl 7), (4, .inl (yi_bt c)), (0, .inr (.inr (some 6))), (1, .inl c), (2, .inl 0), (3, .inl 8)] rfl rfl rfl (by rw [show yi_w (6 + 1) = 7 from (yi_wn (by omega) (by omega)).trans (by omega)]; rfl) ?_
                refine yi_D_run 3 (10, [(5, .inl 7), (4, .inl (yi_bt c)), (0, .inr (.inr (some 6))), (1, .inl c), (2, .inl 0), (3, .inl 8)], [.inl 8, .inl 7], (I, L, R, Y), 0, 0) (fun _ => rfl) ?_
                refine yi_D_if2 false rfl (by decide) ?_
                refine yi_D_run 2 (16, [(5, .inl 7), (4, .inl (yi_bt c)), (0, .inr (.inr (some 6))), (1, .inl c), (2, .inl 0), (3, .inl 8)], [.inl 7, .inr (.inr (some 6))], (I, L, R, Y), 0, 0) (fun _ => rfl) ?_
                refine yi_D_sb (v := 59) rfl (by decide +kernel) ?_
                refine yi_D_run 1 (19, [(5, .inl 7), (4, .inl (yi_bt c)), (0, .inr (.inr (some 6))), (1, .inl c), (2, .inl 0), (3, .inl 8)], [.inl (yi_bt c), .inl 59], (I, L, R, Y), 0, 0) (fun _ => rfl) ?_
                by_cases h8 : 59 = (yi_bt c)
                · refine yi_D_if2 false rfl (yi_ne_f h8) ?_
                  refine yi_D_run 1 (24, [(5, .inl 7), (4, .inl (yi_bt c)), (0, .inr (.inr (some 6))), (1, .inl c), (2, .inl 0), (3, .inl 8)], [.inl 7], (I, L, R, Y), 0, 0) (fun _ => rfl) ?_
                  refine yi_D_reti rfl ?_
                  refine ⟨_, rfl, fun hs => ?_, fun hs => ?_⟩
                  · have hs := tk_sg_t.mp hs; omega
                  · have hn : ¬ tk_sg c = true := by rw [hs]; decide
                    rw [tk_sg_t] at hn
                    omega
                · refine yi_D_if2 true rfl (yi_ne_t h8) ?_
                  refine yi_D_iinc [(5, .inl 8), (4, .inl (yi_bt c)), (0, .inr (.inr (some 6))), (1, .inl c), (2, .inl 0), (3, .inl 8)] rfl rfl rfl (by rw [show yi_w (7 + 1) = 8 from (yi_wn (by omega) (by omega)).trans (by omega)]; rfl) ?_
                  refine yi_D_run 3 (10, [(5, .inl 8), (4, .inl (yi_bt c)), (0, .inr (.inr (some 6))), (1, .inl c), (2, .inl 0), (3, .inl 8)], [.inl 8, .inl 8], (I, L, R, Y), 0, 0) (fun _ => rfl) ?_
                  refine yi_D_if2 true rfl (by decide) ?_
                  refine yi_D_run 1 (32, [(5, .inl 8), (4, .inl (yi_bt c)), (0, .inr (.inr (some 6))), (1, .inl c), (2, .inl 0), (3, .inl 8)], [.inl (-1)], (I, L, R, Y), 0, 0) (fun _ => rfl) ?_
                  refine yi_D_reti rfl ?_
                  refine ⟨_, rfl, fun hs => ?_, fun hs => ?_⟩
                  · have hs := tk_sg_t.mp hs; omega
                  · have hn : ¬ tk_sg c = true := by rw [hs]; decide
                    rw [tk_sg_t] at hn
                    omega
theorem p_indexOfL {d : Nat} {I L : Nat → Nat → Int} {R : Nat → Nat → Option Nat} {Y : (Nat → Nat) × (Nat → Nat) × Nat} {c : Int} (hc : 0 ≤ c ∧ c ≤ 127) : yi_P zi_Ms d 329 [.inr (.inr (some 6)), .inl c, .inl 0, .inl 8] (I, L, R, Y) (fun r => ∃ z, r = (some (.inl z), (I, L, R, Y), 0, 0) ∧ (tk_sg c = true → 0 ≤ z) ∧ (tk_sg c = false → z < 0)) := by
  refine yi_P_of (M := zi_m329) rfl (fun d k => ?_)
  show yi_D zi_Ms d zi_m329 k (0, [(0, .inr (.inr (some 6))), (1, .inl c), (2, .inl 0), (3, .inl 8)], [], (I, L, R, Y), 0, 0) _
  refine yi_D_run 1 (1, [(0, .inr (.inr (some 6))), (1, .inl c), (2, .inl 0), (3, .inl 8)], [.inl c], (I, L, R, Y), 0, 0) (fun _ => rfl) ?_
  refine yi_D_calls rfl (p_canEncode ⟨by omega, by omega⟩) ?_
  rintro _ rfl
  show yi_D zi_Ms d zi_m329 k (4, [(0, .inr (.inr (some 6))), (1, .inl c), (2, .inl 0), (3, .inl 8)], [.inl 1], (I, L, R, Y), 0, 0) _
  refine yi_D_if1 true rfl (by decide) ?_
  refine yi_D_run 2 (11, [(0, .inr (.inr (some 6))), (1, .inl c), (2, .inl 0), (3, .inl 8)], [.inl 0, .inl 0], (I, L, R, Y), 0, 0) (fun _ => rfl) ?_
  refine yi_D_run 1 (14, [(0, .inr (.inr (some 6))), (1, .inl c), (2, .inl 0), (3, .inl 8)], [.inl 0], (I, L, R, Y), 0, 0) (fun _ => rfl) ?_
  refine yi_D_run 4 (18, [(2, .inl 0), (0, .inr (.inr (some 6))), (1, .inl c), (3, .inl 8)], [.inl 8, .inl 8], (I, L, R, Y), 0, 0) (fun _ => rfl) ?_
  refine yi_D_run 1 (21, [(2, .inl 0), (0, .inr (.inr (some 6))), (1, .inl c), (3, .inl 8)], [.inl 8], (I, L, R, Y), 0, 0) (fun _ => rfl) ?_
  refine yi_D_run 3 (24, [(3, .inl 8), (2, .inl 0), (0, .inr (.inr (some 6))), (1, .inl c)], [.inl 8, .inl 0], (I, L, R, Y), 0, 0) (fun _ => rfl) ?_
  refine yi_D_if2 true rfl (by decide) ?_
  refine yi_D_run 4 (33, [(3, .inl 8), (2, .inl 0), (0, .inr (.inr (some 6))), (1, .inl c)], [.inl 8, .inl 0, .inl c, .inr (.inr (some 6))], (I, L, R, Y), 0, 0) (fun _ => rfl) ?_
  refine yi_D_calls rfl (p_indexOfChar hc) ?_
  rintro _ ⟨z, rfl, hz1, hz2⟩
  show yi_D zi_Ms d zi_m329 k (36, [(3, .inl 8), (2, .inl 0), (0, .inr (.inr (some 6))), (1, .inl c)], [.inl z], (I, L, R, Y), 0, 0) _
  refine yi_D_reti rfl ?_
  exact ⟨_, rfl, hz1, hz2⟩
theorem p_indexOf2 {d : Nat} {I L : Nat → Nat → Int} {R : Nat → Nat → Option Nat} {Y : (Nat → Nat) × (Nat → Nat) × Nat} {c : Int} (hc : 0 ≤ c ∧ c ≤ 127) : yi_P zi_Ms d 324 [.inr (.inr (some 2)), .inl c, .inl 0] (I, L, R, Y) (fun r => ∃ z, r = (some (.inl z), (I, L, R, Y), 0, 0) ∧ (tk_sg c = true → 0 ≤ z) ∧ (tk_sg c = false → z < 0)) := by
  refine yi_P_of (M := zi_m324) rfl (fun d k => ?_)
  show yi_D zi_Ms d zi_m324 k (0, [(0, .inr (.inr (some 2))), (1, .inl c), (2, .inl 0)], [], (I, L, R, Y), 0, 0) _
  refine yi_D_run 1 (1, [(0, .inr (.inr (some 2))), (1, .inl c), (2, .inl 0)], [.inr (.inr (some 2))], (I, L, R, Y), 0, 0) (fun _ => rfl) ?_
  refine yi_D_callv rfl (p_isLatin1) ?_
  rintro _ rfl
  show yi_D zi_Ms d zi_m324 k (4, [(0, .inr (.inr (some 2))), (1, .inl c), (2, .inl 0)], [.inl 1], (I, L, R, Y), 0, 0) _
  refine yi_D_if1 false rfl (by decide) ?_
  refine yi_D_run 5 (14, [(0, .inr (.inr (some 2))), (1, .inl c), (2, .inl 0)], [.inr (.inr (some 2)), .inl 0, .inl c, .inr (.inr (some 6))], (I, L, R, Y), 0, 0) (fun _ => rfl) ?_
  refine yi_D_callv rfl (p_lengthS) ?_
  rintro _ rfl
  show yi_D zi_Ms d zi_m324 k (17, [(0, .inr (.inr (some 2))), (1, .inl c), (2, .inl 0)], [.inl 8, .inl 0, .inl c, .inr (.inr (some 6))], (I, L, R, Y), 0, 0) _
  refine yi_D_calls rfl (p_indexOfL hc) ?_
  rintro _ ⟨z, rfl, hz1, hz2⟩
  show yi_D zi_Ms d zi_m324 k (20, [(0, .inr (.inr (some 2))), (1, .inl c), (2, .inl 0)], [.inl z], (I, L, R, Y), 0, 0) _
  refine yi_D_run 1 (36, [(0, .inr (.inr (some 2))), (1, .inl c), (2, .inl 0)], [.inl z], (I, L, R, Y), 0, 0) (fun _ => rfl) ?_
  refine yi_D_reti rfl ?_
  exact ⟨_, rfl, hz1, hz2⟩
theorem p_indexOf1 {d : Nat} {I L : Nat → Nat → Int} {R : Nat → Nat → Option Nat} {Y : (Nat → Nat) × (Nat → Nat) × Nat} {c : Int} (hc : 0 ≤ c ∧ c ≤ 127) : yi_P zi_Ms d 323 [.inr (.inr (some 2)), .inl c] (I, L, R, Y) (fun r => ∃ z, r = (some (.inl z), (I, L, R, Y), 0, 0) ∧ (tk_sg c = true → 0 ≤ z) ∧ (tk_sg c = false → z < 0)) := by
  refine yi_P_of (M := zi_m323) rfl (fun d k => ?_)
  show yi_D zi_Ms d zi_m323 k (0, [(0, .inr (.inr (some 2))), (1, .inl c)], [], (I, L, R, Y), 0, 0) _
  refine yi_D_run 3 (3, [(0, .inr (.inr (some 2))), (1, .inl c)], [.inl 0, .inl c, .inr (.inr (some 2))], (I, L, R, Y), 0, 0) (fun _ => rfl) ?_
  refine yi_D_callv rfl (p_indexOf2 hc) ?_
  rintro _ ⟨z, rfl, hz1, hz2⟩
  show yi_D zi_Ms d zi_m323 k (6, [(0, .inr (.inr (some 2))), (1, .inl c)], [.inl z], (I, L, R, Y), 0, 0) _
  refine yi_D_reti rfl ?_
  exact ⟨_, rfl, hz1, hz2⟩
