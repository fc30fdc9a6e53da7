/-! Signs come onto the tape. -/
def tl_c (c : Int) (x : (Nat → Int) × Int) : (Nat → Int) × Int := if (c = 10 ∨ (32 ≤ c ∧ c ≤ 126)) ∧ x.2 < 1000 then (sp_up x.1 x.2.toNat c, x.2 + 1) else x
def tl_f (b : Int → Int) (x : (Nat → Int) × Int) : Nat → (Nat → Int) × Int
  | 0 => x
  | j + 1 => tl_c (b (56 - 8 * (j : Int))) (tl_f b x j)
def tl_3 (ba bb bc : Int → Int) (x : (Nat → Int) × Int) : (Nat → Int) × Int := tl_f bc (tl_f bb (tl_f ba x 8) 8) 8
/-- two tapes that are alike -/
def tl_R (x y : (Nat → Int) × Int) : Prop := x.2 = y.2 ∧ (0 ≤ x.2 ∧ x.2 ≤ 1000) ∧ ∀ i : Nat, (i : Int) < x.2 → x.1 i = y.1 i ∧ 10 ≤ y.1 i ∧ y.1 i ≤ 126
theorem tl_R_c {c : Int} {x y : (Nat → Int) × Int} (h : tl_R x y) : tl_R (tl_c c x) (tl_c c y) := by
  obtain ⟨h1, h2, h3⟩ := h
  unfold tl_c
  rw [← h1]
  by_cases z : (c = 10 ∨ (32 ≤ c ∧ c ≤ 126)) ∧ x.2 < 1000
  · rw [if_pos z, if_pos z]
    refine ⟨rfl, (show 0 ≤ x.2 + 1 ∧ x.2 + 1 ≤ 1000 by omega), fun i hi => ?_⟩
    have hi : (i : Int) < x.2 + 1 := hi
    show sp_up x.1 x.2.toNat c i = sp_up y.1 x.2.toNat c i ∧ 10 ≤ sp_up y.1 x.2.toNat c i ∧ sp_up y.1 x.2.toNat c i ≤ 126
    by_cases e : i = x.2.toNat
    · subst e
      rw [sp_up_e, sp_up_e]
      omega
    · rw [sp_up_n _ _ e, sp_up_n _ _ e]
      exact h3 i (by omega)
  · rw [if_neg z, if_neg z]
    exact ⟨h1, h2, h3⟩
theorem tl_R_f {b b' : Int → Int} {x y : (Nat → Int) × Int} (h : tl_R x y) (hb : ∀ j : Nat, j < 8 → b (56 - 8 * (j : Int)) = b' (56 - 8 * (j : Int))) : ∀ j, j ≤ 8 → tl_R (tl_f b x j) (tl_f b' y j)
  | 0, _ => h
  | j + 1, hj => by
    show tl_R (tl_c (b (56 - 8 * (j : Int))) (tl_f b x j)) (tl_c (b' (56 - 8 * (j : Int))) (tl_f b' y j))
    rw [hb j (by omega)]
    exact tl_R_c (tl_R_f h hb j (by omega))
theorem tl_by (v : Int) (j : Nat) (h : j < 8) : yi_w (yi_land (yi_lushr v (56 - 8 * (j : Int))) 255) = yi_iand (yi_w (yi_lshr v (56 - 8 * (j : Int)))) 255 := (lw_by (by omega)).symm
theorem q_lay {d : Nat} {I L : Nat → Nat → Int} {R : Nat → Nat → Option Nat} {Y : (Nat → Nat) × (Nat → Nat) × Nat} (hS : ym_S (R, Y)) {v : Int} (hb : 0 ≤ I 82 2 ∧ I 82 2 ≤ 1000) : yi_P zi_Ms d 73 [.inr (.inr (some 82)), .inr (.inl v)] (I, L, R, Y) (fun r => ∃ I', r = (none, (I', L, R, Y), 0, 0) ∧ (∀ k, I' 83 k = (tl_f (fun k => yi_iand (yi_w (yi_lshr v k)) 255) (I 83, I 82 2) 8).1 k) ∧ I' 82 2 = (tl_f (fun k => yi_iand (yi_w (yi_lshr v k)) 255) (I 83, I 82 2) 8).2 ∧ (0 ≤ I' 82 2 ∧ I' 82 2 ≤ 1000) ∧ (∀ p k, p ≠ 83 ∧ ¬ (p = 82 ∧ k = 2) → I' p k = I p k)) := by
  refine yi_P_of (M := zi_m73) rfl (fun d k => ?_)
  show yi_D zi_Ms d zi_m73 k (0, [(0, .inr (.inr (some 82))), (1, .inr (.inl v))], [], (I, L, R, Y), 0, 0) _
  refine yi_D_run 2 (3, [(3, .inl 56), (0, .inr (.inr (some 82))), (1, .inr (.inl v))], [], (I, L, R, Y), 0, 0) (fun _ => rfl) ?_
  have pt3 : ∀ j3, j3 ≤ k → ∀ (y3 : Int) (q4 : Int) (J1 : Nat → Nat → Int) (j : Nat), (j ≤ 8 ∧ y3 = 56 - 8 * (j : Int)) → (∀ k, J1 83 k = (tl_f (fun k => yi_iand (yi_w (yi_lshr v k)) 255) (I 83, I 82 2) j).1 k) → (J1 82 2 = (tl_f (fun k => yi_iand (yi_w (yi_lshr v k)) 255) (I 83, I 82 2) j).2) → (0 ≤ J1 82 2 ∧ J1 82 2 ≤ 1000) → (∀ p k, p ≠ 83 ∧ ¬ (p = 82 ∧ k = 2) → J1 p k = I p k) → yi_D zi_Ms d zi_m73 j3 (3, [(3, .inl y3), (0, .inr (.inr (some 82))), (1, .inr (.inl v)), (4, .inl q4)], [], (J1, L, R, Y), 0, 0) (fun r => ∃ I', r = (none, (I', L, R, Y), 0, 0) ∧ (∀ k, I' 83 k = (tl_f (fun k => yi_iand (yi_w (yi_lshr v k)) 255) (I 83, I 82 2) 8).1 k) ∧ I' 82 2 = (tl_f (fun k => yi_iand (yi_w (yi_lshr v k)) 255) (I 83, I 82 2) 8).2 ∧ (0 ≤ I' 82 2 ∧ I' 82 2 ≤ 1000) ∧ (∀ p k, p ≠ 83 ∧ ¬ (p = 82 ∧ k = 2) → I' p k = I p k)) := by
    intro j3
    induction j3 with
    | zero => intros; exact yi_D_0
    | succ j3 ih3 =>
    intro hk3 y3 q4 J1 j hj hT hl hb9 fI
    refine yi_D_run1 0 (4, [(3, .inl y3), (0, .inr (.inr (some 82))), (1, .inr (.inl v)), (4, .inl q4)], [.inl y3], (J1, L, R, Y), 0, 0) (fun _ => rfl) ?_
    by_cases h1 : y3 < 0
    · refine yi_D_if1 true rfl (yi_lt_t h1) ?_
      refine yi_D_retv rfl ?_
      have h8 : j = 8 := by omega
      subst h8
      exact ⟨_, rfl, hT, hl, hb9, fI⟩
    · refine yi_D_if1 false rfl (yi_lt_f h1) ?_
      refine yi_D_run 9 (21, [(4, .inl (yi_iand (yi_w (yi_lshr v y3)) 255)), (3, .inl y3), (0, .inr (.inr (some 82))), (1, .inr (.inl v))], [.inl 10, .inl (yi_iand (yi_w (yi_lshr v y3)) 255)], (J1, L, R, Y), 0, 0) (fun _ => rfl) ?_
      by_cases h2 : (yi_iand (yi_w (yi_lshr v y3)) 255) = 10
      · refine yi_D_if2 true rfl (yi_eq_t h2) ?_
        refine yi_D_run 1 (39, [(4, .inl (yi_iand (yi_w (yi_lshr v y3)) 255)), (3, .inl y3), (0, .inr (.inr (some 82))), (1, .inr (.inl v))], [.inr (.inr (some 82))], (J1, L, R, Y), 0, 0) (fun _ => rfl) ?_
        refine yi_D_gi (v := J1 82 2) rfl rfl rfl rfl (fun _ => ?_)
        refine yi_D_run 1 (45, [(4, .inl (yi_iand (yi_w (yi_lshr v y3)) 255)), (3, .inl y3), (0, .inr (.inr (some 82))), (1, .inr (.inl v))], [.inl 1000, .inl (J1 82 2)], (J1, L, R, Y), 0, 0) (fun _ => rfl) ?_
        by_cases h3 : 1000 ≤ (J1 82 2)
        · refine yi_D_if2 true rfl (yi_ge_t h3) ?_
          have hst : tl_f (fun k => yi_iand (yi_w (yi_lshr v k)) 255) (I 83, I 82 2) (j + 1) = tl_f (fun k => yi_iand (yi_w (yi_lshr v k)) 255) (I 83, I 82 2) j := by
            show tl_c (yi_iand (yi_w (yi_lshr v (56 - 8 * (j : Int)))) 255) _ = _
            rw [← hj.2]
            unfold tl_c
            rw [if_neg (by omega)]
          refine yi_D_iinc [(3, .inl (y3 - 8)), (4, .inl (yi_iand (yi_w (yi_lshr v y3)) 255)), (0, .inr (.inr (some 82))), (1, .inr (.inl v))] rfl rfl rfl (by rw [show yi_w (y3 + (-8)) = y3 - 8 from (yi_wn (by omega) (by omega)).trans (by omega)]; rfl) ?_
          refine yi_D_run 1 (3, [(3, .inl (y3 - 8)), (4, .inl (yi_iand (yi_w (yi_lshr v y3)) 255)), (0, .inr (.inr (some 82))), (1, .inr (.inl v))], [], (J1, L, R, Y), 0, 0) (fun _ => rfl) ?_
          refine yi_D_al (al := [(3, .inl (y3 - 8)), (0, .inr (.inr (some 82))), (1, .inr (.inl v)), (4, .inl (yi_iand (yi_w (yi_lshr v y3)) 255))]) (show ([3, 0, 1, 4] : List Nat).Nodup by decide) (show ([3, 4, 0, 1] : List Nat).Nodup by decide) (yi_mc (List.mem_of_getElem? (i := 0) rfl) (yi_mc (List.mem_of_getElem? (i := 3) rfl) (yi_mc (List.mem_of_getElem? (i := 1) rfl) (yi_mc (List.mem_of_getElem? (i := 2) rfl) yi_mn)))) ?_
          exact yi_D_mono (ih3 (by omega) (y3 - 8) (yi_iand (yi_w (yi_lshr v y3)) 255) J1 (j + 1) (by omega) (by rw [hst]; exact hT) (by rw [hst]; exact hl) hb9 fI) (by omega)
        · refine yi_D_if2 false rfl (yi_ge_f h3) ?_
          refine yi_D_run 1 (49, [(4, .inl (yi_iand (yi_w (yi_lshr v y3)) 255)), (3, .inl y3), (0, .inr (.inr (some 82))), (1, .inr (.inl v))], [.inr (.inr (some 82))], (J1, L, R, Y), 0, 0) (fun _ => rfl) ?_
          refine yi_D_gr (v := some 83) rfl rfl rfl (ym_S_at hS (j := 0) rfl).1 (fun _ => ?_)
          refine yi_D_run 1 (53, [(4, .inl (yi_iand (yi_w (yi_lshr v y3)) 255)), (3, .inl y3), (0, .inr (.inr (some 82))), (1, .inr (.inl v))], [.inr (.inr (some 82)), .inr (.inr (some 83))], (J1, L, R, Y), 0, 0) (fun _ => rfl) ?_
          refine yi_D_gi (v := J1 82 2) rfl rfl rfl rfl (fun _ => ?_)
          refine yi_D_run 1 (58, [(4, .inl (yi_iand (yi_w (yi_lshr v y3)) 255)), (3, .inl y3), (0, .inr (.inr (some 82))), (1, .inr (.inl v))], [.inl (yi_iand (yi_w (yi_lshr v y3)) 255), .inl (J1 82 2), .inr (.inr (some 83))], (J1, L, R, Y), 0, 0) (fun _ => rfl) ?_
          refine yi_D_is rfl (fun _ _ => ?_)
          generalize w5 : yi_u J1 83 ((J1 82 2).toNat) (yi_iand (yi_w (yi_lshr v y3)) 255) = I4
          refine yi_D_run 2 (61, [(4, .inl (yi_iand (yi_w (yi_lshr v y3)) 255)), (3, .inl y3), (0, .inr (.inr (some 82))), (1, .inr (.inl v))], [.inr (.inr (some 82)), .inr (.inr (some 82))], (I4, L, R, Y), 0, 0) (fun _ => rfl) ?_
          have r6 : I4 82 2 = J1 82 2 := by rw [← w5, yi_u_ne _ _ (by omega)]
          refine yi_D_gi (v := J1 82 2) rfl rfl rfl r6 (fun _ => ?_)
          refine yi_D_run 1 (65, [(4, .inl (yi_iand (yi_w (yi_lshr v y3)) 255)), (3, .inl y3), (0, .inr (.inr (some 82))), (1, .inr (.inl v))], [.inl 1, .inl (J1 82 2), .inr (.inr (some 82))], (I4, L, R, Y), 0, 0) (fun _ => rfl) ?_
          refine yi_D_iadd rfl ((J1 82 2) + 1) (yi_wn (by omega) (by omega)) ?_
          refine yi_D_pi rfl (fun _ => ?_)
          generalize w8 : yi_u I4 82 2 ((J1 82 2) + 1) = I7
          have hst : tl_f (fun k => yi_iand (yi_w (yi_lshr v k)) 255) (I 83, I 82 2) (j + 1) = (sp_up (tl_f (fun k => yi_iand (yi_w (yi_lshr v k)) 255) (I 83, I 82 2) j).1 (tl_f (fun k => yi_iand (yi_w (yi_lshr v k)) 255) (I 83, I 82 2) j).2.toNat (yi_iand (yi_w (yi_lshr v y3)) 255), (tl_f (fun k => yi_iand (yi_w (yi_lshr v k)) 255) (I 83, I 82 2) j).2 + 1) := by
            show tl_c (yi_iand (yi_w (yi_lshr v (56 - 8 * (j : Int)))) 255) _ = _
            rw [← hj.2]
            unfold tl_c
            rw [if_pos (by omega)]
          refine yi_D_iinc [(3, .inl (y3 - 8)), (4, .inl (yi_iand (yi_w (yi_lshr v y3)) 255)), (0, .inr (.inr (some 82))), (1, .inr (.inl v))] rfl rfl rfl (by rw [show yi_w (y3 + (-8)) = y3 - 8 from (yi_wn (by omega) (by omega)).trans (by omega)]; rfl) ?_
          refine yi_D_run 1 (3, [(3, .inl (y3 - 8)), (4, .inl (yi_iand (yi_w (yi_lshr v y3)) 255)), (0, .inr (.inr (some 82))), (1, .inr (.inl v))], [], (I7, L, R, Y), 0, 0) (fun _ => rfl) ?_
          refine yi_D_al (al := [(3, .inl (y3 - 8)), (0, .inr (.inr (some 82))), (1, .inr (.inl v)), (4, .inl (yi_iand (yi_w (yi_lshr v y3)) 255))]) (show ([3, 0, 1, 4] : List Nat).Nodup by decide) (show ([3, 4, 0, 1] : List Nat).Nodup by decide) (yi_mc (List.mem_of_getElem? (i := 0) rfl) (yi_mc (List.mem_of_getElem? (i := 3) rfl) (yi_mc (List.mem_of_getElem? (i := 1) rfl) (yi_mc (List.mem_of_getElem? (i := 2) rfl) yi_mn)))) ?_
          exact yi_D_mono (ih3 (by omega) (y3 - 8) (yi_iand (yi_w (yi_lshr v y3)) 255) I7 (j + 1) (by omega) (fun k => by rw [hst, ← w8, yi_u_ne _ _ (by omega), ← w5]; show _ = sp_up _ _ _ k; by_cases e : k = (J1 82 2).toNat; subst e; rw [yi_u_eq, ← hl, sp_up_e]; rw [yi_u_ne _ _ (by omega), ← hl, sp_up_n _ _ e]; exact hT k) (by rw [hst]; show _ = (tl_f (fun k => yi_iand (yi_w (yi_lshr v k)) 255) (I 83, I 82 2) j).2 + 1; rw [← hl, ← w8, yi_u_eq]) (by rw [← w8, yi_u_eq]; omega) (fun p k hp => by rw [← w8, yi_u_ne _ _ (by omega), ← w5, yi_u_ne _ _ (by omega)]; exact fI p k hp)) (by omega)
      · refine yi_D_if2 false rfl (yi_eq_f h2) ?_
        refine yi_D_run 2 (28, [(4, .inl (yi_iand (yi_w (yi_lshr v y3)) 255)), (3, .inl y3), (0, .inr (.inr (some 82))), (1, .inr (.inl v))], [.inl 32, .inl (yi_iand (yi_w (yi_lshr v y3)) 255)], (J1, L, R, Y), 0, 0) (fun _ => rfl) ?_
        by_cases h9 : (yi_iand (yi_w (yi_lshr v y3)) 255) < 32
        · refine yi_D_if2 true rfl (yi_lt_t h9) ?_
          have hst : tl_f (fun k => yi_iand (yi_w (yi_lshr v k)) 255) (I 83, I 82 2) (j + 1) = tl_f (fun k => yi_iand (yi_w (yi_lshr v k)) 255) (I 83, I 82 2) j := by
            show tl_c (yi_iand (yi_w (yi_lshr v (56 - 8 * (j : Int)))) 255) _ = _
            rw [← hj.2]
            unfold tl_c
            rw [if_neg (by omega)]
          refine yi_D_iinc [(3, .inl (y3 - 8)), (4, .inl (yi_iand (yi_w (yi_lshr v y3)) 255)), (0, .inr (.inr (some 82))), (1, .inr (.inl v))] rfl rfl rfl (by rw [show yi_w (y3 + (-8)) = y3 - 8 from (yi_wn (by omega) (by omega)).trans (by omega)]; rfl) ?_
          refine yi_D_run 1 (3, [(3, .inl (y3 - 8)), (4, .inl (yi_iand (yi_w (yi_lshr v y3)) 255)), (0, .inr (.inr (some 82))), (1, .inr (.inl v))], [], (J1, L, R, Y), 0, 0) (fun _ => rfl) ?_
          refine yi_D_al (al := [(3, .inl (y3 - 8)), (0, .inr (.inr (some 82))), (1, .inr (.inl v)), (4, .inl (yi_iand (yi_w (yi_lshr v y3)) 255))]) (show ([3, 0, 1, 4] : List Nat).Nodup by decide) (show ([3, 4, 0, 1] : List Nat).Nodup by decide) (yi_mc (List.mem_of_getElem? (i := 0) rfl) (yi_mc (List.mem_of_getElem? (i := 3) rfl) (yi_mc (List.mem_of_getElem? (i := 1) rfl) (yi_mc (List.mem_of_getElem? (i := 2) rfl) yi_mn)))) ?_
          exact yi_D_mono (ih3 (by omega) (y3 - 8) (yi_iand (yi_w (yi_lshr v y3)) 255) J1 (j + 1) (by omega) (by rw [hst]; exact hT) (by rw [hst]; exact hl) hb9 fI) (by omega)
        · refine yi_D_if2 false rfl (yi_lt_f h9) ?_
          refine yi_D_run 2 (35, [(4, .inl (yi_iand (yi_w (yi_lshr v y3)) 255)), (3, .inl y3), (0, .inr (.inr (some 82))), (1, .inr (.inl v))], [.inl 126, .inl (yi_iand (yi_w (yi_lshr v y3)) 255)], (J1, L, R, Y), 0, 0) (fun _ => rfl) ?_
          by_cases h10 : 126 < (yi_iand (yi_w (yi_lshr v y3)) 255)
          · refine yi_D_if2 true rfl (yi_gt_t h10) ?_
            have hst : tl_f (fun k => yi_iand (yi_w (yi_lshr v k)) 255) (I 83, I 82 2) (j + 1) = tl_f (fun k => yi_iand (yi_w (yi_lshr v k)) 255) (I 83, I 82 2) j := by
              show tl_c (yi_iand (yi_w (yi_lshr v (56 - 8 * (j : Int)))) 255) _ = _
              rw [← hj.2]
              unfold tl_c
              rw [if_neg (by omega)]
            refine yi_D_iinc [(3, .inl (y3 - 8)), (4, .inl (yi_iand (yi_w (yi_lshr v y3)) 255)), (0, .inr (.inr (some 82))), (1, .inr (.inl v))] rfl rfl rfl (by rw [show yi_w (y3 + (-8)) = y3 - 8 from (yi_wn (by omega) (by omega)).trans (by omega)]; rfl) ?_
            refine yi_D_run 1 (3, [(3, .inl (y3 - 8)), (4, .inl (yi_iand (yi_w (yi_lshr v y3)) 255)), (0, .inr (.inr (some 82))), (1, .inr (.inl v))], [], (J1, L, R, Y), 0, 0) (fun _ => rfl) ?_
            refine yi_D_al (al := [(3, .inl (y3 - 8)), (0, .inr (.inr (some 82))), (1, .inr (.inl v)), (4, .inl (yi_iand (yi_w (yi_lshr v y3)) 255))]) (show ([3, 0, 1, 4] : List Nat).Nodup by decide) (show ([3, 4, 0, 1] : List Nat).Nodup by decide) (yi_mc (List.mem_of_getElem? (i := 0) rfl) (yi_mc (List.mem_of_getElem? (i := 3) rfl) (yi_mc (List.mem_of_getElem? (i := 1) rfl) (yi_mc (List.mem_of_getElem? (i := 2) rfl) yi_mn)))) ?_
            exact yi_D_mono (ih3 (by omega) (y3 - 8) (yi_iand (yi_w (yi_lshr v y3)) 255) J1 (j + 1) (by omega) (by rw [hst]; exact hT) (by rw [hst]; exact hl) hb9 fI) (by omega)
          · refine yi_D_if2 false rfl (yi_gt_f h10) ?_
            refine yi_D_run 1 (39, [(4, .inl (yi_iand (yi_w (yi_lshr v y3)) 255)), (3, .inl y3), (0, .inr (.inr (some 82))), (1, .inr (.inl v))], [.inr (.inr (some 82))], (J1, L, R, Y), 0, 0) (fun _ => rfl) ?_
            refine yi_D_gi (v := J1 82 2) rfl rfl rfl rfl (fun _ => ?_)
            refine yi_D_run 1 (45, [(4, .inl (yi_iand (yi_w (yi_lshr v y3)) 255)), (3, .inl y3), (0, .inr (.inr (some 82))), (1, .inr (.inl v))], [.inl 1000, .inl (J1 82 2)], (J1, L, R, Y), 0, 0) (fun _ => rfl) ?_
            by_cases h11 : 1000 ≤ (J1 82 2)
            · refine yi_D_if2 true rfl (yi_ge_t h11) ?_
              have hst : tl_f (fun k => yi_iand (yi_w (yi_lshr v k)) 255) (I 83, I 82 2) (j + 1) = tl_f (fun k => yi_iand (yi_w (yi_lshr v k)) 255) (I 83, I 82 2) j := by
                show tl_c (yi_iand (yi_w (yi_lshr v (56 - 8 * (j : Int)))) 255) _ = _
                rw [← hj.2]
                unfold tl_c
                rw [if_neg (by omega)]
              refine yi_D_iinc [(3, .inl (y3 - 8)), (4, .inl (yi_iand (yi_w (yi_lshr v y3)) 255)), (0, .inr (.inr (some 82))), (1, .inr (.inl v))] rfl rfl rfl (by rw [show yi_w (y3 + (-8)) = y3 - 8 from (yi_wn (by omega) (by omega)).trans (by omega)]; rfl) ?_
              refine yi_D_run 1 (3, [(3, .inl (y3 - 8)), (4, .inl (yi_iand (yi_w (yi_lshr v y3)) 255)), (0, .inr (.inr (some 82))), (1, .inr (.inl v))], [], (J1, L, R, Y), 0, 0) (fun _ => rfl) ?_
              refine yi_D_al (al := [(3, .inl (y3 - 8)), (0, .inr (.inr (some 82))), (1, .inr (.inl v)), (4, .inl (yi_iand (yi_w (yi_lshr v y3)) 255))]) (show ([3, 0, 1, 4] : List Nat).Nodup by decide) (show ([3, 4, 0, 1] : List Nat).Nodup by decide) (yi_mc (List.mem_of_getElem? (i := 0) rfl) (yi_mc (List.mem_of_getElem? (i := 3) rfl) (yi_mc (List.mem_of_getElem? (i := 1) rfl) (yi_mc (List.mem_of_getElem? (i := 2) rfl) yi_mn)))) ?_
              exact yi_D_mono (ih3 (by omega) (y3 - 8) (yi_iand (yi_w (yi_lshr v y3)) 255) J1 (j + 1) (by omega) (by rw [hst]; exact hT) (by rw [hst]; exact hl) hb9 fI) (by omega)
            · refine yi_D_if2 false rfl (yi_ge_f h11) ?_
              refine yi_D_run 1 (49, [(4, .inl (yi_iand (yi_w (yi_lshr v y3)) 255)), (3, .inl y3), (0, .inr (.inr (some 82))), (1, .inr (.inl v))], [.inr (.inr (some 82))], (J1, L, R, Y), 0, 0) (fun _ => rfl) ?_
              refine yi_D_gr (v := some 83) rfl rfl rfl (ym_S_at hS (j := 0) rfl).1 (fun _ => ?_)
              refine yi_D_run 1 (53, [(4, .inl (yi_iand (yi_w (yi_lshr v y3)) 255)), (3, .inl y3), (0, .inr (.inr (some 82))), (1, .inr (.inl v))], [.inr (.inr (some 82)), .inr (.inr (some 83))], (J1, L, R, Y), 0, 0) (fun _ => rfl) ?_
              refine yi_D_gi (v := J1 82 2) rfl rfl rfl rfl (fun _ => ?_)
              refine yi_D_run 1 (58, [(4, .inl (yi_iand (yi_w (yi_lshr v y3)) 255)), (3, .inl y3), (0, .inr (.inr (some 82))), (1, .inr (.inl v))], [.inl (yi_iand (yi_w (yi_lshr v y3)) 255), .inl (J1 82 2), .inr (.inr (some 83))], (J1, L, R, Y), 0, 0) (fun _ => rfl) ?_
              refine yi_D_is rfl (fun _ _ => ?_)
              generalize w13 : yi_u J1 83 ((J1 82 2).toNat) (yi_iand (yi_w (yi_lshr v y3)) 255) = I12
              refine yi_D_run 2 (61, [(4, .inl (yi_iand (yi_w (yi_lshr v y3)) 255)), (3, .inl y3), (0, .inr (.inr (some 82))), (1, .inr (.inl v))], [.inr (.inr (some 82)), .inr (.inr (some 82))], (I12, L, R, Y), 0, 0) (fun _ => rfl) ?_
              have r14 : I12 82 2 = J1 82 2 := by rw [← w13, yi_u_ne _ _ (by omega)]
              refine yi_D_gi (v := J1 82 2) rfl rfl rfl r14 (fun _ => ?_)
              refine yi_D_run 1 (65, [(4, .inl (yi_iand (yi_w (yi_lshr v y3)) 255)), (3, .inl y3), (0, .inr (.inr (some 82))), (1, .inr (.inl v))], [.inl 1, .inl (J1 82 2), .inr (.inr (some 82))], (I12, L, R, Y), 0, 0) (fun _ => rfl) ?_
              refine yi_D_iadd rfl ((J1 82 2) + 1) (yi_wn (by omega) (by omega)) ?_
              refine yi_D_pi rfl (fun _ => ?_)
              generalize w16 : yi_u I12 82 2 ((J1 82 2) + 1) = I15
              have hst : tl_f (fun k => yi_iand (yi_w (yi_lshr v k)) 255) (I 83, I 82 2) (j + 1) = (sp_up (tl_f (fun k => yi_iand (yi_w (yi_lshr v k)) 255) (I 83, I 82 2) j).1 (tl_f (fun k => yi_iand (yi_w (yi_lshr v k)) 255) (I 83, I 82 2) j).2.toNat (yi_iand (yi_w (yi_lshr v y3)) 255), (tl_f (fun k => yi_iand (yi_w (yi_lshr v k)) 255) (I 83, I 82 2) j).2 + 1) := by
                show tl_c (yi_iand (yi_w (yi_lshr v (56 - 8 * (j : Int)))) 255) _ = _
                rw [← hj.2]
                unfold tl_c
                rw [if_pos (by omega)]
              refine yi_D_iinc [(3, .inl (y3 - 8)), (4, .inl (yi_iand (yi_w (yi_lshr v y3)) 255)), (0, .inr (.inr (some 82))), (1, .inr (.inl v))] rfl rfl rfl (by rw [show yi_w (y3 + (-8)) = y3 - 8 from (yi_wn (by omega) (by omega)).trans (by omega)]; rfl) ?_
              refine yi_D_run 1 (3, [(3, .inl (y3 - 8)), (4, .inl (yi_iand (yi_w (yi_lshr v y3)) 255)), (0, .inr (.inr (some 82))), (1, .inr (.inl v))], [], (I15, L, R, Y), 0, 0) (fun _ => rfl) ?_
              refine yi_D_al (al := [(3, .inl (y3 - 8)), (0, .inr (.inr (some 82))), (1, .inr (.inl v)), (4, .inl (yi_iand (yi_w (yi_lshr v y3)) 255))]) (show ([3, 0, 1, 4] : List Nat).Nodup by decide) (show ([3, 4, 0, 1] : List Nat).Nodup by decide) (yi_mc (List.mem_of_getElem? (i := 0) rfl) (yi_mc (List.mem_of_getElem? (i := 3) rfl) (yi_mc (List.mem_of_getElem? (i := 1) rfl) (yi_mc (List.mem_of_getElem? (i := 2) rfl) yi_mn)))) ?_
              exact yi_D_mono (ih3 (by omega) (y3 - 8) (yi_iand (yi_w (yi_lshr v y3)) 255) I15 (j + 1) (by omega) (fun k => by rw [hst, ← w16, yi_u_ne _ _ (by omega), ← w13]; show _ = sp_up _ _ _ k; by_cases e : k = (J1 82 2).toNat; subst e; rw [yi_u_eq, ← hl, sp_up_e]; rw [yi_u_ne _ _ (by omega), ← hl, sp_up_n _ _ e]; exact hT k) (by rw [hst]; show _ = (tl_f (fun k => yi_iand (yi_w (yi_lshr v k)) 255) (I 83, I 82 2) j).2 + 1; rw [← hl, ← w16, yi_u_eq]) (by rw [← w16, yi_u_eq]; omega) (fun p k hp => by rw [← w16, yi_u_ne _ _ (by omega), ← w13, yi_u_ne _ _ (by omega)]; exact fI p k hp)) (by omega)
  refine yi_D_al (al := [(3, .inl 56), (0, .inr (.inr (some 82))), (1, .inr (.inl v)), (4, .inl 0)]) (show ([3, 0, 1, 4] : List Nat).Nodup by decide) (show ([3, 0, 1] : List Nat).Nodup by decide) (yi_mc (List.mem_of_getElem? (i := 0) rfl) (yi_mc (List.mem_of_getElem? (i := 1) rfl) (yi_mc (List.mem_of_getElem? (i := 2) rfl) yi_mn))) ?_
  exact pt3 k (Nat.le_refl _) 56 0 I 0 (by omega) (fun _ => rfl) rfl hb (fun _ _ _ => rfl)
theorem p_putBytes {d : Nat} {I L : Nat → Nat → Int} {R : Nat → Nat → Option Nat} {Y : (Nat → Nat) × (Nat → Nat) × Nat} (hX : cs_S R Y ∧ True) {v : Int} (hb : 0 ≤ I 12 5 ∧ I 12 5 ≤ 1000) : yi_P zi_Ms d 299 [.inr (.inr (some 12)), .inr (.inl v)] (I, L, R, Y) (fun r => ∃ I', r = (none, (I', L, R, Y), 0, 0) ∧ (∀ k, I' 13 k = (tl_f (fun k => yi_w (yi_land (yi_lushr v k) 255)) (I 13, I 12 5) 8).1 k) ∧ I' 12 5 = (tl_f (fun k => yi_w (yi_land (yi_lushr v k) 255)) (I 13, I 12 5) 8).2 ∧ (0 ≤ I' 12 5 ∧ I' 12 5 ≤ 1000) ∧ (∀ p k, p ≠ 13 ∧ ¬ (p = 12 ∧ k = 5) → I' p k = I p k)) := by
  refine yi_P_of (M := zi_m299) rfl (fun d k => ?_)
  show yi_D zi_Ms d zi_m299 k (0, [(0, .inr (.inr (some 12))), (1, .inr (.inl v))], [], (I, L, R, Y), 0, 0) _
  refine yi_D_run 2 (3, [(3, .inl 56), (0, .inr (.inr (some 12))), (1, .inr (.inl v))], [], (I, L, R, Y), 0, 0) (fun _ => rfl) ?_
  have pt3 : ∀ j3, j3 ≤ k → ∀ (y3 : Int) (q4 : Int) (q5 : Int) (J1 : Nat → Nat → Int) (j : Nat), (j ≤ 8 ∧ y3 = 56 - 8 * (j : Int)) → (∀ k, J1 13 k = (tl_f (fun k => yi_w (yi_land (yi_lushr v k) 255)) (I 13, I 12 5) j).1 k) → (J1 12 5 = (tl_f (fun k => yi_w (yi_land (yi_lushr v k) 255)) (I 13, I 12 5) j).2) → (0 ≤ J1 12 5 ∧ J1 12 5 ≤ 1000) → (∀ p k, p ≠ 13 ∧ ¬ (p = 12 ∧ k = 5) → J1 p k = I p k) → yi_D zi_Ms d zi_m299 j3 (3, [(3, .inl y3), (0, .inr (.inr (some 12))), (1, .inr (.inl v)), (4, .inl q4), (5, .inl q5)], [], (J1, L, R, Y), 0, 0) (fun r => ∃ I', r = (none, (I', L, R, Y), 0, 0) ∧ (∀ k, I' 13 k = (tl_f (fun k => yi_w (yi_land (yi_lushr v k) 255)) (I 13, I 12 5) 8).1 k) ∧ I' 12 5 = (tl_f (fun k => yi_w (yi_land (yi_lushr v k) 255)) (I 13, I 12 5) 8).2 ∧ (0 ≤ I' 12 5 ∧ I' 12 5 ≤ 1000) ∧ (∀ p k, p ≠ 13 ∧ ¬ (p = 12 ∧ k = 5) → I' p k = I p k)) := by
    intro j3
    induction j3 with
    | zero => intros; exact yi_D_0
    | succ j3 ih3 =>
    intro hk3 y3 q4 q5 J1 j hj hT hl hb9 fI
    refine yi_D_run1 0 (4, [(3, .inl y3), (0, .inr (.inr (some 12))), (1, .inr (.inl v)), (4, .inl q4), (5, .inl q5)], [.inl y3], (J1, L, R, Y), 0, 0) (fun _ => rfl) ?_
    by_cases h1 : y3 < 0
    · refine yi_D_if1 true rfl (yi_lt_t h1) ?_
      refine yi_D_retv rfl ?_
      have h8 : j = 8 := by omega
      subst h8
      exact ⟨_, rfl, hT, hl, hb9, fI⟩
    · refine yi_D_if1 false rfl (yi_lt_f h1) ?_
      refine yi_D_run 3 (10, [(3, .inl y3), (0, .inr (.inr (some 12))), (1, .inr (.inl v)), (4, .inl q4), (5, .inl q5)], [.inr (.inl (yi_lushr v y3))], (J1, L, R, Y), 0, 0) (fun _ => rfl) ?_
      refine yi_D_ldc2 (255) rfl (by decide +kernel) ?_
      refine yi_D_run 5 (21, [(4, .inl (yi_w (yi_land (yi_lushr v y3) 255))), (3, .inl y3), (0, .inr (.inr (some 12))), (1, .inr (.inl v)), (5, .inl q5)], [.inl 10, .inl (yi_w (yi_land (yi_lushr v y3) 255))], (J1, L, R, Y), 0, 0) (fun _ => rfl) ?_
      by_cases h2 : (yi_w (yi_land (yi_lushr v y3) 255)) = 10
      · refine yi_D_if2 true rfl (yi_eq_t h2) ?_
        refine yi_D_run 4 (47, [(5, .inl 1), (4, .inl (yi_w (yi_land (yi_lushr v y3) 255))), (3, .inl y3), (0, .inr (.inr (some 12))), (1, .inr (.inl v))], [.inl 1], (J1, L, R, Y), 0, 0) (fun _ => rfl) ?_
        refine yi_D_if1 false rfl (by decide) ?_
        refine yi_D_run 1 (51, [(5, .inl 1), (4, .inl (yi_w (yi_land (yi_lushr v y3) 255))), (3, .inl y3), (0, .inr (.inr (some 12))), (1, .inr (.inl v))], [.inr (.inr (some 12))], (J1, L, R, Y), 0, 0) (fun _ => rfl) ?_
        refine yi_D_gi (v := J1 12 5) rfl rfl rfl rfl (fun _ => ?_)
        refine yi_D_run 1 (55, [(5, .inl 1), (4, .inl (yi_w (yi_land (yi_lushr v y3) 255))), (3, .inl y3), (0, .inr (.inr (some 12))), (1, .inr (.inl v))], [.inr (.inr (some 12)), .inl (J1 12 5)], (J1, L, R, Y), 0, 0) (fun _ => rfl) ?_
        refine yi_D_gr (v := some 13) rfl rfl rfl hX.1.2.1.1 (fun _ => ?_)
        refine yi_D_len (v := 1000) rfl rfl (by rw [hX.1.2.2.1]; rfl) ?_
        by_cases h3 : 1000 ≤ (J1 12 5)
        · refine yi_D_if2 true rfl (yi_ge_t h3) ?_
          have hst : tl_f (fun k => yi_w (yi_land (yi_lushr v k) 255)) (I 13, I 12 5) (j + 1) = tl_f (fun k => yi_w (yi_land (yi_lushr v k) 255)) (I 13, I 12 5) j := by
            show tl_c (yi_w (yi_land (yi_lushr v (56 - 8 * (j : Int))) 255)) _ = _
            rw [← hj.2]
            unfold tl_c
            rw [if_neg (by omega)]
          refine yi_D_iinc [(3, .inl (y3 - 8)), (5, .inl 1), (4, .inl (yi_w (yi_land (yi_lushr v y3) 255))), (0, .inr (.inr (some 12))), (1, .inr (.inl v))] rfl rfl rfl (by rw [show yi_w (y3 + (-8)) = y3 - 8 from (yi_wn (by omega) (by omega)).trans (by omega)]; rfl) ?_
          refine yi_D_run 1 (3, [(3, .inl (y3 - 8)), (5, .inl 1), (4, .inl (yi_w (yi_land (yi_lushr v y3) 255))), (0, .inr (.inr (some 12))), (1, .inr (.inl v))], [], (J1, L, R, Y), 0, 0) (fun _ => rfl) ?_
          refine yi_D_al (al := [(3, .inl (y3 - 8)), (0, .inr (.inr (some 12))), (1, .inr (.inl v)), (4, .inl (yi_w (yi_land (yi_lushr v y3) 255))), (5, .inl 1)]) (show ([3, 0, 1, 4, 5] : List Nat).Nodup by decide) (show ([3, 5, 4, 0, 1] : List Nat).Nodup by decide) (yi_mc (List.mem_of_getElem? (i := 0) rfl) (yi_mc (List.mem_of_getElem? (i := 4) rfl) (yi_mc (List.mem_of_getElem? (i := 3) rfl) (yi_mc (List.mem_of_getElem? (i := 1) rfl) (yi_mc (List.mem_of_getElem? (i := 2) rfl) yi_mn))))) ?_
          exact yi_D_mono (ih3 (by omega) (y3 - 8) (yi_w (yi_land (yi_lushr v y3) 255)) 1 J1 (j + 1) (by omega) (by rw [hst]; exact hT) (by rw [hst]; exact hl) hb9 fI) (by omega)
        · refine yi_D_if2 false rfl (yi_ge_f h3) ?_
          refine yi_D_run 1 (63, [(5, .inl 1), (4, .inl (yi_w (yi_land (yi_lushr v y3) 255))), (3, .inl y3), (0, .inr (.inr (some 12))), (1, .inr (.inl v))], [.inr (.inr (some 12))], (J1, L, R, Y), 0, 0) (fun _ => rfl) ?_
          refine yi_D_gr (v := some 13) rfl rfl rfl hX.1.2.1.1 (fun _ => ?_)
          refine yi_D_run 1 (67, [(5, .inl 1), (4, .inl (yi_w (yi_land (yi_lushr v y3) 255))), (3, .inl y3), (0, .inr (.inr (some 12))), (1, .inr (.inl v))], [.inr (.inr (some 12)), .inr (.inr (some 13))], (J1, L, R, Y), 0, 0) (fun _ => rfl) ?_
          refine yi_D_gi (v := J1 12 5) rfl rfl rfl rfl (fun _ => ?_)
          refine yi_D_run 2 (73, [(5, .inl 1), (4, .inl (yi_w (yi_land (yi_lushr v y3) 255))), (3, .inl y3), (0, .inr (.inr (some 12))), (1, .inr (.inl v))], [.inl ((yi_w (yi_land (yi_lushr v y3) 255)) % 65536), .inl (J1 12 5), .inr (.inr (some 13))], (J1, L, R, Y), 0, 0) (fun _ => rfl) ?_
          refine yi_D_cs rfl (fun _ _ => ?_)
          generalize w5 : yi_u J1 13 ((J1 12 5).toNat) ((yi_w (yi_land (yi_lushr v y3) 255)) % 65536) = I4
          refine yi_D_run 2 (76, [(5, .inl 1), (4, .inl (yi_w (yi_land (yi_lushr v y3) 255))), (3, .inl y3), (0, .inr (.inr (some 12))), (1, .inr (.inl v))], [.inr (.inr (some 12)), .inr (.inr (some 12))], (I4, L, R, Y), 0, 0) (fun _ => rfl) ?_
          have r6 : I4 12 5 = J1 12 5 := by rw [← w5, yi_u_ne _ _ (by omega)]
          refine yi_D_gi (v := J1 12 5) rfl rfl rfl r6 (fun _ => ?_)
          refine yi_D_run 1 (80, [(5, .inl 1), (4, .inl (yi_w (yi_land (yi_lushr v y3) 255))), (3, .inl y3), (0, .inr (.inr (some 12))), (1, .inr (.inl v))], [.inl 1, .inl (J1 12 5), .inr (.inr (some 12))], (I4, L, R, Y), 0, 0) (fun _ => rfl) ?_
          refine yi_D_iadd rfl ((J1 12 5) + 1) (yi_wn (by omega) (by omega)) ?_
          refine yi_D_pi rfl (fun _ => ?_)
          generalize w8 : yi_u I4 12 5 ((J1 12 5) + 1) = I7
          have hst : tl_f (fun k => yi_w (yi_land (yi_lushr v k) 255)) (I 13, I 12 5) (j + 1) = (sp_up (tl_f (fun k => yi_w (yi_land (yi_lushr v k) 255)) (I 13, I 12 5) j).1 (tl_f (fun k => yi_w (yi_land (yi_lushr v k) 255)) (I 13, I 12 5) j).2.toNat (yi_w (yi_land (yi_lushr v y3) 255)), (tl_f (fun k => yi_w (yi_land (yi_lushr v k) 255)) (I 13, I 12 5) j).2 + 1) := by
            show tl_c (yi_w (yi_land (yi_lushr v (56 - 8 * (j : Int))) 255)) _ = _
            rw [← hj.2]
            unfold tl_c
            rw [if_pos (by omega)]
          have hm : (yi_w (yi_land (yi_lushr v y3) 255)) % 65536 = yi_w (yi_land (yi_lushr v y3) 255) := by omega
          refine yi_D_iinc [(3, .inl (y3 - 8)), (5, .inl 1), (4, .inl (yi_w (yi_land (yi_lushr v y3) 255))), (0, .inr (.inr (some 12))), (1, .inr (.inl v))] rfl rfl rfl (by rw [show yi_w (y3 + (-8)) = y3 - 8 from (yi_wn (by omega) (by omega)).trans (by omega)]; rfl) ?_
          refine yi_D_run 1 (3, [(3, .inl (y3 - 8)), (5, .inl 1), (4, .inl (yi_w (yi_land (yi_lushr v y3) 255))), (0, .inr (.inr (some 12))), (1, .inr (.inl v))], [], (I7, L, R, Y), 0, 0) (fun _ => rfl) ?_
          refine yi_D_al (al := [(3, .inl (y3 - 8)), (0, .inr (.inr (some 12))), (1, .inr (.inl v)), (4, .inl (yi_w (yi_land (yi_lushr v y3) 255))), (5, .inl 1)]) (show ([3, 0, 1, 4, 5] : List Nat).Nodup by decide) (show ([3, 5, 4, 0, 1] : List Nat).Nodup by decide) (yi_mc (List.mem_of_getElem? (i := 0) rfl) (yi_mc (List.mem_of_getElem? (i := 4) rfl) (yi_mc (List.mem_of_getElem? (i := 3) rfl) (yi_mc (List.mem_of_getElem? (i := 1) rfl) (yi_mc (List.mem_of_getElem? (i := 2) rfl) yi_mn))))) ?_
          exact yi_D_mono (ih3 (by omega) (y3 - 8) (yi_w (yi_land (yi_lushr v y3) 255)) 1 I7 (j + 1) (by omega) (fun k => by rw [hst, ← w8, yi_u_ne _ _ (by omega), ← w5]; show _ = sp_up _ _ _ k; by_cases e : k = (J1 12 5).toNat; subst e; rw [yi_u_eq, hm, ← hl, sp_up_e]; rw [yi_u_ne _ _ (by omega), ← hl, sp_up_n _ _ e]; exact hT k) (by rw [hst]; show _ = (tl_f (fun k => yi_w (yi_land (yi_lushr v k) 255)) (I 13, I 12 5) j).2 + 1; rw [← hl, ← w8, yi_u_eq]) (by rw [← w8, yi_u_eq]; omega) (fun p k hp => by rw [← w8, yi_u_ne _ _ (by omega), ← w5, yi_u_ne _ _ (by omega)]; exact fI p k hp)) (by omega)
      · refine yi_D_if2 false rfl (yi_eq_f h2) ?_
        refine yi_D_run 2 (28, [(4, .inl (yi_w (yi_land (yi_lushr v y3) 255))), (3, .inl y3), (0, .inr (.inr (some 12))), (1, .inr (.inl v)), (5, .inl q5)], [.inl 32, .inl (yi_w (yi_land (yi_lushr v y3) 255))], (J1, L, R, Y), 0, 0) (fun _ => rfl) ?_
        by_cases h9 : (yi_w (yi_land (yi_lushr v y3) 255)) < 32
        · refine yi_D_if2 true rfl (yi_lt_t h9) ?_
          refine yi_D_run 3 (47, [(5, .inl 0), (4, .inl (yi_w (yi_land (yi_lushr v y3) 255))), (3, .inl y3), (0, .inr (.inr (some 12))), (1, .inr (.inl v))], [.inl 0], (J1, L, R, Y), 0, 0) (fun _ => rfl) ?_
          refine yi_D_if1 true rfl (by decide) ?_
          have hst : tl_f (fun k => yi_w (yi_land (yi_lushr v k) 255)) (I 13, I 12 5) (j + 1) = tl_f (fun k => yi_w (yi_land (yi_lushr v k) 255)) (I 13, I 12 5) j := by
            show tl_c (yi_w (yi_land (yi_lushr v (56 - 8 * (j : Int))) 255)) _ = _
            rw [← hj.2]
            unfold tl_c
            rw [if_neg (by omega)]
          refine yi_D_iinc [(3, .inl (y3 - 8)), (5, .inl 0), (4, .inl (yi_w (yi_land (yi_lushr v y3) 255))), (0, .inr (.inr (some 12))), (1, .inr (.inl v))] rfl rfl rfl (by rw [show yi_w (y3 + (-8)) = y3 - 8 from (yi_wn (by omega) (by omega)).trans (by omega)]; rfl) ?_
          refine yi_D_run 1 (3, [(3, .inl (y3 - 8)), (5, .inl 0), (4, .inl (yi_w (yi_land (yi_lushr v y3) 255))), (0, .inr (.inr (some 12))), (1, .inr (.inl v))], [], (J1, L, R, Y), 0, 0) (fun _ => rfl) ?_
          refine yi_D_al (al := [(3, .inl (y3 - 8)), (0, .inr (.inr (some 12))), (1, .inr (.inl v)), (4, .inl (yi_w (yi_land (yi_lushr v y3) 255))), (5, .inl 0)]) (show ([3, 0, 1, 4, 5] : List Nat).Nodup by decide) (show ([3, 5, 4, 0, 1] : List Nat).Nodup by decide) (yi_mc (List.mem_of_getElem? (i := 0) rfl) (yi_mc (List.mem_of_getElem? (i := 4) rfl) (yi_mc (List.mem_of_getElem? (i := 3) rfl) (yi_mc (List.mem_of_getElem? (i := 1) rfl) (yi_mc (List.mem_of_getElem? (i := 2) rfl) yi_mn))))) ?_
          exact yi_D_mono (ih3 (by omega) (y3 - 8) (yi_w (yi_land (yi_lushr v y3) 255)) 0 J1 (j + 1) (by omega) (by rw [hst]; exact hT) (by rw [hst]; exact hl) hb9 fI) (by omega)
        · refine yi_D_if2 false rfl (yi_lt_f h9) ?_
          refine yi_D_run 2 (35, [(4, .inl (yi_w (yi_land (yi_lushr v y3) 255))), (3, .inl y3), (0, .inr (.inr (some 12))), (1, .inr (.inl v)), (5, .inl q5)], [.inl 126, .inl (yi_w (yi_land (yi_lushr v y3) 255))], (J1, L, R, Y), 0, 0) (fun _ => rfl) ?_
          by_cases h10 : 126 < (yi_w (yi_land (yi_lushr v y3) 255))
          · refine yi_D_if2 true rfl (yi_gt_t h10) ?_
            refine yi_D_run 3 (47, [(5, .inl 0), (4, .inl (yi_w (yi_land (yi_lushr v y3) 255))), (3, .inl y3), (0, .inr (.inr (some 12))), (1, .inr (.inl v))], [.inl 0], (J1, L, R, Y), 0, 0) (fun _ => rfl) ?_
            refine yi_D_if1 true rfl (by decide) ?_
            have hst : tl_f (fun k => yi_w (yi_land (yi_lushr v k) 255)) (I 13, I 12 5) (j + 1) = tl_f (fun k => yi_w (yi_land (yi_lushr v k) 255)) (I 13, I 12 5) j := by
              show tl_c (yi_w (yi_land (yi_lushr v (56 - 8 * (j : Int))) 255)) _ = _
              rw [← hj.2]
              unfold tl_c
              rw [if_neg (by omega)]
            refine yi_D_iinc [(3, .inl (y3 - 8)), (5, .inl 0), (4, .inl (yi_w (yi_land (yi_lushr v y3) 255))), (0, .inr (.inr (some 12))), (1, .inr (.inl v))] rfl rfl rfl (by rw [show yi_w (y3 + (-8)) = y3 - 8 from (yi_wn (by omega) (by omega)).trans (by omega)]; rfl) ?_
            refine yi_D_run 1 (3, [(3, .inl (y3 - 8)), (5, .inl 0), (4, .inl (yi_w (yi_land (yi_lushr v y3) 255))), (0, .inr (.inr (some 12))), (1, .inr (.inl v))], [], (J1, L, R, Y), 0, 0) (fun _ => rfl) ?_
            refine yi_D_al (al := [(3, .inl (y3 - 8)), (0, .inr (.inr (some 12))), (1, .inr (.inl v)), (4, .inl (yi_w (yi_land (yi_lushr v y3) 255))), (5, .inl 0)]) (show ([3, 0, 1, 4, 5] : List Nat).Nodup by decide) (show ([3, 5, 4, 0, 1] : List Nat).Nodup by decide) (yi_mc (List.mem_of_getElem? (i := 0) rfl) (yi_mc (List.mem_of_getElem? (i := 4) rfl) (yi_mc (List.mem_of_getElem? (i := 3) rfl) (yi_mc (List.mem_of_getElem? (i := 1) rfl) (yi_mc (List.mem_of_getElem? (i := 2) rfl) yi_mn))))) ?_
            exact yi_D_mono (ih3 (by omega) (y3 - 8) (yi_w (yi_land (yi_lushr v y3) 255)) 0 J1 (j + 1) (by omega) (by rw [hst]; exact hT) (by rw [hst]; exact hl) hb9 fI) (by omega)
          · refine yi_D_if2 false rfl (yi_gt_f h10) ?_
            refine yi_D_run 4 (47, [(5, .inl 1), (4, .inl (yi_w (yi_land (yi_lushr v y3) 255))), (3, .inl y3), (0, .inr (.inr (some 12))), (1, .inr (.inl v))], [.inl 1], (J1, L, R, Y), 0, 0) (fun _ => rfl) ?_
            refine yi_D_if1 false rfl (by decide) ?_
            refine yi_D_run 1 (51, [(5, .inl 1), (4, .inl (yi_w (yi_land (yi_lushr v y3) 255))), (3, .inl y3), (0, .inr (.inr (some 12))), (1, .inr (.inl v))], [.inr (.inr (some 12))], (J1, L, R, Y), 0, 0) (fun _ => rfl) ?_
            refine yi_D_gi (v := J1 12 5) rfl rfl rfl rfl (fun _ => ?_)
            refine yi_D_run 1 (55, [(5, .inl 1), (4, .inl (yi_w (yi_land (yi_lushr v y3) 255))), (3, .inl y3), (0, .inr (.inr (some 12))), (1, .inr (.inl v))], [.inr (.inr (some 12)), .inl (J1 12 5)], (J1, L, R, Y), 0, 0) (fun _ => rfl) ?_
            refine yi_D_gr (v := some 13) rfl rfl rfl hX.1.2.1.1 (fun _ => ?_)
            refine yi_D_len (v := 1000) rfl rfl (by rw [hX.1.2.2.1]; rfl) ?_
            by_cases h11 : 1000 ≤ (J1 12 5)
            · refine yi_D_if2 true rfl (yi_ge_t h11) ?_
              have hst : tl_f (fun k => yi_w (yi_land (yi_lushr v k) 255)) (I 13, I 12 5) (j + 1) = tl_f (fun k => yi_w (yi_land (yi_lushr v k) 255)) (I 13, I 12 5) j := by
                show tl_c (yi_w (yi_land (yi_lushr v (56 - 8 * (j : Int))) 255)) _ = _
                rw [← hj.2]
                unfold tl_c
                rw [if_neg (by omega)]
              refine yi_D_iinc [(3, .inl (y3 - 8)), (5, .inl 1), (4, .inl (yi_w (yi_land (yi_lushr v y3) 255))), (0, .inr (.inr (some 12))), (1, .inr (.inl v))] rfl rfl rfl (by rw [show yi_w (y3 + (-8)) = y3 - 8 from (yi_wn (by omega) (by omega)).trans (by omega)]; rfl) ?_
              refine yi_D_run 1 (3, [(3, .inl (y3 - 8)), (5, .inl 1), (4, .inl (yi_w (yi_land (yi_lushr v y3) 255))), (0, .inr (.inr (some 12))), (1, .inr (.inl v))], [], (J1, L, R, Y), 0, 0) (fun _ => rfl) ?_
              refine yi_D_al (al := [(3, .inl (y3 - 8)), (0, .inr (.inr (some 12))), (1, .inr (.inl v)), (4, .inl (yi_w (yi_land (yi_lushr v y3) 255))), (5, .inl 1)]) (show ([3, 0, 1, 4, 5] : List Nat).Nodup by decide) (show ([3, 5, 4, 0, 1] : List Nat).Nodup by decide) (yi_mc (List.mem_of_getElem? (i := 0) rfl) (yi_mc (List.mem_of_getElem? (i := 4) rfl) (yi_mc (List.mem_of_getElem? (i := 3) rfl) (yi_mc (List.mem_of_getElem? (i := 1) rfl) (yi_mc (List.mem_of_getElem? (i := 2) rfl) yi_mn))))) ?_
              exact yi_D_mono (ih3 (by omega) (y3 - 8) (yi_w (yi_land (yi_lushr v y3) 255)) 1 J1 (j + 1) (by omega) (by rw [hst]; exact hT) (by rw [hst]; exact hl) hb9 fI) (by omega)
            · refine yi_D_if2 false rfl (yi_ge_f h11) ?_
              refine yi_D_run 1 (63, [(5, .inl 1), (4, .inl (yi_w (yi_land (yi_lushr v y3) 255))), (3, .inl y3), (0, .inr (.inr (some 12))), (1, .inr (.inl v))], [.inr (.inr (some 12))], (J1, L, R, Y), 0, 0) (fun _ => rfl) ?_
              refine yi_D_gr (v := some 13) rfl rfl rfl hX.1.2.1.1 (fun _ => ?_)
              refine yi_D_run 1 (67, [(5, .inl 1), (4, .inl (yi_w (yi_land (yi_lushr v y3) 255))), (3, .inl y3), (0, .inr (.inr (some 12))), (1, .inr (.inl v))], [.inr (.inr (some 12)), .inr (.inr (some 13))], (J1, L, R, Y), 0, 0) (fun _ => rfl) ?_
              refine yi_D_gi (v := J1 12 5) rfl rfl rfl rfl (fun _ => ?_)
              refine yi_D_run 2 (73, [(5, .inl 1), (4, .inl (yi_w (yi_land (yi_lushr v y3) 255))), (3, .inl y3), (0, .inr (.inr (some 12))), (1, .inr (.inl v))], [.inl ((yi_w (yi_land (yi_lushr v y3) 255)) % 65536), .inl (J1 12 5), .inr (.inr (some 13))], (J1, L, R, Y), 0, 0) (fun _ => rfl) ?_
              refine yi_D_cs rfl (fun _ _ => ?_)
              generalize w13 : yi_u J1 13 ((J1 12 5).toNat) ((yi_w (yi_land (yi_lushr v y3) 255)) % 65536) = I12
              refine yi_D_run 2 (76, [(5, .inl 1), (4, .inl (yi_w (yi_land (yi_lushr v y3) 255))), (3, .inl y3), (0, .inr (.inr (some 12))), (1, .inr (.inl v))], [.inr (.inr (some 12)), .inr (.inr (some 12))], (I12, L, R, Y), 0, 0) (fun _ => rfl) ?_
              have r14 : I12 12 5 = J1 12 5 := by rw [← w13, yi_u_ne _ _ (by omega)]
              refine yi_D_gi (v := J1 12 5) rfl rfl rfl r14 (fun _ => ?_)
              refine yi_D_run 1 (80, [(5, .inl 1), (4, .inl (yi_w (yi_land (yi_lushr v y3) 255))), (3, .inl y3), (0, .inr (.inr (some 12))), (1, .inr (.inl v))], [.inl 1, .inl (J1 12 5), .inr (.inr (some 12))], (I12, L, R, Y), 0, 0) (fun _ => rfl) ?_
              refine yi_D_iadd rfl ((J1 12 5) + 1) (yi_wn (by omega) (by omega)) ?_
              refine yi_D_pi rfl (fun _ => ?_)
              generalize w16 : yi_u I12 12 5 ((J1 12 5) + 1) = I15
              have hst : tl_f (fun k => yi_w (yi_land (yi_lushr v k) 255)) (I 13, I 12 5) (j + 1) = (sp_up (tl_f (fun k => yi_w (yi_land (yi_lushr v k) 255)) (I 13, I 12 5) j).1 (tl_f (fun k => yi_w (yi_land (yi_lushr v k) 255)) (I 13, I 12 5) j).2.toNat (yi_w (yi_land (yi_lushr v y3) 255)), (tl_f (fun k => yi_w (yi_land (yi_lushr v k) 255)) (I 13, I 12 5) j).2 + 1) := by
                show tl_c (yi_w (yi_land (yi_lushr v (56 - 8 * (j : Int))) 255)) _ = _
                rw [← hj.2]
                unfold tl_c
                rw [if_pos (by omega)]
              have hm : (yi_w (yi_land (yi_lushr v y3) 255)) % 65536 = yi_w (yi_land (yi_lushr v y3) 255) := by omega
              refine yi_D_iinc [(3, .inl (y3 - 8)), (5, .inl 1), (4, .inl (yi_w (yi_land (yi_lushr v y3) 255))), (0, .inr (.inr (some 12))), (1, .inr (.inl v))] rfl rfl rfl (by rw [show yi_w (y3 + (-8)) = y3 - 8 from (yi_wn (by omega) (by omega)).trans (by omega)]; rfl) ?_
              refine yi_D_run 1 (3, [(3, .inl (y3 - 8)), (5, .inl 1), (4, .inl (yi_w (yi_land (yi_lushr v y3) 255))), (0, .inr (.inr (some 12))), (1, .inr (.inl v))], [], (I15, L, R, Y), 0, 0) (fun _ => rfl) ?_
              refine yi_D_al (al := [(3, .inl (y3 - 8)), (0, .inr (.inr (some 12))), (1, .inr (.inl v)), (4, .inl (yi_w (yi_land (yi_lushr v y3) 255))), (5, .inl 1)]) (show ([3, 0, 1, 4, 5] : List Nat).Nodup by decide) (show ([3, 5, 4, 0, 1] : List Nat).Nodup by decide) (yi_mc (List.mem_of_getElem? (i := 0) rfl) (yi_mc (List.mem_of_getElem? (i := 4) rfl) (yi_mc (List.mem_of_getElem? (i := 3) rfl) (yi_mc (List.mem_of_getElem? (i := 1) rfl) (yi_mc (List.mem_of_getElem? (i := 2) rfl) yi_mn))))) ?_
              exact yi_D_mono (ih3 (by omega) (y3 - 8) (yi_w (yi_land (yi_lushr v y3) 255)) 1 I15 (j + 1) (by omega) (fun k => by rw [hst, ← w16, yi_u_ne _ _ (by omega), ← w13]; show _ = sp_up _ _ _ k; by_cases e : k = (J1 12 5).toNat; subst e; rw [yi_u_eq, hm, ← hl, sp_up_e]; rw [yi_u_ne _ _ (by omega), ← hl, sp_up_n _ _ e]; exact hT k) (by rw [hst]; show _ = (tl_f (fun k => yi_w (yi_land (yi_lushr v k) 255)) (I 13, I 12 5) j).2 + 1; rw [← hl, ← w16, yi_u_eq]) (by rw [← w16, yi_u_eq]; omega) (fun p k hp => by rw [← w16, yi_u_ne _ _ (by omega), ← w13, yi_u_ne _ _ (by omega)]; exact fI p k hp)) (by omega)
  refine yi_D_al (al := [(3, .inl 56), (0, .inr (.inr (some 12))), (1, .inr (.inl v)), (4, .inl 0), (5, .inl 0)]) (show ([3, 0, 1, 4, 5] : List Nat).Nodup by decide) (show ([3, 0, 1] : List Nat).Nodup by decide) (yi_mc (List.mem_of_getElem? (i := 0) rfl) (yi_mc (List.mem_of_getElem? (i := 1) rfl) (yi_mc (List.mem_of_getElem? (i := 2) rfl) yi_mn))) ?_
  exact pt3 k (Nat.le_refl _) 56 0 0 I 0 (by omega) (fun _ => rfl) rfl hb (fun _ _ _ => rfl)
theorem q_feed {d : Nat} {I L : Nat → Nat → Int} {R : Nat → Nat → Option Nat} {Y : (Nat → Nat) × (Nat → Nat) × Nat} (hS : ym_S (R, Y)) {va vb vc : Int} (hb : 0 ≤ I 82 2 ∧ I 82 2 ≤ 1000) : yi_P zi_Ms d 25 [.inr (.inr (some 82)), .inr (.inl va), .inr (.inl vb), .inr (.inl vc)] (I, L, R, Y) (fun r => ∃ I', r = (some (.inl (I' 82 2)), (I', L, R, Y), 0, 0) ∧ (∀ k, I' 83 k = (tl_3 (fun k => yi_iand (yi_w (yi_lshr va k)) 255) (fun k => yi_iand (yi_w (yi_lshr vb k)) 255) (fun k => yi_iand (yi_w (yi_lshr vc k)) 255) (I 83, I 82 2)).1 k) ∧ I' 82 2 = (tl_3 (fun k => yi_iand (yi_w (yi_lshr va k)) 255) (fun k => yi_iand (yi_w (yi_lshr vb k)) 255) (fun k => yi_iand (yi_w (yi_lshr vc k)) 255) (I 83, I 82 2)).2 ∧ (0 ≤ I' 82 2 ∧ I' 82 2 ≤ 1000) ∧ (∀ p k, p ≠ 83 ∧ ¬ (p = 82 ∧ k = 2) ∧ ¬ (p = 82 ∧ k = 0) → I' p k = I p k)) := by
  refine yi_P_of (M := zi_m25) rfl (fun d k => ?_)
  show yi_D zi_Ms d zi_m25 k (0, [(0, .inr (.inr (some 82))), (1, .inr (.inl va)), (3, .inr (.inl vb)), (5, .inr (.inl vc))], [], (I, L, R, Y), 0, 0) _
  refine yi_D_run 2 (2, [(0, .inr (.inr (some 82))), (1, .inr (.inl va)), (3, .inr (.inl vb)), (5, .inr (.inl vc))], [.inl 0, .inr (.inr (some 82))], (I, L, R, Y), 0, 0) (fun _ => rfl) ?_
  refine yi_D_pi rfl (fun _ => ?_)
  generalize w2 : yi_u I 82 0 0 = I1
  refine yi_D_run 2 (7, [(0, .inr (.inr (some 82))), (1, .inr (.inl va)), (3, .inr (.inl vb)), (5, .inr (.inl vc))], [.inr (.inl va), .inr (.inr (some 82))], (I1, L, R, Y), 0, 0) (fun _ => rfl) ?_
  refine yi_D_callv rfl (q_lay hS (by rw [← w2, yi_u_ne _ _ (by omega)]; exact hb)) ?_
  rintro _ ⟨I3, rfl, hT4, hl5, hb6, f7⟩
  show yi_D zi_Ms d zi_m25 k (10, [(0, .inr (.inr (some 82))), (1, .inr (.inl va)), (3, .inr (.inl vb)), (5, .inr (.inl vc))], [], (I3, L, R, Y), 0, 0) _
  refine yi_D_run 2 (12, [(0, .inr (.inr (some 82))), (1, .inr (.inl va)), (3, .inr (.inl vb)), (5, .inr (.inl vc))], [.inr (.inl vb), .inr (.inr (some 82))], (I3, L, R, Y), 0, 0) (fun _ => rfl) ?_
  refine yi_D_callv rfl (q_lay hS hb6) ?_
  rintro _ ⟨I8, rfl, hT9, hl10, hb11, f12⟩
  show yi_D zi_Ms d zi_m25 k (15, [(0, .inr (.inr (some 82))), (1, .inr (.inl va)), (3, .inr (.inl vb)), (5, .inr (.inl vc))], [], (I8, L, R, Y), 0, 0) _
  refine yi_D_run 2 (18, [(0, .inr (.inr (some 82))), (1, .inr (.inl va)), (3, .inr (.inl vb)), (5, .inr (.inl vc))], [.inr (.inl vc), .inr (.inr (some 82))], (I8, L, R, Y), 0, 0) (fun _ => rfl) ?_
  refine yi_D_callv rfl (q_lay hS hb11) ?_
  rintro _ ⟨I13, rfl, hT14, hl15, hb16, f17⟩
  show yi_D zi_Ms d zi_m25 k (21, [(0, .inr (.inr (some 82))), (1, .inr (.inl va)), (3, .inr (.inl vb)), (5, .inr (.inl vc))], [], (I13, L, R, Y), 0, 0) _
  refine yi_D_run 1 (22, [(0, .inr (.inr (some 82))), (1, .inr (.inl va)), (3, .inr (.inl vb)), (5, .inr (.inl vc))], [.inr (.inr (some 82))], (I13, L, R, Y), 0, 0) (fun _ => rfl) ?_
  refine yi_D_gi (v := I13 82 2) rfl rfl rfl rfl (fun _ => ?_)
  refine yi_D_reti rfl ?_
  have e0 : (I3 83, I3 82 2) = tl_f (fun k => yi_iand (yi_w (yi_lshr va k)) 255) (I1 83, I1 82 2) 8 := Prod.ext (funext hT4) hl5
  have e1 : (I8 83, I8 82 2) = tl_f (fun k => yi_iand (yi_w (yi_lshr vb k)) 255) (I3 83, I3 82 2) 8 := Prod.ext (funext hT9) hl10
  have e2 : (I13 83, I13 82 2) = tl_f (fun k => yi_iand (yi_w (yi_lshr vc k)) 255) (I8 83, I8 82 2) 8 := Prod.ext (funext hT14) hl15
  have ez : (I1 83, I1 82 2) = (I 83, I 82 2) := Prod.ext (funext fun k => show I1 83 k = I 83 k by rw [← w2, yi_u_ne _ _ (by omega)]) (show I1 82 2 = I 82 2 by rw [← w2, yi_u_ne _ _ (by omega)])
  have ef : (I13 83, I13 82 2) = tl_3 (fun k => yi_iand (yi_w (yi_lshr va k)) 255) (fun k => yi_iand (yi_w (yi_lshr vb k)) 255) (fun k => yi_iand (yi_w (yi_lshr vc k)) 255) (I 83, I 82 2) := by unfold tl_3; rw [e2, e1, e0, ez]
  exact ⟨_, rfl, fun k => congrFun (congrArg Prod.fst ef) k, congrArg Prod.snd ef, hb16, fun p k hp => by rw [f17 p k (by omega), f12 p k (by omega), f7 p k (by omega), ← w2, yi_u_ne _ _ (by omega)]⟩
theorem p_feed {d : Nat} {I L : Nat → Nat → Int} {R : Nat → Nat → Option Nat} {Y : (Nat → Nat) × (Nat → Nat) × Nat} (hX : cs_S R Y ∧ True) (hR : R 10 1 = some 12) {va vb vc : Int} (hb : 0 ≤ I 12 5 ∧ I 12 5 ≤ 1000) : yi_P zi_Ms d 149 [.inr (.inr (some 10)), .inr (.inl va), .inr (.inl vb), .inr (.inl vc)] (I, L, R, Y) (fun r => ∃ I', r = (some (.inl (I' 12 5)), (I', L, R, Y), 0, 0) ∧ (∀ k, I' 13 k = (tl_3 (fun k => yi_w (yi_land (yi_lushr va k) 255)) (fun k => yi_w (yi_land (yi_lushr vb k) 255)) (fun k => yi_w (yi_land (yi_lushr vc k) 255)) (I 13, I 12 5)).1 k) ∧ I' 12 5 = (tl_3 (fun k => yi_w (yi_land (yi_lushr va k) 255)) (fun k => yi_w (yi_land (yi_lushr vb k) 255)) (fun k => yi_w (yi_land (yi_lushr vc k) 255)) (I 13, I 12 5)).2 ∧ (0 ≤ I' 12 5 ∧ I' 12 5 ≤ 1000) ∧ (∀ p k, p ≠ 13 ∧ ¬ (p = 12 ∧ k = 5) → I' p k = I p k)) := by
  refine yi_P_of (M := zi_m149) rfl (fun d k => ?_)
  show yi_D zi_Ms d zi_m149 k (0, [(0, .inr (.inr (some 10))), (1, .inr (.inl va)), (3, .inr (.inl vb)), (5, .inr (.inl vc))], [], (I, L, R, Y), 0, 0) _
  refine yi_D_run 1 (1, [(0, .inr (.inr (some 10))), (1, .inr (.inl va)), (3, .inr (.inl vb)), (5, .inr (.inl vc))], [.inr (.inr (some 10))], (I, L, R, Y), 0, 0) (fun _ => rfl) ?_
  refine yi_D_gr (v := some 12) rfl rfl rfl hR (fun _ => ?_)
  refine yi_D_run 1 (5, [(0, .inr (.inr (some 10))), (1, .inr (.inl va)), (3, .inr (.inl vb)), (5, .inr (.inl vc))], [.inr (.inl va), .inr (.inr (some 12))], (I, L, R, Y), 0, 0) (fun _ => rfl) ?_
  refine yi_D_callv rfl (p_putBytes hX hb) ?_
  rintro _ ⟨I1, rfl, hT2, hl3, hb4, f5⟩
  show yi_D zi_Ms d zi_m149 k (8, [(0, .inr (.inr (some 10))), (1, .inr (.inl va)), (3, .inr (.inl vb)), (5, .inr (.inl vc))], [], (I1, L, R, Y), 0, 0) _
  refine yi_D_run 1 (9, [(0, .inr (.inr (some 10))), (1, .inr (.inl va)), (3, .inr (.inl vb)), (5, .inr (.inl vc))], [.inr (.inr (some 10))], (I1, L, R, Y), 0, 0) (fun _ => rfl) ?_
  refine yi_D_gr (v := some 12) rfl rfl rfl hR (fun _ => ?_)
  refine yi_D_run 1 (13, [(0, .inr (.inr (some 10))), (1, .inr (.inl va)), (3, .inr (.inl vb)), (5, .inr (.inl vc))], [.inr (.inl vb), .inr (.inr (some 12))], (I1, L, R, Y), 0, 0) (fun _ => rfl) ?_
  refine yi_D_callv rfl (p_putBytes hX hb4) ?_
  rintro _ ⟨I6, rfl, hT7, hl8, hb9, f10⟩
  show yi_D zi_Ms d zi_m149 k (16, [(0, .inr (.inr (some 10))), (1, .inr (.inl va)), (3, .inr (.inl vb)), (5, .inr (.inl vc))], [], (I6, L, R, Y), 0, 0) _
  refine yi_D_run 1 (17, [(0, .inr (.inr (some 10))), (1, .inr (.inl va)), (3, .inr (.inl vb)), (5, .inr (.inl vc))], [.inr (.inr (some 10))], (I6, L, R, Y), 0, 0) (fun _ => rfl) ?_
  refine yi_D_gr (v := some 12) rfl rfl rfl hR (fun _ => ?_)
  refine yi_D_run 1 (22, [(0, .inr (.inr (some 10))), (1, .inr (.inl va)), (3, .inr (.inl vb)), (5, .inr (.inl vc))], [.inr (.inl vc), .inr (.inr (some 12))], (I6, L, R, Y), 0, 0) (fun _ => rfl) ?_
  refine yi_D_callv rfl (p_putBytes hX hb9) ?_
  rintro _ ⟨I11, rfl, hT12, hl13, hb14, f15⟩
  show yi_D zi_Ms d zi_m149 k (25, [(0, .inr (.inr (some 10))), (1, .inr (.inl va)), (3, .inr (.inl vb)), (5, .inr (.inl vc))], [], (I11, L, R, Y), 0, 0) _
  refine yi_D_run 1 (26, [(0, .inr (.inr (some 10))), (1, .inr (.inl va)), (3, .inr (.inl vb)), (5, .inr (.inl vc))], [.inr (.inr (some 10))], (I11, L, R, Y), 0, 0) (fun _ => rfl) ?_
  refine yi_D_gr (v := some 12) rfl rfl rfl hR (fun _ => ?_)
  refine yi_D_gi (v := I11 12 5) rfl rfl rfl rfl (fun _ => ?_)
  refine yi_D_reti rfl ?_
  have e0 : (I1 13, I1 12 5) = tl_f (fun k => yi_w (yi_land (yi_lushr va k) 255)) (I 13, I 12 5) 8 := Prod.ext (funext hT2) hl3
  have e1 : (I6 13, I6 12 5) = tl_f (fun k => yi_w (yi_land (yi_lushr vb k) 255)) (I1 13, I1 12 5) 8 := Prod.ext (funext hT7) hl8
  have e2 : (I11 13, I11 12 5) = tl_f (fun k => yi_w (yi_land (yi_lushr vc k) 255)) (I6 13, I6 12 5) 8 := Prod.ext (funext hT12) hl13
  have ef : (I11 13, I11 12 5) = tl_3 (fun k => yi_w (yi_land (yi_lushr va k) 255)) (fun k => yi_w (yi_land (yi_lushr vb k) 255)) (fun k => yi_w (yi_land (yi_lushr vc k) 255)) (I 13, I 12 5) := by unfold tl_3; rw [e2, e1, e0]
  exact ⟨_, rfl, fun k => congrFun (congrArg Prod.fst ef) k, congrArg Prod.snd ef, hb14, fun p k hp => by rw [f15 p k (by omega), f10 p k (by omega), f5 p k (by omega)]⟩
