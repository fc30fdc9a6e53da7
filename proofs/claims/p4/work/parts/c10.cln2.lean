/-! The class reader: lines of a land, each. -/
section YD
variable {Ms : List zi_M} {d : Nat} {M : zi_M} {k : Nat} {Q : yi_R → Prop} {pc n : Nat} {al : List (Nat × yi_V)} {st : List yi_V} {I L : Nat → Nat → Int} {R : Nat → Nat → Option Nat} {Y : (Nat → Nat) × (Nat → Nat) × Nat} {nc ns : Nat}
theorem yi_D_nwa {ty : ArrayType} {t : Nat} {o : List Nat} {x : Int} (h1 : zi_lk2 pc M.2.2.2.2.1 = some (.newarray ty, n, t :: o)) (hg : ∀ (I2 L2 : Nat → Nat → Int) (R2 : Nat → Nat → Option Nat) (Y2 : (Nat → Nat) × (Nat → Nat) × Nat), (∀ p k, p ≠ Y.2.2 → I2 p k = I p k ∧ L2 p k = L p k ∧ R2 p k = R p k) → (∀ p, p ≠ Y.2.2 → Y2.1 p = Y.1 p ∧ Y2.2.1 p = Y.2.1 p) → Y2.2.1 Y.2.2 = x.toNat → Y2.2.2 = Y.2.2 + 1 → 0 ≤ x → yi_D Ms d M k (pc + n, al, .inr (.inr (some Y.2.2)) :: st, (I2, L2, R2, Y2), nc + 1, ns + x.toNat) Q) : yi_D Ms d M k (pc, al, .inl x :: st, (I, L, R, Y), nc, ns) Q := by
  refine yi_D_l1 (g := (pc + n, al, .inr (.inr (some Y.2.2)) :: st, yi_nw (I, L, R, Y) (20 + t) x.toNat, nc + 1, ns + x.toNat)) (c := decide (0 ≤ x) && decide (x ≤ 1000000) && Nat.ble t 6) h1 rfl (fun call => rfl) (fun h => ?_)
  rw [Bool.and_eq_true, Bool.and_eq_true] at h
  refine hg _ _ _ _ (fun p k hp => ⟨if_neg hp, if_neg hp, if_neg hp⟩) (fun p hp => ⟨if_neg hp, if_neg hp⟩) (if_pos rfl) rfl (of_decide_eq_true h.1.1)
theorem yi_D_pr {j ci f p : Nat} {o : List Nat} {z : Option Nat} (h1 : zi_lk2 pc M.2.2.2.2.1 = some (.putfield j, n, ci :: f :: o)) (hg : ∀ R2 : Nat → Nat → Option Nat, R2 p f = z → (∀ p' k', ¬ (p' = p ∧ k' = f) → R2 p' k' = R p' k') → yi_D Ms d M k (pc + n, al, st, (I, L, R2, Y), nc, ns) Q) : yi_D Ms d M k (pc, al, .inr (.inr z) :: .inr (.inr (some p)) :: st, (I, L, R, Y), nc, ns) Q := by
  refine yi_D_l1 (g := (pc + n, al, st, yi_uR (I, L, R, Y) p f z, nc, ns)) (c := Nat.ble 10 p && (Nat.beq (Y.1 p) ci && Nat.ble (f + 1) (zi_Fs.getD ci ("", [])).2.length && Nat.ble (ci + 1) 20 && yi_fit (zi_ty ci f) (.inr (.inr z)))) h1 rfl (fun call => rfl) (fun h => ?_)
  exact hg _ (if_pos ⟨rfl, rfl⟩) (fun p' k' hp => if_neg hp)
end YD
section CLD
variable {I L I' L' : Nat → Nat → Int} {R Rr : Nat → Nat → Option Nat} {Y Yy : (Nat → Nat) × (Nat → Nat) × Nat} {q : Nat} {ld : Nat → Int} {nm : Int → Int} {n : Nat}
theorem cs_Ld_law (h : cs_Ld I L R Y q ld nm) (h4 : ld 4 < 4) (e : I' q 18 = ld 4 + 1) (f : (∀ p k, (p = q → ¬ k = 18) ∧ (p ≤ q + 6 ∨ q + 14 ≤ p) → I' p k = I p k)) : cs_Ld I' L R Y q (sp_up ld 4 (ld 4 + 1)) nm := by
  have b := h.2.2.1.2.2.2.2.1
  refine cs_Ld_oth h (fun _ _ _ => rfl) (fun _ _ => rfl) (Nat.le_refl _) (fun j hj => sp_up_n _ _ (by omega)) ?_ ?_ ?_ (fun j _ _ => sp_up_n _ _ (by omega)) (fun k hk => f q k (by omega)) (fun k => ⟨f _ k (by omega), f _ k (by omega), f _ k (by omega)⟩) (fun _ _ _ => rfl)
  · rw [sp_up_e]; omega
  · rw [sp_up_n _ _ (by omega), f q 19 (by omega)]; exact ⟨h.2.1.2.2.2.2.2, h.2.2.1.2.2.2.2.2⟩
  · rw [sp_up_n _ _ (by omega), f q 13 (by omega)]; exact h.2.2.2.1
theorem cs_Ld_wish (h : cs_Ld I L R Y q ld nm) (h4 : ld 5 < 6) (e : I' q 19 = ld 5 + 1) (f : (∀ p k, (p = q → ¬ k = 19) ∧ (p ≤ q + 6 ∨ q + 14 ≤ p) → I' p k = I p k)) : cs_Ld I' L R Y q (sp_up ld 5 (ld 5 + 1)) nm := by
  have b := h.2.2.1.2.2.2.2.2
  refine cs_Ld_oth h (fun _ _ _ => rfl) (fun _ _ => rfl) (Nat.le_refl _) (fun j hj => sp_up_n _ _ (by omega)) ?_ ?_ ?_ (fun j _ _ => sp_up_n _ _ (by omega)) (fun k hk => f q k (by omega)) (fun k => ⟨f _ k (by omega), f _ k (by omega), f _ k (by omega)⟩) (fun _ _ _ => rfl)
  · rw [sp_up_n _ _ (by omega), f q 18 (by omega)]; exact ⟨h.2.1.2.2.2.2.1, h.2.2.1.2.2.2.2.1⟩
  · rw [sp_up_e]; omega
  · rw [sp_up_n _ _ (by omega), f q 13 (by omega)]; exact h.2.2.2.1
theorem cs_Ld_price (h : cs_Ld I L R Y q ld nm) (e : I' q 13 = 1) (f : ∀ p k, p < Y.2.2 ∧ ¬ (p = q ∧ k = 13) → I' p k = I p k) (fl : ∀ p k, p < Y.2.2 → L' p k = L p k) (hR : ∀ p k, p < Y.2.2 ∧ ¬ (p = q ∧ k = 12) → Rr p k = R p k) (hY : Y.2.2 ≤ Yy.2.2 ∧ ∀ p, p < Y.2.2 → Yy.2.1 p = Y.2.1 p ∧ Yy.1 p = Y.1 p) : cs_Ld I' L' Rr Yy q (sp_up ld 6 (n : Int)) nm := by
  have q1 := h.1.2.2.2.2.2.2
  refine cs_Ld_oth h hR (fun p hp => (hY.2 p hp).1) hY.1 (fun j hj => sp_up_n _ _ (by omega)) ?_ ?_ ?_ (fun j _ _ => sp_up_n _ _ (by omega)) (fun k hk => f q k (by omega)) (fun k => ⟨f _ k (by omega), f _ k (by omega), f _ k (by omega)⟩) fl
  · rw [sp_up_n _ _ (by omega), f q 18 (by omega)]; exact ⟨h.2.1.2.2.2.2.1, h.2.2.1.2.2.2.2.1⟩
  · rw [sp_up_n _ _ (by omega), f q 19 (by omega)]; exact ⟨h.2.1.2.2.2.2.2, h.2.2.1.2.2.2.2.2⟩
  · rw [sp_up_e, e]; omega
end CLD
theorem p_setPrice {d : Nat} {I L : Nat → Nat → Int} {R : Nat → Nat → Option Nat} {Y : (Nat → Nat) × (Nat → Nat) × Nat} {x y : Int} {K P V : Nat → Int} {te q : Nat} {ld : Nat → Int} {nm : Int → Int} (hW : cs_W I L R Y K P V te q ld nm) : yi_P zi_Ms d 237 [.inr (.inr (some q)), .inr (.inr (some 19)), .inl x, .inl y] (I, L, R, Y) (fun r => ∃ I' L' R' Y' n m, r = (none, (I', L', R', Y'), n, m) ∧ (∀ p k, p < Y.2.2 ∧ ¬ (p = q ∧ k = 13) → I' p k = I p k) ∧ (∀ p k, p < Y.2.2 → L' p k = L p k) ∧ I' q 13 = 1 ∧ (∀ p k, p < Y.2.2 ∧ ¬ (p = q ∧ k = 12) → R' p k = R p k) ∧ (Y.2.2 ≤ Y'.2.2 ∧ ∀ p, p < Y.2.2 → Y'.2.1 p = Y.2.1 p ∧ Y'.1 p = Y.1 p)) := by
  refine yi_P_of (M := zi_m237) rfl (fun d k => ?_)
  obtain ⟨ly1, ly2, ly3, ly4⟩ := hW.2.2.1.2.2.2
  have lb := hW.2.2.2.2.1
  have hq0 := hW.2.2.1.1
  show yi_D zi_Ms d zi_m237 k (0, [(0, .inr (.inr (some q))), (1, .inr (.inr (some 19))), (2, .inl x), (3, .inl y)], [], (I, L, R, Y), 0, 0) _
  refine yi_D_run 2 (2, [(0, .inr (.inr (some q))), (1, .inr (.inr (some 19))), (2, .inl x), (3, .inl y)], [.inl 1, .inr (.inr (some q))], (I, L, R, Y), 0, 0) (fun _ => rfl) ?_
  refine yi_D_pi rfl (fun _ => ?_)
  generalize w2 : yi_u I q 13 1 = I1
  refine yi_D_run 1 (6, [(0, .inr (.inr (some q))), (1, .inr (.inr (some 19))), (2, .inl x), (3, .inl y)], [.inl x], (I1, L, R, Y), 0, 0) (fun _ => rfl) ?_
  by_cases h3 : x < 0
  · refine yi_D_if1 true rfl (yi_lt_t h3) ?_
    refine yi_D_retv rfl ?_
    refine ⟨_, _, _, _, _, _, rfl, fun p k hp => by rw [← w2, yi_u_ne _ _ (by omega)], fun _ _ _ => rfl, ?_, fun _ _ _ => rfl, Nat.le_refl _, fun _ _ => ⟨rfl, rfl⟩⟩
    rw [← w2, yi_u_eq]
  · refine yi_D_if1 false rfl (yi_lt_f h3) ?_
    refine yi_D_run 2 (11, [(0, .inr (.inr (some q))), (1, .inr (.inr (some 19))), (2, .inl x), (3, .inl y)], [.inl y, .inl x], (I1, L, R, Y), 0, 0) (fun _ => rfl) ?_
    by_cases h4 : y < x
    · refine yi_D_if2 true rfl (yi_gt_t h4) ?_
      refine yi_D_retv rfl ?_
      refine ⟨_, _, _, _, _, _, rfl, fun p k hp => by rw [← w2, yi_u_ne _ _ (by omega)], fun _ _ _ => rfl, ?_, fun _ _ _ => rfl, Nat.le_refl _, fun _ _ => ⟨rfl, rfl⟩⟩
      rw [← w2, yi_u_eq]
    · refine yi_D_if2 false rfl (yi_gt_f h4) ?_
      refine yi_D_run 2 (16, [(0, .inr (.inr (some q))), (1, .inr (.inr (some 19))), (2, .inl x), (3, .inl y)], [.inr (.inr (some 19)), .inl y], (I1, L, R, Y), 0, 0) (fun _ => rfl) ?_
      refine yi_D_len (v := 1002) rfl rfl (by rw [hW.1.2.2.2.2.2.2.2.2]; rfl) ?_
      by_cases h5 : 1002 < y
      · refine yi_D_if2 true rfl (yi_gt_t h5) ?_
        refine yi_D_retv rfl ?_
        refine ⟨_, _, _, _, _, _, rfl, fun p k hp => by rw [← w2, yi_u_ne _ _ (by omega)], fun _ _ _ => rfl, ?_, fun _ _ _ => rfl, Nat.le_refl _, fun _ _ => ⟨rfl, rfl⟩⟩
        rw [← w2, yi_u_eq]
      · refine yi_D_if2 false rfl (yi_gt_f h5) ?_
        refine yi_D_run 3 (23, [(0, .inr (.inr (some q))), (1, .inr (.inr (some 19))), (2, .inl x), (3, .inl y)], [.inl x, .inl y, .inr (.inr (some q))], (I1, L, R, Y), 0, 0) (fun _ => rfl) ?_
        refine yi_D_isub rfl (y - x) (yi_wn (by omega) (by omega)) ?_
        refine yi_D_nwa rfl (fun I6 L7 R8 Y9 n10 n11 n12 n13 n14 => ?_)
        have n15 : ∀ p k, p ≠ Y.2.2 → I6 p k = I1 p k := fun p k h => (n10 p k h).1
        have n16 : ∀ p k, p ≠ Y.2.2 → L7 p k = L p k := fun p k h => (n10 p k h).2.1
        refine yi_D_pr rfl (fun R17 n18 n19 => ?_)
        
        refine yi_D_run 2 (32, [(4, .inl 0), (0, .inr (.inr (some q))), (1, .inr (.inr (some 19))), (2, .inl x), (3, .inl y)], [], (I6, L7, R17, Y9), (0 + 1), (0 + ((y - x).toNat))) (fun _ => rfl) ?_
        have pt32 : ∀ j32, j32 ≤ k → ∀ (y4 : Int) (J3 : Nat → Nat → Int), (0 ≤ y4 ∧ y4 ≤ 2000) → (∀ p k, p ≠ Y.2.2 → J3 p k = I6 p k) → yi_D zi_Ms d zi_m237 j32 (32, [(4, .inl y4), (0, .inr (.inr (some q))), (1, .inr (.inr (some 19))), (2, .inl x), (3, .inl y)], [], (J3, L7, R17, Y9), (0 + 1), (0 + ((y - x).toNat))) (fun r => ∃ I' L' R' Y' n m, r = (none, (I', L', R', Y'), n, m) ∧ (∀ p k, p < Y.2.2 ∧ ¬ (p = q ∧ k = 13) → I' p k = I p k) ∧ (∀ p k, p < Y.2.2 → L' p k = L p k) ∧ I' q 13 = 1 ∧ (∀ p k, p < Y.2.2 ∧ ¬ (p = q ∧ k = 12) → R' p k = R p k) ∧ (Y.2.2 ≤ Y'.2.2 ∧ ∀ p, p < Y.2.2 → Y'.2.1 p = Y.2.1 p ∧ Y'.1 p = Y.1 p)) := by
          intro j32
          induction j32 with
          | zero => intros; exact yi_D_0
          | succ j32 ih32 =>
          intro hk32 y4 J3 h4 fJ
          refine yi_D_run1 1 (35, [(4, .inl y4), (0, .inr (.inr (some q))), (1, .inr (.inr (some 19))), (2, .inl x), (3, .inl y)], [.inr (.inr (some q)), .inl y4], (J3, L7, R17, Y9), (0 + 1), (0 + ((y - x).toNat))) (fun _ => rfl) ?_
          refine yi_D_gr (v := some Y.2.2) rfl rfl (Nat.ble_eq_true_of_le (by omega)) n18 (fun _ => ?_)
          refine yi_D_len (v := (Y9.2.1 Y.2.2 : Int)) rfl (Nat.ble_eq_true_of_le (by omega)) rfl ?_
          by_cases h20 : (Y9.2.1 Y.2.2 : Int) ≤ y4
          · refine yi_D_if2 true rfl (yi_ge_t h20) ?_
            refine yi_D_retv rfl ?_
            exact ⟨_, _, _, _, _, _, rfl, fun p k hp => by rw [fJ p k (by omega), n15 p k (by omega), ← w2, yi_u_ne _ _ (by omega)], fun p k hp => (n10 p k (by omega)).2.1, by rw [fJ q 13 (by omega), n15 q 13 (by omega), ← w2, yi_u_eq], fun p k hp => (n19 p k (by omega)).trans (n10 p k (by omega)).2.2, by omega, fun p hp => ⟨(n11 p (by omega)).2, (n11 p (by omega)).1⟩⟩
          · refine yi_D_if2 false rfl (yi_ge_f h20) ?_
            refine yi_D_run 1 (43, [(4, .inl y4), (0, .inr (.inr (some q))), (1, .inr (.inr (some 19))), (2, .inl x), (3, .inl y)], [.inr (.inr (some q))], (J3, L7, R17, Y9), (0 + 1), (0 + ((y - x).toNat))) (fun _ => rfl) ?_
            refine yi_D_gr (v := some Y.2.2) rfl rfl (Nat.ble_eq_true_of_le (by omega)) n18 (fun _ => ?_)
            refine yi_D_run 5 (53, [(4, .inl y4), (0, .inr (.inr (some q))), (1, .inr (.inr (some 19))), (2, .inl x), (3, .inl y)], [.inl (yi_w (x + y4)), .inr (.inr (some 19)), .inl y4, .inr (.inr (some Y.2.2))], (J3, L7, R17, Y9), (0 + 1), (0 + ((y - x).toNat))) (fun _ => rfl) ?_
            have r21 : J3 19 ((yi_w (x + y4)).toNat) = I 19 ((yi_w (x + y4)).toNat) := by rw [fJ 19 ((yi_w (x + y4)).toNat) (by omega), n15 19 ((yi_w (x + y4)).toNat) (by omega), ← w2, yi_u_ne _ _ (by omega)]
            refine yi_D_il (v := I 19 ((yi_w (x + y4)).toNat)) rfl rfl r21 (fun _ _ => ?_)
            refine yi_D_is rfl (fun _ _ => ?_)
            generalize w23 : yi_u J3 Y.2.2 (y4.toNat) (I 19 ((yi_w (x + y4)).toNat)) = I22
            refine yi_D_iinc [(4, .inl (y4 + 1)), (0, .inr (.inr (some q))), (1, .inr (.inr (some 19))), (2, .inl x), (3, .inl y)] rfl rfl rfl (by rw [show yi_w (y4 + 1) = y4 + 1 from (yi_wn (by omega) (by omega)).trans (by omega)]; rfl) ?_
            refine yi_D_run 1 (32, [(4, .inl (y4 + 1)), (0, .inr (.inr (some q))), (1, .inr (.inr (some 19))), (2, .inl x), (3, .inl y)], [], (I22, L7, R17, Y9), (0 + 1), (0 + ((y - x).toNat))) (fun _ => rfl) ?_
            exact yi_D_mono (ih32 (by omega) (y4 + 1) I22 (by omega) (fun p k hp => by rw [← w23, yi_u_ne _ _ (by omega), fJ p k (by omega)])) (by omega)
        exact pt32 k (Nat.le_refl _) 0 I6 (by omega) (fun _ _ _ => rfl)
