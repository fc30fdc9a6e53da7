/-! What any call gives; the check reads a land. -/
theorem yi_stp_v {call : yi_K} {sl : List Int} {M : zi_M} {f : yi_F} {v : Option yi_V} (hM : M.2.2.2.1 = none) (h : yi_stp call sl M f = some (.inr v)) : v = none := by
  unfold yi_stp at h
  split at h
  · rename_i e _
    split at h
    · cases h
    · rename_i w hd
      cases hi : zi_isr e.1 with
      | false => rw [hi] at h; cases h
      | true =>
        rw [hi] at h
        have h : (some (Sum.inr w) : yi_O) = some (Sum.inr v) := h
        cases h
        rw [hM] at hd
        generalize e.1 = i at hd hi
        generalize f.2.2.1 = st at hd
        cases i with
        | ireturn => have hd : (none : yi_O) = some (Sum.inr v) := hd; cases hd
        | lreturn => have hd : (none : yi_O) = some (Sum.inr v) := hd; cases hd
        | areturn => have hd : (none : yi_O) = some (Sum.inr v) := hd; cases hd
        | return_ =>
          have hd : yi_rtv none st = some (Sum.inr v) := hd
          cases st with
          | nil => have hd : (some (Sum.inr none) : yi_O) = some (Sum.inr v) := hd; cases hd; rfl
          | cons x y => have hd : (none : yi_O) = some (Sum.inr v) := hd; cases hd
        | _ => cases hi
    · cases h
  · cases h
theorem yi_loop_v {call : yi_K} {M : zi_M} (hM : M.2.2.2.1 = none) {r : yi_R} : ∀ (j : Nat) (f : yi_F), yi_loop call M j f = some r → r.1 = none
  | 0, f, h => by
    have h : (none : Option yi_R) = some r := h
    cases h
  | j + 1, f, h => by
    have h : (match yi_stp call [] M f with | some (.inl g) => bif yi_up f g then yi_loop call M j g else none | some (.inr v) => some (v, f.2.2.2.1, f.2.2.2.2.1, f.2.2.2.2.2) | none => none) = some r := h
    cases hs : yi_stp call [] M f with
    | none => rw [hs] at h; cases h
    | some q =>
      rw [hs] at h
      cases q with
      | inr v =>
        have h : some (v, f.2.2.2.1, f.2.2.2.2.1, f.2.2.2.2.2) = some r := h
        cases h
        exact yi_stp_v hM hs
      | inl g =>
        have h : (bif yi_up f g then yi_loop call M j g else none) = some r := h
        cases hu : yi_up f g with
        | false => rw [hu] at h; cases h
        | true => rw [hu] at h; exact yi_loop_v hM j g h
theorem yi_P_void {Ms : List zi_M} {d mi : Nat} {vs : List yi_V} {H : yi_H} {M : zi_M} (hM : Ms[mi]? = some M) (hr : M.2.2.2.1 = none) : yi_P Ms d mi vs H (fun r => ∃ I' L' R' Y' n m, r = (none, (I', L', R', Y'), n, m)) := by
  cases d with
  | zero => exact yi_P_0
  | succ d =>
    refine yi_P_s hM (fun k n j r hj e => ?_)
    have h := yi_loop_v hr j _ e
    obtain ⟨o, ⟨I', L', R', Y'⟩, n, m⟩ := r
    have h : o = none := h
    subst h
    exact ⟨I', L', R', Y', n, m, rfl⟩
theorem q_isSign_s {d : Nat} {I L : Nat → Nat → Int} {R : Nat → Nat → Option Nat} {Y : (Nat → Nat) × (Nat → Nat) × Nat} (hS : ym_S (R, Y)) {c : Int} (hf : 0 < I 82 8) : yi_P zi_Ms d 62 [.inr (.inr (some 82)), .inl c] (I, L, R, Y) (fun r => r = (some (.inl 0), (I, L, R, Y), 0, 0)) := by
  refine yi_P_of (M := zi_m62) rfl (fun d k => ?_)
  show yi_D zi_Ms d zi_m62 k (0, [(0, .inr (.inr (some 82))), (1, .inl c)], [], (I, L, R, Y), 0, 0) _
  refine yi_D_run 1 (1, [(0, .inr (.inr (some 82))), (1, .inl c)], [.inr (.inr (some 82))], (I, L, R, Y), 0, 0) (fun _ => rfl) ?_
  refine yi_D_gi (v := I 82 8) rfl rfl rfl rfl (fun _ => ?_)
  have h1 : ¬ ((I 82 8) = 0) := by omega
  refine yi_D_if1 true rfl (yi_ne_t h1) ?_
  refine yi_D_run 1 (40, [(0, .inr (.inr (some 82))), (1, .inl c)], [.inl 0], (I, L, R, Y), 0, 0) (fun _ => rfl) ?_
  refine yi_D_reti rfl ?_
  rfl
theorem q_wrong_s {d : Nat} {I L : Nat → Nat → Int} {R : Nat → Nat → Option Nat} {Y : (Nat → Nat) × (Nat → Nat) × Nat} (hS : ym_S (R, Y)) {c : Int} (hf : 0 < I 82 8) : yi_P zi_Ms d 136 [.inr (.inr (some 82)), .inl c] (I, L, R, Y) (fun r => r = (none, (I, L, R, Y), 0, 0)) := by
  refine yi_P_of (M := zi_m136) rfl (fun d k => ?_)
  show yi_D zi_Ms d zi_m136 k (0, [(0, .inr (.inr (some 82))), (1, .inl c)], [], (I, L, R, Y), 0, 0) _
  refine yi_D_run 1 (1, [(0, .inr (.inr (some 82))), (1, .inl c)], [.inr (.inr (some 82))], (I, L, R, Y), 0, 0) (fun _ => rfl) ?_
  refine yi_D_gi (v := I 82 8) rfl rfl rfl rfl (fun _ => ?_)
  have h1 : ¬ ((I 82 8) = 0) := by omega
  refine yi_D_if1 true rfl (yi_ne_t h1) ?_
  refine yi_D_retv rfl ?_
  rfl
theorem q_takeSign_s {d : Nat} {I L : Nat → Nat → Int} {R : Nat → Nat → Option Nat} {Y : (Nat → Nat) × (Nat → Nat) × Nat} (hS : ym_S (R, Y)) {c : Int} (hf : 0 < I 82 8) : yi_P zi_Ms d 118 [.inr (.inr (some 82)), .inl c] (I, L, R, Y) (fun r => r = (none, (I, L, R, Y), 0, 0)) := by
  refine yi_P_of (M := zi_m118) rfl (fun d k => ?_)
  show yi_D zi_Ms d zi_m118 k (0, [(0, .inr (.inr (some 82))), (1, .inl c)], [], (I, L, R, Y), 0, 0) _
  refine yi_D_run 2 (2, [(0, .inr (.inr (some 82))), (1, .inl c)], [.inl c, .inr (.inr (some 82))], (I, L, R, Y), 0, 0) (fun _ => rfl) ?_
  refine yi_D_callv rfl (q_isSign_s hS hf) ?_
  rintro _ rfl
  show yi_D zi_Ms d zi_m118 k (5, [(0, .inr (.inr (some 82))), (1, .inl c)], [.inl 0], (I, L, R, Y), 0, 0) _
  refine yi_D_if1 true rfl (by decide) ?_
  refine yi_D_run 2 (23, [(0, .inr (.inr (some 82))), (1, .inl c)], [.inl 1, .inr (.inr (some 82))], (I, L, R, Y), 0, 0) (fun _ => rfl) ?_
  refine yi_D_callv rfl (q_wrong_s hS hf) ?_
  rintro _ rfl
  show yi_D zi_Ms d zi_m118 k (26, [(0, .inr (.inr (some 82))), (1, .inl c)], [], (I, L, R, Y), 0, 0) _
  refine yi_D_retv rfl ?_
  rfl
def sp_ldz : Nat → Int := fun k => if k = 6 then -1 else 0
theorem sp_ldz_u (v : Int) : sp_up sp_ldz 0 v = sp_up sp_ld0 0 v := by
  funext k
  show (if k = 0 then v else if k = 6 then -1 else 0) = if k = 0 then v else if k = 0 then 1 else if k = 6 then -1 else 0
  by_cases h : k = 0
  · rw [if_pos h, if_pos h]
  · rw [if_neg h, if_neg h, if_neg h]
theorem mt_W_0 {I0 I L : Nat → Nat → Int} {R : Nat → Nat → Option Nat} {Y : (Nat → Nat) × (Nat → Nat) × Nat} {K P V : Nat → Int} {te : Nat} (hS : ym_S (R, Y)) (hT : mt_T I0 L K P V te) (f84 : ∀ k, I 84 k = I0 84 k) (f85 : ∀ k, I 85 k = I0 85 k) (e13 : I 82 13 = 0) (e19 : I 82 19 = 0) (e20 : I 82 20 = 50) (hz : ∀ k, 50 ≤ k → k < 100 → I 88 k = if k = 56 then -1 else 0) : mt_W I L R Y K P V te 50 sp_ldz sp_nm0 := by
  refine ⟨hS, mt_T_t hT f84 f85, ⟨e20, Or.inl ⟨rfl, ⟨by omega, fun k hk => by omega, fun v _ => rfl⟩⟩⟩, fun j hj => ?_, ?_, fun j a b => ?_, by decide, by omega⟩
  · rw [hz _ (by omega) (by omega), if_neg (by omega)]
    exact (if_neg (by omega)).symm
  · intro _
    decide
  · rw [hz _ (by omega) (by omega), if_neg (by omega)]
    exact (if_neg (by omega)).symm
theorem q_stands {d : Nat} {I L : Nat → Nat → Int} {R : Nat → Nat → Option Nat} {Y : (Nat → Nat) × (Nat → Nat) × Nat} (hS : ym_S (R, Y)) : yi_P zi_Ms d 111 [.inr (.inr (some 82)), .inl 50] (I, L, R, Y) (fun r => ∃ I', r = (none, (I', L, R, Y), 0, 0) ∧ (∀ p k, ¬ (p = 88 ∧ 50 ≤ k) → I' p k = I p k) ∧ (∀ k, 50 ≤ k → k < 100 → I' 88 k = if k = 56 then -1 else 0)) := by
  refine yi_P_of (M := zi_m111) rfl (fun d k => ?_)
  show yi_D zi_Ms d zi_m111 k (0, [(0, .inr (.inr (some 82))), (1, .inl 50)], [], (I, L, R, Y), 0, 0) _
  refine yi_D_run 2 (2, [(2, .inl 0), (0, .inr (.inr (some 82))), (1, .inl 50)], [], (I, L, R, Y), 0, 0) (fun _ => rfl) ?_
  have pt2 : ∀ j2, j2 ≤ k → ∀ (y2 : Int) (J1 : Nat → Nat → Int), (0 ≤ y2 ∧ y2 ≤ 50) → (∀ p k, ¬ (p = 88 ∧ 50 ≤ k) → J1 p k = I p k) → (∀ k : Nat, 50 ≤ k → (k : Int) < 50 + y2 → J1 88 k = 0) → yi_D zi_Ms d zi_m111 j2 (2, [(2, .inl y2), (0, .inr (.inr (some 82))), (1, .inl 50)], [], (J1, L, R, Y), 0, 0) (fun r => ∃ I', r = (none, (I', L, R, Y), 0, 0) ∧ (∀ p k, ¬ (p = 88 ∧ 50 ≤ k) → I' p k = I p k) ∧ (∀ k, 50 ≤ k → k < 100 → I' 88 k = if k = 56 then -1 else 0)) := by
    intro j2
    induction j2 with
    | zero => intros; exact yi_D_0
    | succ j2 ih2 =>
    intro hk2 y2 J1 hy hf hz
    refine yi_D_run1 1 (5, [(2, .inl y2), (0, .inr (.inr (some 82))), (1, .inl 50)], [.inl 50, .inl y2], (J1, L, R, Y), 0, 0) (fun _ => rfl) ?_
    by_cases h1 : 50 ≤ y2
    · refine yi_D_if2 true rfl (yi_ge_t h1) ?_
      refine yi_D_run 1 (24, [(2, .inl y2), (0, .inr (.inr (some 82))), (1, .inl 50)], [.inr (.inr (some 82))], (J1, L, R, Y), 0, 0) (fun _ => rfl) ?_
      refine yi_D_gr (v := some 88) rfl rfl rfl (ym_S_at hS (j := 5) rfl).1 (fun _ => ?_)
      refine yi_D_run 2 (30, [(2, .inl y2), (0, .inr (.inr (some 82))), (1, .inl 50)], [.inl 6, .inl 50, .inr (.inr (some 88))], (J1, L, R, Y), 0, 0) (fun _ => rfl) ?_
      refine yi_D_iadd rfl (56) (by decide) ?_
      refine yi_D_run 1 (32, [(2, .inl y2), (0, .inr (.inr (some 82))), (1, .inl 50)], [.inl (-1), .inl 56, .inr (.inr (some 88))], (J1, L, R, Y), 0, 0) (fun _ => rfl) ?_
      refine yi_D_is rfl (fun _ _ => ?_)
      generalize w3 : yi_u J1 88 56 (-1) = I2
      refine yi_D_retv rfl ?_
      refine ⟨_, rfl, fun p k hp => ?_, fun k a b => ?_⟩
      · show yi_u _ 88 56 _ p k = _
        rw [yi_u_ne _ _ (by omega)]
        exact hf p k hp
      · show yi_u _ 88 56 _ 88 k = _
        by_cases e : k = 56
        · subst e
          rw [yi_u_eq]
          rfl
        · rw [yi_u_ne _ _ (by omega), if_neg e]
          exact hz k a (by omega)
    · refine yi_D_if2 false rfl (yi_ge_f h1) ?_
      refine yi_D_run 1 (9, [(2, .inl y2), (0, .inr (.inr (some 82))), (1, .inl 50)], [.inr (.inr (some 82))], (J1, L, R, Y), 0, 0) (fun _ => rfl) ?_
      refine yi_D_gr (v := some 88) rfl rfl rfl (ym_S_at hS (j := 5) rfl).1 (fun _ => ?_)
      refine yi_D_run 2 (14, [(2, .inl y2), (0, .inr (.inr (some 82))), (1, .inl 50)], [.inl y2, .inl 50, .inr (.inr (some 88))], (J1, L, R, Y), 0, 0) (fun _ => rfl) ?_
      refine yi_D_iadd rfl (50 + y2) (yi_wn (by omega) (by omega)) ?_
      refine yi_D_run 1 (16, [(2, .inl y2), (0, .inr (.inr (some 82))), (1, .inl 50)], [.inl 0, .inl (50 + y2), .inr (.inr (some 88))], (J1, L, R, Y), 0, 0) (fun _ => rfl) ?_
      refine yi_D_is rfl (fun _ _ => ?_)
      generalize w5 : yi_u J1 88 ((50 + y2).toNat) 0 = I4
      refine yi_D_iinc [(2, .inl (y2 + 1)), (0, .inr (.inr (some 82))), (1, .inl 50)] rfl rfl rfl (by rw [show yi_w (y2 + 1) = y2 + 1 from (yi_wn (by omega) (by omega)).trans (by omega)]; rfl) ?_
      refine yi_D_run 1 (2, [(2, .inl (y2 + 1)), (0, .inr (.inr (some 82))), (1, .inl 50)], [], (I4, L, R, Y), 0, 0) (fun _ => rfl) ?_
      exact yi_D_mono (ih2 (by omega) (y2 + 1) I4 (by omega) (fun p k hp => by rw [← w5, yi_u_ne _ _ (by omega)]; exact hf p k hp) (fun k a b => by by_cases e : (k : Int) = 50 + y2; rw [← w5, show k = (50 + y2).toNat by omega, yi_u_eq]; rw [← w5, yi_u_ne _ _ (by omega)]; exact hz k a (by omega))) (by omega)
  exact pt2 k (Nat.le_refl _) 0 I (by omega) (fun _ _ _ => rfl) (fun k a b => by omega)
theorem q_land {d : Nat} {I L : Nat → Nat → Int} {R : Nat → Nat → Option Nat} {Y : (Nat → Nat) × (Nat → Nat) × Nat} (hS : ym_S (R, Y)) {s : Nat → Int} {n : Nat} (hn : n ≤ 1000) (h2 : I 82 2 = (n : Int)) (ht : ∀ i, i < n → I 83 i = s i) (hW : ∀ w : Nat, w < 32 → L 87 w = sp_W37.getD w 0) : yi_P zi_Ms d 72 [.inr (.inr (some 82))] (I, L, R, Y) (fun r => ∃ f H n' m', r = (some (.inl f), H, n', m') ∧ sp_R (tk_Ks s n) (tk_Ps s n) (tk_Vs s n) (0, 0, 0, [], sp_ld0, sp_nm0, []) (.inr f)) := by
  refine yi_P_of (M := zi_m72) rfl (fun d k => ?_)
  show yi_D zi_Ms d zi_m72 k (0, [(0, .inr (.inr (some 82)))], [], (I, L, R, Y), 0, 0) _
  refine yi_D_run 2 (2, [(0, .inr (.inr (some 82)))], [.inl 0, .inr (.inr (some 82))], (I, L, R, Y), 0, 0) (fun _ => rfl) ?_
  refine yi_D_pi rfl (fun _ => ?_)
  generalize w2 : yi_u I 82 0 0 = I1
  refine yi_D_run 1 (6, [(0, .inr (.inr (some 82)))], [.inr (.inr (some 82))], (I1, L, R, Y), 0, 0) (fun _ => rfl) ?_
  refine yi_D_callv rfl (q_cutAll (s := s) hS hn (by rw [← w2, yi_u_ne _ _ (by omega)]; exact h2) (fun i hi => by rw [← w2, yi_u_ne _ _ (by omega)]; exact ht i hi) hW) ?_
  rintro _ ⟨I3, L4, rfl, hT5, h6, h7, h8, fI9, fL10⟩
  generalize tk_Ks s n = K at hT5 ⊢
  generalize tk_Ps s n = P at hT5 ⊢
  generalize tk_Vs s n = V at hT5 ⊢
  generalize tk_te s n = te at hT5
  show yi_D zi_Ms d zi_m72 k (9, [(0, .inr (.inr (some 82)))], [], (I3, L4, R, Y), 0, 0) _
  refine yi_D_run 2 (11, [(0, .inr (.inr (some 82)))], [.inl 0, .inr (.inr (some 82))], (I3, L4, R, Y), 0, 0) (fun _ => rfl) ?_
  refine yi_D_pi rfl (fun _ => ?_)
  generalize w12 : yi_u I3 82 13 0 = I11
  refine yi_D_run 2 (16, [(0, .inr (.inr (some 82)))], [.inl 0, .inr (.inr (some 82))], (I11, L4, R, Y), 0, 0) (fun _ => rfl) ?_
  refine yi_D_pi rfl (fun _ => ?_)
  generalize w14 : yi_u I11 82 19 0 = I13
  refine yi_D_run 2 (22, [(0, .inr (.inr (some 82)))], [.inl 50, .inr (.inr (some 82))], (I13, L4, R, Y), 0, 0) (fun _ => rfl) ?_
  refine yi_D_pi rfl (fun _ => ?_)
  generalize w16 : yi_u I13 82 20 50 = I15
  refine yi_D_run 2 (28, [(0, .inr (.inr (some 82)))], [.inl 50, .inr (.inr (some 82))], (I15, L4, R, Y), 0, 0) (fun _ => rfl) ?_
  refine yi_D_callv rfl (q_stands hS) ?_
  rintro _ ⟨I17, rfl, fs18, hz19⟩
  have hW20 := mt_W_0 (I := I17) hS hT5 (fun k => by rw [fs18 84 k (by omega), ← w16, yi_u_ne _ _ (by omega), ← w14, yi_u_ne _ _ (by omega), ← w12, yi_u_ne _ _ (by omega)]) (fun k => by rw [fs18 85 k (by omega), ← w16, yi_u_ne _ _ (by omega), ← w14, yi_u_ne _ _ (by omega), ← w12, yi_u_ne _ _ (by omega)]) (by rw [fs18 82 13 (by omega), ← w16, yi_u_ne _ _ (by omega), ← w14, yi_u_ne _ _ (by omega), ← w12, yi_u_eq]) (by rw [fs18 82 19 (by omega), ← w16, yi_u_ne _ _ (by omega), ← w14, yi_u_eq]) (by rw [fs18 82 20 (by omega), ← w16, yi_u_eq]) hz19
  have hf21 : I17 82 8 = 0 := by rw [fs18 82 8 (by omega), ← w16, yi_u_ne _ _ (by omega), ← w14, yi_u_ne _ _ (by omega), ← w12, yi_u_ne _ _ (by omega), h7]
  have hA22 : mt_A I17 te 0 := ⟨by rw [fs18 82 7 (by omega), ← w16, yi_u_ne _ _ (by omega), ← w14, yi_u_ne _ _ (by omega), ← w12, yi_u_ne _ _ (by omega), h6]; rfl, Nat.zero_le _⟩
  have hte := hW20.2.1.1
  show yi_D zi_Ms d zi_m72 k (31, [(0, .inr (.inr (some 82)))], [], (I17, L4, R, Y), 0, 0) _
  refine yi_D_run 2 (33, [(0, .inr (.inr (some 82)))], [.inl 0, .inr (.inr (some 82))], (I17, L4, R, Y), 0, 0) (fun _ => rfl) ?_
  refine yi_D_callv rfl (q_takeWord_z (by omega) (by omega) hW20 hf21 hA22) ?_
  rintro _ (⟨c23, I24, rfl, hGa25, hf26, hA27⟩ | ⟨c28, I29, rfl, hGa30, he31⟩)
  · have hA27 : mt_A I24 te (0 + 1) := hA27
    have hW32 := mt_W_t hW20 (mt_G_F hGa25)
    show yi_D zi_Ms d zi_m72 k (36, [(0, .inr (.inr (some 82)))], [], (I24, L4, R, Y), 0, 0) _
    refine yi_D_run 1 (37, [(0, .inr (.inr (some 82)))], [.inr (.inr (some 82))], (I24, L4, R, Y), 0, 0) (fun _ => rfl) ?_
    refine yi_D_gr (v := some 88) rfl rfl rfl (ym_S_at hS (j := 5) rfl).1 (fun _ => ?_)
    refine yi_D_run 4 (46, [(0, .inr (.inr (some 82)))], [.inl 6, .inl 1, .inr (.inr (some 82)), .inl 50, .inr (.inr (some 88))], (I24, L4, R, Y), 0, 0) (fun _ => rfl) ?_
    refine yi_D_callv rfl (q_takeNumber_z (lo := 1) (hi := 6) hW32 hf26 hA27) ?_
    rintro _ (⟨c33, c34, I35, rfl, hGa36, hf37, hA38⟩ | ⟨c39, z43, I40, rfl, hGa41, he42⟩ | ⟨c44, z48, I45, rfl, hGa46, he47⟩)
    · have hA38 : mt_A I35 te (0 + 2) := hA38
      have hW49 := mt_W_t hW32 (mt_G_F hGa36)
      show yi_D zi_Ms d zi_m72 k (49, [(0, .inr (.inr (some 82)))], [.inl (V (0 + 1)), .inl 50, .inr (.inr (some 88))], (I35, L4, R, Y), 0, 0) _
      refine yi_D_is rfl (fun _ _ => ?_)
      show yi_D zi_Ms d zi_m72 k (50, [(0, .inr (.inr (some 82)))], [], ((yi_u I35 88 50 (V (0 + 1))), L4, R, Y), 0, 0) _
      generalize w51 : yi_u I35 88 50 (V (0 + 1)) = I50
      have hW53 := mt_W_w (i := 0) (I' := I50) (V (0 + 1)) hW49 (fun _ => by rw [← w51]; exact yi_u_eq ..) (fun p k hp => by rw [← w51, yi_u_ne _ _ (by omega)]) (by rw [sp_up_e]; (repeat rw [sp_up_n _ _ (by omega)]); have hb := hW49.2.2.2.2.2.2.1; omega)
      rw [sp_ldz_u] at hW53
      have hf52 : I50 82 8 = 0 := by rw [← w51, yi_u_ne _ _ (by omega)]; exact hf37
      have hA54 : mt_A I50 te (0 + 2) := ⟨by rw [← w51, yi_u_ne _ _ (by omega)]; exact hA38.1, hA38.2⟩
      refine yi_D_run 2 (53, [(0, .inr (.inr (some 82)))], [.inl 59, .inr (.inr (some 82))], (I50, L4, R, Y), 0, 0) (fun _ => rfl) ?_
      refine yi_D_callv rfl (q_takeSign_z (by omega) hW53 hf52 hA54) ?_
      rintro _ (⟨c55, I56, rfl, hGa57, hf58, hA59⟩ | ⟨c60, I61, rfl, hGa62, he63⟩)
      · have hA59 : mt_A I56 te (0 + 3) := hA59
        have hW64 := mt_W_t hW53 (mt_G_F hGa57)
        have hR65 : sp_R K P V (0, 0, 0, [], sp_ld0, sp_nm0, []) (.inl (2, 0 + 2 + 1, 0, [], sp_up sp_ld0 0 (V (0 + 1)), sp_nm0, [])) := sp_R_s (sp_R_1 (by
          show sp_s0 K P V 0 sp_ld0 sp_nm0 [] = .inl (1, 0 + 2, 0, [], sp_up sp_ld0 0 (V (0 + 1)), sp_nm0, [])
          unfold sp_s0
          (repeat (first | rw [if_pos (by omega)] | rw [if_neg (by omega)])))) (by
          show (if K (0 + 2) = 59 then _ else _) = _
          rw [if_pos (by omega)])
        show yi_D zi_Ms d zi_m72 k (56, [(0, .inr (.inr (some 82)))], [], (I56, L4, R, Y), 0, 0) _
        have pt56 : ∀ j56, j56 ≤ k → ∀ (J1 : Nat → Nat → Int) (G1 : Nat → Nat → Int) (a1 : Nat) (ld1 : Nat → Int) (nm1 : Int → Int) (cs1 : List (Int × Int)), (mt_W J1 G1 R Y K P V te 50 ld1 nm1) → (J1 82 8 = 0) → (mt_A J1 te a1) → (sp_R K P V (0, 0, 0, [], sp_ld0, sp_nm0, []) (.inl (2, a1, 0, [], ld1, nm1, cs1))) → (1 ≤ ld1 0) → (ld1 6 < 0 → J1 88 56 < 0) → yi_D zi_Ms d zi_m72 j56 (56, [(0, .inr (.inr (some 82)))], [], (J1, G1, R, Y), 0, 0) (fun r => ∃ f H n' m', r = (some (.inl f), H, n', m') ∧ sp_R K P V (0, 0, 0, [], sp_ld0, sp_nm0, []) (.inr f)) := by
          intro j56
          induction j56 with
          | zero => intros; exact yi_D_0
          | succ j56 ih56 =>
          intro hk56 J1 G1 a1 ld1 nm1 cs1 hW9 hf9 hA9 hR9 hd9 h69
          have hle9 := hA9.2
          have hte9 := hW9.2.1.1
          have hend9 : J1 84 ((a1 : Int).toNat) = 0 ↔ K a1 = 0 := mt_end hW9.2.1 hA9.2
          refine yi_D_run1 0 (57, [(0, .inr (.inr (some 82)))], [.inr (.inr (some 82))], (J1, G1, R, Y), 0, 0) (fun _ => rfl) ?_
          refine yi_D_gi (v := 0) rfl rfl rfl hf9 (fun _ => ?_)
          refine yi_D_if1 false rfl (by decide) ?_
          refine yi_D_run 1 (64, [(0, .inr (.inr (some 82)))], [.inr (.inr (some 82))], (J1, G1, R, Y), 0, 0) (fun _ => rfl) ?_
          refine yi_D_gr (v := some 84) rfl rfl rfl (ym_S_at hS (j := 1) rfl).1 (fun _ => ?_)
          refine yi_D_run 1 (68, [(0, .inr (.inr (some 82)))], [.inr (.inr (some 82)), .inr (.inr (some 84))], (J1, G1, R, Y), 0, 0) (fun _ => rfl) ?_
          refine yi_D_gi (v := (a1 : Int)) rfl rfl rfl hA9.1 (fun _ => ?_)
          refine yi_D_il (v := J1 84 ((a1 : Int).toNat)) rfl rfl rfl (fun _ _ => ?_)
          by_cases h66 : (J1 84 ((a1 : Int).toNat)) = 0
          · refine yi_D_if1 true rfl (yi_eq_t h66) ?_
            refine yi_D_run 1 (89, [(0, .inr (.inr (some 82)))], [.inr (.inr (some 82))], (J1, G1, R, Y), 0, 0) (fun _ => rfl) ?_
            refine yi_D_gi (v := 0) rfl rfl rfl hf9 (fun _ => ?_)
            refine yi_D_if1 true rfl (by decide) ?_
            have hc9 : J1 82 13 ≤ 1100 := hW9.2.2.2.2.2.2.2.2
            have hm9 : J1 82 19 ≤ 13 := by rcases hW9.2.2.1.2 with z | z; exact z.2.1.2; exact absurd z.1 (by decide)
            refine yi_D_run 2 (102, [(1, .inl 0), (0, .inr (.inr (some 82)))], [], (J1, G1, R, Y), 0, 0) (fun _ => rfl) ?_
            have pt102 : ∀ j102, j102 ≤ j56 → ∀ (z1 : Int) (J2 : Nat → Nat → Int), (0 ≤ z1 ∧ z1 ≤ 50) → (J2 82 13 ≤ 1100) → (J2 82 19 ≤ 13) → yi_D zi_Ms d zi_m72 j102 (102, [(1, .inl z1), (0, .inr (.inr (some 82)))], [], (J2, G1, R, Y), 0, 0) (fun r => ∃ f H n' m', r = (some (.inl f), H, n', m') ∧ sp_R K P V (0, 0, 0, [], sp_ld0, sp_nm0, []) (.inr f)) := by
              intro j102
              induction j102 with
              | zero => intros; exact yi_D_0
              | succ j102 ih102 =>
              intro hk102 z1 J2 hz hc2 hm2
              refine yi_D_run1 1 (105, [(1, .inl z1), (0, .inr (.inr (some 82)))], [.inl 50, .inl z1], (J2, G1, R, Y), 0, 0) (fun _ => rfl) ?_
              by_cases h67 : 50 ≤ z1
              · refine yi_D_if2 true rfl (yi_ge_t h67) ?_
                refine yi_D_run 2 (131, [(1, .inl 0), (0, .inr (.inr (some 82)))], [], (J2, G1, R, Y), 0, 0) (fun _ => rfl) ?_
                have pt131 : ∀ j131, j131 ≤ j102 → ∀ (u1 : Int) (J3 : Nat → Nat → Int), (0 ≤ u1 ∧ u1 ≤ 1100) → (J3 82 13 ≤ 1100) → (J3 82 19 ≤ 13) → yi_D zi_Ms d zi_m72 j131 (131, [(1, .inl u1), (0, .inr (.inr (some 82)))], [], (J3, G1, R, Y), 0, 0) (fun r => ∃ f H n' m', r = (some (.inl f), H, n', m') ∧ sp_R K P V (0, 0, 0, [], sp_ld0, sp_nm0, []) (.inr f)) := by
                  intro j131
                  induction j131 with
                  | zero => intros; exact yi_D_0
                  | succ j131 ih131 =>
                  intro hk131 u1 J3 hu hc3 hm3
                  refine yi_D_run1 1 (133, [(1, .inl u1), (0, .inr (.inr (some 82)))], [.inr (.inr (some 82)), .inl u1], (J3, G1, R, Y), 0, 0) (fun _ => rfl) ?_
                  refine yi_D_gi (v := J3 82 13) rfl rfl rfl rfl (fun _ => ?_)
                  by_cases h68 : (J3 82 13) ≤ u1
                  · refine yi_D_if2 true rfl (yi_ge_t h68) ?_
                    refine yi_D_run 2 (179, [(1, .inl 0), (0, .inr (.inr (some 82)))], [], (J3, G1, R, Y), 0, 0) (fun _ => rfl) ?_
                    have pt179 : ∀ j179, j179 ≤ j131 → ∀ (v1 : Int) (J4 : Nat → Nat → Int) (G4 : Nat → Nat → Int), (0 ≤ v1 ∧ v1 ≤ 13) → (J4 82 19 ≤ 13) → yi_D zi_Ms d zi_m72 j179 (179, [(1, .inl v1), (0, .inr (.inr (some 82)))], [], (J4, G4, R, Y), 0, 0) (fun r => ∃ f H n' m', r = (some (.inl f), H, n', m') ∧ sp_R K P V (0, 0, 0, [], sp_ld0, sp_nm0, []) (.inr f)) := by
                      intro j179
                      induction j179 with
                      | zero => intros; exact yi_D_0
                      | succ j179 ih179 =>
                      intro hk179 v1 J4 G4 hv hm4
                      refine yi_D_run1 1 (181, [(1, .inl v1), (0, .inr (.inr (some 82)))], [.inr (.inr (some 82)), .inl v1], (J4, G4, R, Y), 0, 0) (fun _ => rfl) ?_
                      refine yi_D_gi (v := J4 82 19) rfl rfl rfl rfl (fun _ => ?_)
                      by_cases h69 : (J4 82 19) ≤ v1
                      · refine yi_D_if2 true rfl (yi_ge_t h69) ?_
                        refine yi_D_run 2 (219, [(1, .inl v1), (0, .inr (.inr (some 82)))], [.inr (.inr (some 82)), .inr (.inr (some 82))], (J4, G4, R, Y), 0, 0) (fun _ => rfl) ?_
                        refine yi_D_gi (v := J4 82 19) rfl rfl rfl rfl (fun _ => ?_)
                        refine yi_D_pi rfl (fun _ => ?_)
                        generalize w71 : yi_u J4 82 18 (J4 82 19) = I70
                        refine yi_D_run 1 (226, [(1, .inl v1), (0, .inr (.inr (some 82)))], [.inr (.inr (some 82))], (I70, G4, R, Y), 0, 0) (fun _ => rfl) ?_
                        refine yi_D_callv rfl (yi_P_void (M := zi_m4) rfl rfl) ?_
                        rintro _ ⟨I72, L73, R74, Y75, n76, m77, rfl⟩
                        show yi_D zi_Ms d zi_m72 j179 (229, [(1, .inl v1), (0, .inr (.inr (some 82)))], [], (I72, L73, R74, Y75), (0 + n76), (0 + m77)) _
                        refine yi_D_run 1 (230, [(1, .inl v1), (0, .inr (.inr (some 82)))], [.inl 0], (I72, L73, R74, Y75), (0 + n76), (0 + m77)) (fun _ => rfl) ?_
                        refine yi_D_reti rfl ?_
                        exact ⟨_, _, _, _, rfl, sp_R_s hR9 (by
                          show sp_line K P V _ _ _ _ = _
                          unfold sp_line
                          rw [if_pos (by omega)])⟩
                      · refine yi_D_if2 false rfl (yi_ge_f h69) ?_
                        refine yi_D_run 1 (188, [(1, .inl v1), (0, .inr (.inr (some 82)))], [.inr (.inr (some 82))], (J4, G4, R, Y), 0, 0) (fun _ => rfl) ?_
                        refine yi_D_gr (v := some 91) rfl rfl rfl (ym_S_at hS (j := 8) rfl).1 (fun _ => ?_)
                        refine yi_D_run 2 (193, [(1, .inl v1), (0, .inr (.inr (some 82)))], [.inr (.inr (some 82)), .inl v1, .inr (.inr (some 91))], (J4, G4, R, Y), 0, 0) (fun _ => rfl) ?_
                        refine yi_D_gr (v := some 92) rfl rfl rfl (ym_S_at hS (j := 9) rfl).1 (fun _ => ?_)
                        refine yi_D_run 1 (197, [(1, .inl v1), (0, .inr (.inr (some 82)))], [.inl v1, .inr (.inr (some 92)), .inl v1, .inr (.inr (some 91))], (J4, G4, R, Y), 0, 0) (fun _ => rfl) ?_
                        refine yi_D_ll (v := G4 92 (v1.toNat)) rfl rfl rfl (fun _ _ => ?_)
                        refine yi_D_ls rfl (fun _ _ => ?_)
                        generalize w79 : yi_u G4 91 (v1.toNat) (G4 92 (v1.toNat)) = L78
                        refine yi_D_run 1 (200, [(1, .inl v1), (0, .inr (.inr (some 82)))], [.inr (.inr (some 82))], (J4, L78, R, Y), 0, 0) (fun _ => rfl) ?_
                        refine yi_D_gr (v := some 93) rfl rfl rfl (ym_S_at hS (j := 10) rfl).1 (fun _ => ?_)
                        refine yi_D_run 2 (205, [(1, .inl v1), (0, .inr (.inr (some 82)))], [.inr (.inr (some 82)), .inl v1, .inr (.inr (some 93))], (J4, L78, R, Y), 0, 0) (fun _ => rfl) ?_
                        refine yi_D_gr (v := some 94) rfl rfl rfl (ym_S_at hS (j := 11) rfl).1 (fun _ => ?_)
                        refine yi_D_run 1 (209, [(1, .inl v1), (0, .inr (.inr (some 82)))], [.inl v1, .inr (.inr (some 94)), .inl v1, .inr (.inr (some 93))], (J4, L78, R, Y), 0, 0) (fun _ => rfl) ?_
                        refine yi_D_il (v := J4 94 (v1.toNat)) rfl rfl rfl (fun _ _ => ?_)
                        refine yi_D_is rfl (fun _ _ => ?_)
                        generalize w81 : yi_u J4 93 (v1.toNat) (J4 94 (v1.toNat)) = I80
                        refine yi_D_iinc [(1, .inl (v1 + 1)), (0, .inr (.inr (some 82)))] rfl rfl rfl (by rw [show yi_w (v1 + 1) = v1 + 1 from (yi_wn (by omega) (by omega)).trans (by omega)]; rfl) ?_
                        refine yi_D_run 1 (179, [(1, .inl (v1 + 1)), (0, .inr (.inr (some 82)))], [], (I80, L78, R, Y), 0, 0) (fun _ => rfl) ?_
                        exact yi_D_mono (ih179 (by omega) (v1 + 1) I80 L78 (by omega) (by rw [← w81, yi_u_ne _ _ (by omega)]; exact hm4)) (by omega)
                    exact pt179 j131 (Nat.le_refl _) 0 J3 G1 (by omega) hm3
                  · refine yi_D_if2 false rfl (yi_ge_f h68) ?_
                    refine yi_D_run 1 (140, [(1, .inl u1), (0, .inr (.inr (some 82)))], [.inr (.inr (some 82))], (J3, G1, R, Y), 0, 0) (fun _ => rfl) ?_
                    refine yi_D_gr (v := some 89) rfl rfl rfl (ym_S_at hS (j := 6) rfl).1 (fun _ => ?_)
                    refine yi_D_run 2 (145, [(1, .inl u1), (0, .inr (.inr (some 82)))], [.inr (.inr (some 82)), .inl u1, .inr (.inr (some 89))], (J3, G1, R, Y), 0, 0) (fun _ => rfl) ?_
                    refine yi_D_gr (v := some 89) rfl rfl rfl (ym_S_at hS (j := 6) rfl).1 (fun _ => ?_)
                    refine yi_D_run 2 (152, [(1, .inl u1), (0, .inr (.inr (some 82)))], [.inl u1, .inl 1100, .inr (.inr (some 89)), .inl u1, .inr (.inr (some 89))], (J3, G1, R, Y), 0, 0) (fun _ => rfl) ?_
                    refine yi_D_iadd rfl (1100 + u1) (yi_wn (by omega) (by omega)) ?_
                    refine yi_D_il (v := J3 89 ((1100 + u1).toNat)) rfl rfl rfl (fun _ _ => ?_)
                    refine yi_D_is rfl (fun _ _ => ?_)
                    generalize w83 : yi_u J3 89 (u1.toNat) (J3 89 ((1100 + u1).toNat)) = I82
                    refine yi_D_run 1 (156, [(1, .inl u1), (0, .inr (.inr (some 82)))], [.inr (.inr (some 82))], (I82, G1, R, Y), 0, 0) (fun _ => rfl) ?_
                    refine yi_D_gr (v := some 90) rfl rfl rfl (ym_S_at hS (j := 7) rfl).1 (fun _ => ?_)
                    refine yi_D_run 2 (161, [(1, .inl u1), (0, .inr (.inr (some 82)))], [.inr (.inr (some 82)), .inl u1, .inr (.inr (some 90))], (I82, G1, R, Y), 0, 0) (fun _ => rfl) ?_
                    refine yi_D_gr (v := some 90) rfl rfl rfl (ym_S_at hS (j := 7) rfl).1 (fun _ => ?_)
                    refine yi_D_run 2 (168, [(1, .inl u1), (0, .inr (.inr (some 82)))], [.inl u1, .inl 1100, .inr (.inr (some 90)), .inl u1, .inr (.inr (some 90))], (I82, G1, R, Y), 0, 0) (fun _ => rfl) ?_
                    refine yi_D_iadd rfl (1100 + u1) (yi_wn (by omega) (by omega)) ?_
                    have r84 : I82 90 ((1100 + u1).toNat) = J3 90 ((1100 + u1).toNat) := by rw [← w83, yi_u_ne _ _ (by omega)]
                    refine yi_D_il (v := J3 90 ((1100 + u1).toNat)) rfl rfl r84 (fun _ _ => ?_)
                    refine yi_D_is rfl (fun _ _ => ?_)
                    generalize w86 : yi_u I82 90 (u1.toNat) (J3 90 ((1100 + u1).toNat)) = I85
                    refine yi_D_iinc [(1, .inl (u1 + 1)), (0, .inr (.inr (some 82)))] rfl rfl rfl (by rw [show yi_w (u1 + 1) = u1 + 1 from (yi_wn (by omega) (by omega)).trans (by omega)]; rfl) ?_
                    refine yi_D_run 1 (131, [(1, .inl (u1 + 1)), (0, .inr (.inr (some 82)))], [], (I85, G1, R, Y), 0, 0) (fun _ => rfl) ?_
                    exact yi_D_mono (ih131 (by omega) (u1 + 1) I85 (by omega) (by rw [← w86, yi_u_ne _ _ (by omega), ← w83, yi_u_ne _ _ (by omega)]; exact hc3) (by rw [← w86, yi_u_ne _ _ (by omega), ← w83, yi_u_ne _ _ (by omega)]; exact hm3)) (by omega)
                exact pt131 j102 (Nat.le_refl _) 0 J2 (by omega) hc2 hm2
              · refine yi_D_if2 false rfl (yi_ge_f h67) ?_
                refine yi_D_run 1 (109, [(1, .inl z1), (0, .inr (.inr (some 82)))], [.inr (.inr (some 82))], (J2, G1, R, Y), 0, 0) (fun _ => rfl) ?_
                refine yi_D_gr (v := some 88) rfl rfl rfl (ym_S_at hS (j := 5) rfl).1 (fun _ => ?_)
                refine yi_D_run 2 (114, [(1, .inl z1), (0, .inr (.inr (some 82)))], [.inr (.inr (some 82)), .inl z1, .inr (.inr (some 88))], (J2, G1, R, Y), 0, 0) (fun _ => rfl) ?_
                refine yi_D_gr (v := some 88) rfl rfl rfl (ym_S_at hS (j := 5) rfl).1 (fun _ => ?_)
                refine yi_D_run 2 (120, [(1, .inl z1), (0, .inr (.inr (some 82)))], [.inl z1, .inl 50, .inr (.inr (some 88)), .inl z1, .inr (.inr (some 88))], (J2, G1, R, Y), 0, 0) (fun _ => rfl) ?_
                refine yi_D_iadd rfl (50 + z1) (yi_wn (by omega) (by omega)) ?_
                refine yi_D_il (v := J2 88 ((50 + z1).toNat)) rfl rfl rfl (fun _ _ => ?_)
                refine yi_D_is rfl (fun _ _ => ?_)
                generalize w88 : yi_u J2 88 (z1.toNat) (J2 88 ((50 + z1).toNat)) = I87
                refine yi_D_iinc [(1, .inl (z1 + 1)), (0, .inr (.inr (some 82)))] rfl rfl rfl (by rw [show yi_w (z1 + 1) = z1 + 1 from (yi_wn (by omega) (by omega)).trans (by omega)]; rfl) ?_
                refine yi_D_run 1 (102, [(1, .inl (z1 + 1)), (0, .inr (.inr (some 82)))], [], (I87, G1, R, Y), 0, 0) (fun _ => rfl) ?_
                exact yi_D_mono (ih102 (by omega) (z1 + 1) I87 (by omega) (by rw [← w88, yi_u_ne _ _ (by omega)]; exact hc2) (by rw [← w88, yi_u_ne _ _ (by omega)]; exact hm2)) (by omega)
            exact pt102 j56 (Nat.le_refl _) 0 J1 (by omega) hc9 hm9
          · refine yi_D_if1 false rfl (yi_eq_f h66) ?_
            refine yi_D_run 1 (76, [(0, .inr (.inr (some 82)))], [.inr (.inr (some 82))], (J1, G1, R, Y), 0, 0) (fun _ => rfl) ?_
            refine yi_D_callv rfl (q_readLine hW9 hf9 hA9 cs1 hd9 h69 (by omega)) ?_
            rintro _ ⟨I89, L90, rfl, (⟨a91, ld92, nm93, cs94, hR95, lt96, hf97, hA98, hW99, hd100, hl101⟩ | ⟨f102, hR103, hz104, he105⟩)⟩
            · have hR106 := sp_R_t hR9 hR95
              show yi_D zi_Ms d zi_m72 j56 (79, [(0, .inr (.inr (some 82)))], [], (I89, L90, R, Y), 0, 0) _
              refine yi_D_run 2 (82, [(0, .inr (.inr (some 82)))], [.inl 59, .inr (.inr (some 82))], (I89, L90, R, Y), 0, 0) (fun _ => rfl) ?_
              refine yi_D_callv rfl (q_takeSign_z (by omega) hW99 hf97 hA98) ?_
              rintro _ (⟨c107, I108, rfl, hGa109, hf110, hA111⟩ | ⟨c112, I113, rfl, hGa114, he115⟩)
              · have hA111 : mt_A I108 te (a91 + 1) := hA111
                have hW116 := mt_W_t hW99 (mt_G_F hGa109)
                have hR117 := sp_R_s hR106 (show sp_step K P V (1, a91, 0, [], ld92, nm93, cs94) = .inl (2, a91 + 1, 0, [], ld92, nm93, cs94) by
                  show (if K a91 = 59 then _ else _) = _
                  rw [if_pos (by omega)])
                show yi_D zi_Ms d zi_m72 j56 (85, [(0, .inr (.inr (some 82)))], [], (I108, L90, R, Y), 0, 0) _
                refine yi_D_run 1 (56, [(0, .inr (.inr (some 82)))], [], (I108, L90, R, Y), 0, 0) (fun _ => rfl) ?_
                exact yi_D_mono (ih56 (by omega) I108 L90 (a91 + 1) ld92 nm93 cs94 hW116 hf110 hA111 hR117 hd100 (fun x => by rw [hGa109 88 56 (by omega)]; exact hl101 x)) (by omega)
              · have hW118 := mt_W_t hW99 (mt_G_F hGa114)
                have hz119 : 0 < sp_f P a91 1 := mt_f_ne hW99 hA98.2 (by omega)
                have hn120 : 0 < I113 82 8 := by rw [he115]; exact hz119
                have hx121 : sp_R K P V (0, 0, 0, [], sp_ld0, sp_nm0, []) (.inr (sp_f P a91 1)) := sp_R_s hR106 (by
                  show (if K a91 = 59 then _ else _) = _
                  rw [if_neg (by omega)])
                show yi_D zi_Ms d zi_m72 j56 (85, [(0, .inr (.inr (some 82)))], [], (I113, L90, R, Y), 0, 0) _
                refine yi_D_run 1 (56, [(0, .inr (.inr (some 82)))], [], (I113, L90, R, Y), 0, 0) (fun _ => rfl) ?_
                refine yi_D_run 1 (57, [(0, .inr (.inr (some 82)))], [.inr (.inr (some 82))], (I113, L90, R, Y), 0, 0) (fun _ => rfl) ?_
                refine yi_D_gi (v := I113 82 8) rfl rfl rfl rfl (fun _ => ?_)
                have h122 : ¬ ((I113 82 8) = 0) := by omega
                refine yi_D_if1 true rfl (yi_ne_t h122) ?_
                refine yi_D_run 1 (89, [(0, .inr (.inr (some 82)))], [.inr (.inr (some 82))], (I113, L90, R, Y), 0, 0) (fun _ => rfl) ?_
                refine yi_D_gi (v := I113 82 8) rfl rfl rfl rfl (fun _ => ?_)
                have h123 : ¬ ((I113 82 8) ≤ 0) := by omega
                refine yi_D_if1 false rfl (yi_le_f h123) ?_
                refine yi_D_run 1 (96, [(0, .inr (.inr (some 82)))], [.inr (.inr (some 82))], (I113, L90, R, Y), 0, 0) (fun _ => rfl) ?_
                refine yi_D_gi (v := I113 82 8) rfl rfl rfl rfl (fun _ => ?_)
                refine yi_D_reti rfl ?_
                exact ⟨_, _, _, _, rfl, by first | (rw [he115]; exact hx121) | (rw [he115]; exact hx121)⟩
            · have hx124 := sp_R_t hR9 hR103
              have hn125 : 0 < I89 82 8 := by rw [he105]; exact hz104
              show yi_D zi_Ms d zi_m72 j56 (79, [(0, .inr (.inr (some 82)))], [], (I89, L90, R, Y), 0, 0) _
              refine yi_D_run 2 (82, [(0, .inr (.inr (some 82)))], [.inl 59, .inr (.inr (some 82))], (I89, L90, R, Y), 0, 0) (fun _ => rfl) ?_
              refine yi_D_callv rfl (q_takeSign_s hS hn125) ?_
              rintro _ rfl
              show yi_D zi_Ms d zi_m72 j56 (85, [(0, .inr (.inr (some 82)))], [], (I89, L90, R, Y), 0, 0) _
              refine yi_D_run 1 (56, [(0, .inr (.inr (some 82)))], [], (I89, L90, R, Y), 0, 0) (fun _ => rfl) ?_
              refine yi_D_run 1 (57, [(0, .inr (.inr (some 82)))], [.inr (.inr (some 82))], (I89, L90, R, Y), 0, 0) (fun _ => rfl) ?_
              refine yi_D_gi (v := I89 82 8) rfl rfl rfl rfl (fun _ => ?_)
              have h126 : ¬ ((I89 82 8) = 0) := by omega
              refine yi_D_if1 true rfl (yi_ne_t h126) ?_
              refine yi_D_run 1 (89, [(0, .inr (.inr (some 82)))], [.inr (.inr (some 82))], (I89, L90, R, Y), 0, 0) (fun _ => rfl) ?_
              refine yi_D_gi (v := I89 82 8) rfl rfl rfl rfl (fun _ => ?_)
              have h127 : ¬ ((I89 82 8) ≤ 0) := by omega
              refine yi_D_if1 false rfl (yi_le_f h127) ?_
              refine yi_D_run 1 (96, [(0, .inr (.inr (some 82)))], [.inr (.inr (some 82))], (I89, L90, R, Y), 0, 0) (fun _ => rfl) ?_
              refine yi_D_gi (v := I89 82 8) rfl rfl rfl rfl (fun _ => ?_)
              refine yi_D_reti rfl ?_
              exact ⟨_, _, _, _, rfl, by first | (rw [he105]; exact hx124) | (rw [he105]; exact hx124)⟩
        exact pt56 k (Nat.le_refl _) I56 L4 (0 + 3) (sp_up sp_ld0 0 (V (0 + 1))) sp_nm0 ([]) hW64 hf58 hA59 hR65 (by rw [sp_up_e]; omega) (fun _ => by rw [hGa57 88 56 (by omega), ← w51, yi_u_ne _ _ (by omega), hGa36 88 56 (by omega), hGa25 88 56 (by omega), hz19 56 (by omega) (by omega), if_pos rfl]; decide)
      · have hW128 := mt_W_t hW53 (mt_G_F hGa62)
        have hz129 : 0 < sp_f P (0 + 2) 1 := mt_f_ne hW53 hA54.2 (by omega)
        have hn130 : 0 < I61 82 8 := by rw [he63]; exact hz129
        have hx131 : sp_R K P V (0, 0, 0, [], sp_ld0, sp_nm0, []) (.inr (sp_f P (0 + 2) 1)) := sp_R_s (sp_R_1 (by
          show sp_s0 K P V 0 sp_ld0 sp_nm0 [] = .inl (1, 0 + 2, 0, [], sp_up sp_ld0 0 (V (0 + 1)), sp_nm0, [])
          unfold sp_s0
          (repeat (first | rw [if_pos (by omega)] | rw [if_neg (by omega)])))) (by
          show (if K (0 + 2) = 59 then _ else _) = _
          rw [if_neg (by omega)])
        show yi_D zi_Ms d zi_m72 k (56, [(0, .inr (.inr (some 82)))], [], (I61, L4, R, Y), 0, 0) _
        refine yi_D_run 1 (57, [(0, .inr (.inr (some 82)))], [.inr (.inr (some 82))], (I61, L4, R, Y), 0, 0) (fun _ => rfl) ?_
        refine yi_D_gi (v := I61 82 8) rfl rfl rfl rfl (fun _ => ?_)
        have h132 : ¬ ((I61 82 8) = 0) := by omega
        refine yi_D_if1 true rfl (yi_ne_t h132) ?_
        refine yi_D_run 1 (89, [(0, .inr (.inr (some 82)))], [.inr (.inr (some 82))], (I61, L4, R, Y), 0, 0) (fun _ => rfl) ?_
        refine yi_D_gi (v := I61 82 8) rfl rfl rfl rfl (fun _ => ?_)
        have h133 : ¬ ((I61 82 8) ≤ 0) := by omega
        refine yi_D_if1 false rfl (yi_le_f h133) ?_
        refine yi_D_run 1 (96, [(0, .inr (.inr (some 82)))], [.inr (.inr (some 82))], (I61, L4, R, Y), 0, 0) (fun _ => rfl) ?_
        refine yi_D_gi (v := I61 82 8) rfl rfl rfl rfl (fun _ => ?_)
        refine yi_D_reti rfl ?_
        exact ⟨_, _, _, _, rfl, by first | (rw [he63]; exact hx131) | (rw [he63]; exact hx131)⟩
    · have hW134 := mt_W_t hW32 (mt_G_F hGa41)
      have hz135 : 0 < sp_f P (0 + 1) 1 := mt_f_ne hW32 hA27.2 (by omega)
      have hn136 : 0 < I40 82 8 := by rw [he42]; exact hz135
      have hx137 : sp_R K P V (0, 0, 0, [], sp_ld0, sp_nm0, []) (.inr (sp_f P (0 + 1) 1)) := sp_R_1 (by
        show sp_s0 K P V 0 sp_ld0 sp_nm0 [] = _
        unfold sp_s0
        (repeat (first | rw [if_pos (by omega)] | rw [if_neg (by omega)])))
      show yi_D zi_Ms d zi_m72 k (49, [(0, .inr (.inr (some 82)))], [.inl z43, .inl 50, .inr (.inr (some 88))], (I40, L4, R, Y), 0, 0) _
      refine yi_D_is rfl (fun _ _ => ?_)
      show yi_D zi_Ms d zi_m72 k (50, [(0, .inr (.inr (some 82)))], [], ((yi_u I40 88 50 z43), L4, R, Y), 0, 0) _
      generalize w139 : yi_u I40 88 50 z43 = I138
      have hf140 : 0 < I138 82 8 := by rw [← w139, yi_u_ne _ _ (by omega)]; exact hn136
      have he141 : I138 82 8 = _ := (show I138 82 8 = I40 82 8 by rw [← w139, yi_u_ne _ _ (by omega)]).trans he42
      refine yi_D_run 2 (53, [(0, .inr (.inr (some 82)))], [.inl 59, .inr (.inr (some 82))], (I138, L4, R, Y), 0, 0) (fun _ => rfl) ?_
      refine yi_D_callv rfl (q_takeSign_s hS hf140) ?_
      rintro _ rfl
      show yi_D zi_Ms d zi_m72 k (56, [(0, .inr (.inr (some 82)))], [], (I138, L4, R, Y), 0, 0) _
      refine yi_D_run 1 (57, [(0, .inr (.inr (some 82)))], [.inr (.inr (some 82))], (I138, L4, R, Y), 0, 0) (fun _ => rfl) ?_
      have r142 : I138 82 8 = I40 82 8 := by rw [← w139, yi_u_ne _ _ (by omega)]
      refine yi_D_gi (v := I40 82 8) rfl rfl rfl r142 (fun _ => ?_)
      have h143 : ¬ ((I40 82 8) = 0) := by omega
      refine yi_D_if1 true rfl (yi_ne_t h143) ?_
      refine yi_D_run 1 (89, [(0, .inr (.inr (some 82)))], [.inr (.inr (some 82))], (I138, L4, R, Y), 0, 0) (fun _ => rfl) ?_
      have r144 : I138 82 8 = I40 82 8 := by rw [← w139, yi_u_ne _ _ (by omega)]
      refine yi_D_gi (v := I40 82 8) rfl rfl rfl r144 (fun _ => ?_)
      have h145 : ¬ ((I40 82 8) ≤ 0) := by omega
      refine yi_D_if1 false rfl (yi_le_f h145) ?_
      refine yi_D_run 1 (96, [(0, .inr (.inr (some 82)))], [.inr (.inr (some 82))], (I138, L4, R, Y), 0, 0) (fun _ => rfl) ?_
      have r146 : I138 82 8 = I40 82 8 := by rw [← w139, yi_u_ne _ _ (by omega)]
      refine yi_D_gi (v := I40 82 8) rfl rfl rfl r146 (fun _ => ?_)
      refine yi_D_reti rfl ?_
      exact ⟨_, _, _, _, rfl, by first | (rw [he141]; exact hx137) | (rw [he42]; exact hx137)⟩
    · have hW147 := mt_W_t hW32 (mt_G_F hGa46)
      have hz148 : 0 < sp_f P (0 + 1) 4 := mt_f_ne hW32 hA27.2 (by omega)
      have hn149 : 0 < I45 82 8 := by rw [he47]; exact hz148
      have hx150 : sp_R K P V (0, 0, 0, [], sp_ld0, sp_nm0, []) (.inr (sp_f P (0 + 1) 4)) := sp_R_1 (by
        show sp_s0 K P V 0 sp_ld0 sp_nm0 [] = _
        unfold sp_s0
        (repeat (first | rw [if_pos (by omega)] | rw [if_neg (by omega)])))
      show yi_D zi_Ms d zi_m72 k (49, [(0, .inr (.inr (some 82)))], [.inl z48, .inl 50, .inr (.inr (some 88))], (I45, L4, R, Y), 0, 0) _
      refine yi_D_is rfl (fun _ _ => ?_)
      show yi_D zi_Ms d zi_m72 k (50, [(0, .inr (.inr (some 82)))], [], ((yi_u I45 88 50 z48), L4, R, Y), 0, 0) _
      generalize w152 : yi_u I45 88 50 z48 = I151
      have hf153 : 0 < I151 82 8 := by rw [← w152, yi_u_ne _ _ (by omega)]; exact hn149
      have he154 : I151 82 8 = _ := (show I151 82 8 = I45 82 8 by rw [← w152, yi_u_ne _ _ (by omega)]).trans he47
      refine yi_D_run 2 (53, [(0, .inr (.inr (some 82)))], [.inl 59, .inr (.inr (some 82))], (I151, L4, R, Y), 0, 0) (fun _ => rfl) ?_
      refine yi_D_callv rfl (q_takeSign_s hS hf153) ?_
      rintro _ rfl
      show yi_D zi_Ms d zi_m72 k (56, [(0, .inr (.inr (some 82)))], [], (I151, L4, R, Y), 0, 0) _
      refine yi_D_run 1 (57, [(0, .inr (.inr (some 82)))], [.inr (.inr (some 82))], (I151, L4, R, Y), 0, 0) (fun _ => rfl) ?_
      have r155 : I151 82 8 = I45 82 8 := by rw [← w152, yi_u_ne _ _ (by omega)]
      refine yi_D_gi (v := I45 82 8) rfl rfl rfl r155 (fun _ => ?_)
      have h156 : ¬ ((I45 82 8) = 0) := by omega
      refine yi_D_if1 true rfl (yi_ne_t h156) ?_
      refine yi_D_run 1 (89, [(0, .inr (.inr (some 82)))], [.inr (.inr (some 82))], (I151, L4, R, Y), 0, 0) (fun _ => rfl) ?_
      have r157 : I151 82 8 = I45 82 8 := by rw [← w152, yi_u_ne _ _ (by omega)]
      refine yi_D_gi (v := I45 82 8) rfl rfl rfl r157 (fun _ => ?_)
      have h158 : ¬ ((I45 82 8) ≤ 0) := by omega
      refine yi_D_if1 false rfl (yi_le_f h158) ?_
      refine yi_D_run 1 (96, [(0, .inr (.inr (some 82)))], [.inr (.inr (some 82))], (I151, L4, R, Y), 0, 0) (fun _ => rfl) ?_
      have r159 : I151 82 8 = I45 82 8 := by rw [← w152, yi_u_ne _ _ (by omega)]
      refine yi_D_gi (v := I45 82 8) rfl rfl rfl r159 (fun _ => ?_)
      refine yi_D_reti rfl ?_
      exact ⟨_, _, _, _, rfl, by first | (rw [he154]; exact hx150) | (rw [he47]; exact hx150)⟩
  · have hW160 := mt_W_t hW20 (mt_G_F hGa30)
    have hz161 : 0 < sp_f P 0 1 := mt_f_ne hW20 hA22.2 (by omega)
    have hn162 : 0 < I29 82 8 := by rw [he31]; exact hz161
    have hx163 : sp_R K P V (0, 0, 0, [], sp_ld0, sp_nm0, []) (.inr (sp_f P 0 1)) := sp_R_1 (by
      show sp_s0 K P V 0 sp_ld0 sp_nm0 [] = _
      unfold sp_s0
      (repeat (first | rw [if_pos (by omega)] | rw [if_neg (by omega)])))
    show yi_D zi_Ms d zi_m72 k (36, [(0, .inr (.inr (some 82)))], [], (I29, L4, R, Y), 0, 0) _
    refine yi_D_run 1 (37, [(0, .inr (.inr (some 82)))], [.inr (.inr (some 82))], (I29, L4, R, Y), 0, 0) (fun _ => rfl) ?_
    refine yi_D_gr (v := some 88) rfl rfl rfl (ym_S_at hS (j := 5) rfl).1 (fun _ => ?_)
    refine yi_D_run 4 (46, [(0, .inr (.inr (some 82)))], [.inl 6, .inl 1, .inr (.inr (some 82)), .inl 50, .inr (.inr (some 88))], (I29, L4, R, Y), 0, 0) (fun _ => rfl) ?_
    refine yi_D_callv rfl (q_takeNumber_f hW160 hn162) ?_
    rintro _ ⟨z164, rfl⟩
    show yi_D zi_Ms d zi_m72 k (49, [(0, .inr (.inr (some 82)))], [.inl z164, .inl 50, .inr (.inr (some 88))], (I29, L4, R, Y), 0, 0) _
    refine yi_D_is rfl (fun _ _ => ?_)
    show yi_D zi_Ms d zi_m72 k (50, [(0, .inr (.inr (some 82)))], [], ((yi_u I29 88 50 z164), L4, R, Y), 0, 0) _
    generalize w166 : yi_u I29 88 50 z164 = I165
    have hf167 : 0 < I165 82 8 := by rw [← w166, yi_u_ne _ _ (by omega)]; exact hn162
    have he168 : I165 82 8 = _ := (show I165 82 8 = I29 82 8 by rw [← w166, yi_u_ne _ _ (by omega)]).trans he31
    refine yi_D_run 2 (53, [(0, .inr (.inr (some 82)))], [.inl 59, .inr (.inr (some 82))], (I165, L4, R, Y), 0, 0) (fun _ => rfl) ?_
    refine yi_D_callv rfl (q_takeSign_s hS hf167) ?_
    rintro _ rfl
    show yi_D zi_Ms d zi_m72 k (56, [(0, .inr (.inr (some 82)))], [], (I165, L4, R, Y), 0, 0) _
    refine yi_D_run 1 (57, [(0, .inr (.inr (some 82)))], [.inr (.inr (some 82))], (I165, L4, R, Y), 0, 0) (fun _ => rfl) ?_
    have r169 : I165 82 8 = I29 82 8 := by rw [← w166, yi_u_ne _ _ (by omega)]
    refine yi_D_gi (v := I29 82 8) rfl rfl rfl r169 (fun _ => ?_)
    have h170 : ¬ ((I29 82 8) = 0) := by omega
    refine yi_D_if1 true rfl (yi_ne_t h170) ?_
    refine yi_D_run 1 (89, [(0, .inr (.inr (some 82)))], [.inr (.inr (some 82))], (I165, L4, R, Y), 0, 0) (fun _ => rfl) ?_
    have r171 : I165 82 8 = I29 82 8 := by rw [← w166, yi_u_ne _ _ (by omega)]
    refine yi_D_gi (v := I29 82 8) rfl rfl rfl r171 (fun _ => ?_)
    have h172 : ¬ ((I29 82 8) ≤ 0) := by omega
    refine yi_D_if1 false rfl (yi_le_f h172) ?_
    refine yi_D_run 1 (96, [(0, .inr (.inr (some 82)))], [.inr (.inr (some 82))], (I165, L4, R, Y), 0, 0) (fun _ => rfl) ?_
    have r173 : I165 82 8 = I29 82 8 := by rw [← w166, yi_u_ne _ _ (by omega)]
    refine yi_D_gi (v := I29 82 8) rfl rfl rfl r173 (fun _ => ?_)
    refine yi_D_reti rfl ?_
    exact ⟨_, _, _, _, rfl, by first | (rw [he168]; exact hx163) | (rw [he31]; exact hx163)⟩
