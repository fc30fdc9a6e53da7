/-! The class: what a price's codes are worth. -/
theorem i255_32 (n : Nat) (h : n < 2147483648) : yi_iand (n : Int) 255 = ((n % 256 : Nat) : Int) := by
  show (Int32.ofInt (n : Int) &&& Int32.ofInt 255).toInt = _
  have e1 : Int32.ofInt (n : Int) = Int32.ofNat n := rfl
  rw [e1]
  show ((BitVec.ofInt 32 (n : Int)) &&& (BitVec.ofInt 32 255)).toInt = _
  rw [BitVec.toInt_eq_toNat_of_lt]
  · rw [BitVec.toNat_and, BitVec.toNat_ofInt, BitVec.toNat_ofInt, show ((255 : Int) % (2 ^ 32 : Nat)).toNat = 2 ^ 8 - 1 by decide, Nat.and_two_pow_sub_one_eq_mod]
    omega
  · rw [BitVec.toNat_and, BitVec.toNat_ofInt, BitVec.toNat_ofInt, show ((255 : Int) % (2 ^ 32 : Nat)).toNat = 2 ^ 8 - 1 by decide, Nat.and_two_pow_sub_one_eq_mod]
    omega
theorem pt_get {x : Int × Int} (h : okP x) : ∃ (n : Nat) (kd op : Int), trP x = (n : Int) ∧ yi_iand (n : Int) 255 = kd ∧ yi_shr (n : Int) 8 = op ∧ ((x.1 = 1 ∧ kd = 2 ∧ op = x.2) ∨ (x.1 = 2 ∧ kd = 3 ∧ op = x.2 ∧ 0 ≤ op ∧ op ≤ 2) ∨ (x.1 = 3 ∧ kd = 30) ∨ (x.1 = 4 ∧ kd = 43) ∨ (x.1 = 5 ∧ kd = 45) ∨ (x.1 = 6 ∧ kd = 42) ∨ (x.1 = 7 ∧ kd = 60) ∨ (x.1 = 8 ∧ kd = 61) ∨ (x.1 = 9 ∧ kd = 31) ∨ (x.1 = 10 ∧ kd = 32)) := by
  obtain ⟨c, v⟩ := x
  have key : ∀ n : Nat, n < 2147483648 → yi_iand (n : Int) 255 = ((n % 256 : Nat) : Int) ∧ yi_shr (n : Int) 8 = ((n / 256 : Nat) : Int) := fun n hn => ⟨i255_32 n hn, (shr_32 n hn).2.1⟩
  rcases h with ⟨h1, h2, h3⟩ | ⟨h1, h2, h3⟩ | ⟨h1, h2, h3⟩
  · have h1 : c = 1 := h1
    have h2 : 0 ≤ v := h2
    have h3 : v ≤ 9999 := h3
    subst h1
    obtain ⟨k1, k2⟩ := key (2 + 256 * v.toNat) (by omega)
    exact ⟨2 + 256 * v.toNat, _, _, (by show 2 + 256 * v = _; omega), k1, k2, Or.inl ⟨rfl, by omega, by show _ = v; omega⟩⟩
  · have h1 : c = 2 := h1
    have h2 : 0 ≤ v := h2
    have h3 : v ≤ 2 := h3
    subst h1
    obtain ⟨k1, k2⟩ := key (3 + 256 * v.toNat) (by omega)
    exact ⟨3 + 256 * v.toNat, _, _, (by show 3 + 256 * v = _; omega), k1, k2, Or.inr (Or.inl ⟨rfl, by omega, by show _ = v; omega, by omega, by omega⟩)⟩
  · have h1 : 3 ≤ c := h1
    have h2 : c ≤ 10 := h2
    have h3 : v = 0 := h3
    subst h3
    rcases (show c = 3 ∨ c = 4 ∨ c = 5 ∨ c = 6 ∨ c = 7 ∨ c = 8 ∨ c = 9 ∨ c = 10 by omega) with rfl | rfl | rfl | rfl | rfl | rfl | rfl | rfl
    · exact ⟨30, _, _, rfl, (key 30 (by omega)).1, (key 30 (by omega)).2, Or.inr (Or.inr (Or.inl ⟨rfl, rfl⟩))⟩
    · exact ⟨43, _, _, rfl, (key 43 (by omega)).1, (key 43 (by omega)).2, Or.inr (Or.inr (Or.inr (Or.inl ⟨rfl, rfl⟩)))⟩
    · exact ⟨45, _, _, rfl, (key 45 (by omega)).1, (key 45 (by omega)).2, Or.inr (Or.inr (Or.inr (Or.inr (Or.inl ⟨rfl, rfl⟩))))⟩
    · exact ⟨42, _, _, rfl, (key 42 (by omega)).1, (key 42 (by omega)).2, Or.inr (Or.inr (Or.inr (Or.inr (Or.inr (Or.inl ⟨rfl, rfl⟩)))))⟩
    · exact ⟨60, _, _, rfl, (key 60 (by omega)).1, (key 60 (by omega)).2, Or.inr (Or.inr (Or.inr (Or.inr (Or.inr (Or.inr (Or.inl ⟨rfl, rfl⟩))))))⟩
    · exact ⟨61, _, _, rfl, (key 61 (by omega)).1, (key 61 (by omega)).2, Or.inr (Or.inr (Or.inr (Or.inr (Or.inr (Or.inr (Or.inr (Or.inl ⟨rfl, rfl⟩)))))))⟩
    · exact ⟨31, _, _, rfl, (key 31 (by omega)).1, (key 31 (by omega)).2, Or.inr (Or.inr (Or.inr (Or.inr (Or.inr (Or.inr (Or.inr (Or.inr (Or.inl ⟨rfl, rfl⟩))))))))⟩
    · exact ⟨32, _, _, rfl, (key 32 (by omega)).1, (key 32 (by omega)).2, Or.inr (Or.inr (Or.inr (Or.inr (Or.inr (Or.inr (Or.inr (Or.inr (Or.inr ⟨rfl, rfl⟩))))))))⟩
/-- the stack's values, the top at the head of the list -/
def svI (G : Nat → Nat → Int) (l : List Int) (h : Nat) : Prop := l.length = h ∧ ∀ j, j < h → G 45 j = l.getD (h - 1 - j) 0
theorem svI_not {G G' : Nat → Nat → Int} {l r : List Int} {a v : Int} {h : Nat} (h1 : svI G l h) (e : l = a :: r) (hG : G' 45 (h - 1) = v) (hF : ∀ j, ¬ j = h - 1 → G' 45 j = G 45 j) : svI G' (v :: r) h := by
  obtain ⟨l1, l2⟩ := h1
  rw [e] at l1 l2
  have hl : r.length + 1 = h := l1
  refine ⟨hl, fun j hj => ?_⟩
  by_cases c : j = h - 1
  · rw [c, hG, show h - 1 - (h - 1) = 0 by omega]
    rfl
  · have z := l2 j hj
    obtain ⟨t, ht⟩ : ∃ t, h - 1 - j = t + 1 := ⟨h - 1 - j - 1, by omega⟩
    rw [ht] at z ⊢
    rw [hF j c, z]
    rfl
theorem svI_two {G G' : Nat → Nat → Int} {l r : List Int} {y a v : Int} {h : Nat} (h1 : svI G l h) (e : l = y :: a :: r) (hG : G' 45 (h - 2) = v) (hF : ∀ j, ¬ j = h - 2 → G' 45 j = G 45 j) : svI G' (v :: r) (h - 1) := by
  obtain ⟨l1, l2⟩ := h1
  rw [e] at l1 l2
  have hl : r.length + 1 + 1 = h := l1
  refine ⟨(by show r.length + 1 = h - 1; omega), fun j hj => ?_⟩
  by_cases c : j = h - 2
  · rw [c, hG, show h - 1 - 1 - (h - 2) = 0 by omega]
    rfl
  · have z := l2 j (by omega)
    obtain ⟨t, ht⟩ : ∃ t, h - 1 - j = t + 2 := ⟨h - 1 - j - 2, by omega⟩
    rw [ht] at z
    rw [show h - 1 - 1 - j = t + 1 by omega, hF j c, z]
    rfl
theorem svI_push {G G' : Nat → Nat → Int} {l : List Int} {v : Int} {h : Nat} (h1 : svI G l h) (hG : G' 45 h = v) (hF : ∀ j, ¬ j = h → G' 45 j = G 45 j) : svI G' (v :: l) (h + 1) := by
  obtain ⟨l1, l2⟩ := h1
  refine ⟨(by show l.length + 1 = h + 1; omega), fun j hj => ?_⟩
  by_cases c : j = h
  · rw [c, hG, show h + 1 - 1 - h = 0 by omega]
    rfl
  · have z := l2 j (by omega)
    obtain ⟨t, ht⟩ : ∃ t, h + 1 - 1 - j = t + 1 := ⟨h - 1 - j, by omega⟩
    rw [ht, hF j c, z, show h - 1 - j = t by omega]
    rfl
theorem svI_top {G : Nat → Nat → Int} {l r : List Int} {a : Int} {h : Nat} (h1 : svI G l h) (e : l = a :: r) : 1 ≤ h ∧ G 45 (h - 1) = a := by
  obtain ⟨l1, l2⟩ := h1
  rw [e] at l1 l2
  have hl : r.length + 1 = h := l1
  have z := l2 (h - 1) (by omega)
  rw [show h - 1 - (h - 1) = 0 by omega] at z
  exact ⟨by omega, z⟩
theorem svI_sec {G : Nat → Nat → Int} {l r : List Int} {y a : Int} {h : Nat} (h1 : svI G l h) (e : l = y :: a :: r) : 2 ≤ h ∧ G 45 (h - 2) = a := by
  obtain ⟨l1, l2⟩ := h1
  rw [e] at l1 l2
  have hl : r.length + 1 + 1 = h := l1
  have z := l2 (h - 2) (by omega)
  rw [show h - 1 - (h - 2) = 1 by omega] at z
  exact ⟨by omega, z⟩
theorem p_joined {d : Nat} {I L : Nat → Nat → Int} {R : Nat → Nat → Option Nat} {Y : (Nat → Nat) × (Nat → Nat) × Nat} {kd a b c : Int} (hk : (c = 4 ∧ kd = 43) ∨ (c = 5 ∧ kd = 45) ∨ (c = 6 ∧ kd = 42) ∨ (c = 7 ∧ kd = 60) ∨ (c = 8 ∧ kd = 61) ∨ (c = 9 ∧ kd = 31) ∨ (c = 10 ∧ kd = 32)) : yi_P zi_Ms d 244 [.inl kd, .inl a, .inl b] (I, L, R, Y) (fun r => r = (some (.inl (bo c a b)), (I, L, R, Y), 0, 0)) := by
  refine yi_P_of (M := zi_m244) rfl (fun d k => ?_)
  show yi_D zi_Ms d zi_m244 k (0, [(0, .inl kd), (1, .inl a), (2, .inl b)], [], (I, L, R, Y), 0, 0) _
  refine yi_D_run 1 (1, [(0, .inl kd), (1, .inl a), (2, .inl b)], [.inl kd], (I, L, R, Y), 0, 0) (fun _ => rfl) ?_
  by_cases h1 : kd = 31
  · refine yi_D_lsw (off := 59) 60 rfl (by show Op.lookupswitch.offset [(31, 59), (32, 73), (43, 109), (45, 113), (60, 87), (61, 98)] _ _ = _; rw [Op.lookupswitch.offset_cons, if_pos (by omega)]) (by decide) ?_
    refine yi_D_run 1 (61, [(0, .inl kd), (1, .inl a), (2, .inl b)], [.inl a], (I, L, R, Y), 0, 0) (fun _ => rfl) ?_
    by_cases h2 : a = 0
    · refine yi_D_if1 true rfl (yi_eq_t h2) ?_
      refine yi_D_run 1 (73, [(0, .inl kd), (1, .inl a), (2, .inl b)], [.inl 0], (I, L, R, Y), 0, 0) (fun _ => rfl) ?_
      refine yi_D_reti rfl ?_
      have e : bo c a b = 0 := by
        rcases hk with ⟨hc, hk⟩ | ⟨hc, hk⟩ | ⟨hc, hk⟩ | ⟨hc, hk⟩ | ⟨hc, hk⟩ | ⟨hc, hk⟩ | ⟨hc, hk⟩
        · first
          | (exfalso; omega)
          | (subst hc; show (yi_w (a + b) : Int) = 0; first | rfl | exact if_pos (by omega) | exact if_neg (by omega))
        · first
          | (exfalso; omega)
          | (subst hc; show (yi_w (a - b) : Int) = 0; first | rfl | exact if_pos (by omega) | exact if_neg (by omega))
        · first
          | (exfalso; omega)
          | (subst hc; show (yi_w (a * b) : Int) = 0; first | rfl | exact if_pos (by omega) | exact if_neg (by omega))
        · first
          | (exfalso; omega)
          | (subst hc; show (if a < b then 1 else 0 : Int) = 0; first | rfl | exact if_pos (by omega) | exact if_neg (by omega))
        · first
          | (exfalso; omega)
          | (subst hc; show (if a = b then 1 else 0 : Int) = 0; first | rfl | exact if_pos (by omega) | exact if_neg (by omega))
        · first
          | (exfalso; omega)
          | (subst hc; show (if ¬ a = 0 ∧ ¬ b = 0 then 1 else 0 : Int) = 0; first | rfl | exact if_pos (by omega) | exact if_neg (by omega))
        · first
          | (exfalso; omega)
          | (subst hc; show (if ¬ a = 0 ∨ ¬ b = 0 then 1 else 0 : Int) = 0; first | rfl | exact if_pos (by omega) | exact if_neg (by omega))
      rw [e]
    · refine yi_D_if1 false rfl (yi_eq_f h2) ?_
      refine yi_D_run 1 (65, [(0, .inl kd), (1, .inl a), (2, .inl b)], [.inl b], (I, L, R, Y), 0, 0) (fun _ => rfl) ?_
      by_cases h3 : b = 0
      · refine yi_D_if1 true rfl (yi_eq_t h3) ?_
        refine yi_D_run 1 (73, [(0, .inl kd), (1, .inl a), (2, .inl b)], [.inl 0], (I, L, R, Y), 0, 0) (fun _ => rfl) ?_
        refine yi_D_reti rfl ?_
        have e : bo c a b = 0 := by
          rcases hk with ⟨hc, hk⟩ | ⟨hc, hk⟩ | ⟨hc, hk⟩ | ⟨hc, hk⟩ | ⟨hc, hk⟩ | ⟨hc, hk⟩ | ⟨hc, hk⟩
          · first
            | (exfalso; omega)
            | (subst hc; show (yi_w (a + b) : Int) = 0; first | rfl | exact if_pos (by omega) | exact if_neg (by omega))
          · first
            | (exfalso; omega)
            | (subst hc; show (yi_w (a - b) : Int) = 0; first | rfl | exact if_pos (by omega) | exact if_neg (by omega))
          · first
            | (exfalso; omega)
            | (subst hc; show (yi_w (a * b) : Int) = 0; first | rfl | exact if_pos (by omega) | exact if_neg (by omega))
          · first
            | (exfalso; omega)
            | (subst hc; show (if a < b then 1 else 0 : Int) = 0; first | rfl | exact if_pos (by omega) | exact if_neg (by omega))
          · first
            | (exfalso; omega)
            | (subst hc; show (if a = b then 1 else 0 : Int) = 0; first | rfl | exact if_pos (by omega) | exact if_neg (by omega))
          · first
            | (exfalso; omega)
            | (subst hc; show (if ¬ a = 0 ∧ ¬ b = 0 then 1 else 0 : Int) = 0; first | rfl | exact if_pos (by omega) | exact if_neg (by omega))
          · first
            | (exfalso; omega)
            | (subst hc; show (if ¬ a = 0 ∨ ¬ b = 0 then 1 else 0 : Int) = 0; first | rfl | exact if_pos (by omega) | exact if_neg (by omega))
        rw [e]
      · refine yi_D_if1 false rfl (yi_eq_f h3) ?_
        refine yi_D_run 2 (73, [(0, .inl kd), (1, .inl a), (2, .inl b)], [.inl 1], (I, L, R, Y), 0, 0) (fun _ => rfl) ?_
        refine yi_D_reti rfl ?_
        have e : bo c a b = 1 := by
          rcases hk with ⟨hc, hk⟩ | ⟨hc, hk⟩ | ⟨hc, hk⟩ | ⟨hc, hk⟩ | ⟨hc, hk⟩ | ⟨hc, hk⟩ | ⟨hc, hk⟩
          · first
            | (exfalso; omega)
            | (subst hc; show (yi_w (a + b) : Int) = 1; first | rfl | exact if_pos (by omega) | exact if_neg (by omega))
          · first
            | (exfalso; omega)
            | (subst hc; show (yi_w (a - b) : Int) = 1; first | rfl | exact if_pos (by omega) | exact if_neg (by omega))
          · first
            | (exfalso; omega)
            | (subst hc; show (yi_w (a * b) : Int) = 1; first | rfl | exact if_pos (by omega) | exact if_neg (by omega))
          · first
            | (exfalso; omega)
            | (subst hc; show (if a < b then 1 else 0 : Int) = 1; first | rfl | exact if_pos (by omega) | exact if_neg (by omega))
          · first
            | (exfalso; omega)
            | (subst hc; show (if a = b then 1 else 0 : Int) = 1; first | rfl | exact if_pos (by omega) | exact if_neg (by omega))
          · first
            | (exfalso; omega)
            | (subst hc; show (if ¬ a = 0 ∧ ¬ b = 0 then 1 else 0 : Int) = 1; first | rfl | exact if_pos (by omega) | exact if_neg (by omega))
          · first
            | (exfalso; omega)
            | (subst hc; show (if ¬ a = 0 ∨ ¬ b = 0 then 1 else 0 : Int) = 1; first | rfl | exact if_pos (by omega) | exact if_neg (by omega))
        rw [e]
  by_cases h4 : kd = 32
  · refine yi_D_lsw (off := 73) 74 rfl (by show Op.lookupswitch.offset [(31, 59), (32, 73), (43, 109), (45, 113), (60, 87), (61, 98)] _ _ = _; rw [Op.lookupswitch.offset_cons, if_neg (by omega), Op.lookupswitch.offset_cons, if_pos (by omega)]) (by decide) ?_
    refine yi_D_run 1 (75, [(0, .inl kd), (1, .inl a), (2, .inl b)], [.inl a], (I, L, R, Y), 0, 0) (fun _ => rfl) ?_
    by_cases h5 : a = 0
    · refine yi_D_if1 false rfl (yi_ne_f h5) ?_
      refine yi_D_run 1 (79, [(0, .inl kd), (1, .inl a), (2, .inl b)], [.inl b], (I, L, R, Y), 0, 0) (fun _ => rfl) ?_
      by_cases h6 : b = 0
      · refine yi_D_if1 true rfl (yi_eq_t h6) ?_
        refine yi_D_run 1 (87, [(0, .inl kd), (1, .inl a), (2, .inl b)], [.inl 0], (I, L, R, Y), 0, 0) (fun _ => rfl) ?_
        refine yi_D_reti rfl ?_
        have e : bo c a b = 0 := by
          rcases hk with ⟨hc, hk⟩ | ⟨hc, hk⟩ | ⟨hc, hk⟩ | ⟨hc, hk⟩ | ⟨hc, hk⟩ | ⟨hc, hk⟩ | ⟨hc, hk⟩
          · first
            | (exfalso; omega)
            | (subst hc; show (yi_w (a + b) : Int) = 0; first | rfl | exact if_pos (by omega) | exact if_neg (by omega))
          · first
            | (exfalso; omega)
            | (subst hc; show (yi_w (a - b) : Int) = 0; first | rfl | exact if_pos (by omega) | exact if_neg (by omega))
          · first
            | (exfalso; omega)
            | (subst hc; show (yi_w (a * b) : Int) = 0; first | rfl | exact if_pos (by omega) | exact if_neg (by omega))
          · first
            | (exfalso; omega)
            | (subst hc; show (if a < b then 1 else 0 : Int) = 0; first | rfl | exact if_pos (by omega) | exact if_neg (by omega))
          · first
            | (exfalso; omega)
            | (subst hc; show (if a = b then 1 else 0 : Int) = 0; first | rfl | exact if_pos (by omega) | exact if_neg (by omega))
          · first
            | (exfalso; omega)
            | (subst hc; show (if ¬ a = 0 ∧ ¬ b = 0 then 1 else 0 : Int) = 0; first | rfl | exact if_pos (by omega) | exact if_neg (by omega))
          · first
            | (exfalso; omega)
            | (subst hc; show (if ¬ a = 0 ∨ ¬ b = 0 then 1 else 0 : Int) = 0; first | rfl | exact if_pos (by omega) | exact if_neg (by omega))
        rw [e]
      · refine yi_D_if1 false rfl (yi_eq_f h6) ?_
        refine yi_D_run 2 (87, [(0, .inl kd), (1, .inl a), (2, .inl b)], [.inl 1], (I, L, R, Y), 0, 0) (fun _ => rfl) ?_
        refine yi_D_reti rfl ?_
        have e : bo c a b = 1 := by
          rcases hk with ⟨hc, hk⟩ | ⟨hc, hk⟩ | ⟨hc, hk⟩ | ⟨hc, hk⟩ | ⟨hc, hk⟩ | ⟨hc, hk⟩ | ⟨hc, hk⟩
          · first
            | (exfalso; omega)
            | (subst hc; show (yi_w (a + b) : Int) = 1; first | rfl | exact if_pos (by omega) | exact if_neg (by omega))
          · first
            | (exfalso; omega)
            | (subst hc; show (yi_w (a - b) : Int) = 1; first | rfl | exact if_pos (by omega) | exact if_neg (by omega))
          · first
            | (exfalso; omega)
            | (subst hc; show (yi_w (a * b) : Int) = 1; first | rfl | exact if_pos (by omega) | exact if_neg (by omega))
          · first
            | (exfalso; omega)
            | (subst hc; show (if a < b then 1 else 0 : Int) = 1; first | rfl | exact if_pos (by omega) | exact if_neg (by omega))
          · first
            | (exfalso; omega)
            | (subst hc; show (if a = b then 1 else 0 : Int) = 1; first | rfl | exact if_pos (by omega) | exact if_neg (by omega))
          · first
            | (exfalso; omega)
            | (subst hc; show (if ¬ a = 0 ∧ ¬ b = 0 then 1 else 0 : Int) = 1; first | rfl | exact if_pos (by omega) | exact if_neg (by omega))
          · first
            | (exfalso; omega)
            | (subst hc; show (if ¬ a = 0 ∨ ¬ b = 0 then 1 else 0 : Int) = 1; first | rfl | exact if_pos (by omega) | exact if_neg (by omega))
        rw [e]
    · refine yi_D_if1 true rfl (yi_ne_t h5) ?_
      refine yi_D_run 2 (87, [(0, .inl kd), (1, .inl a), (2, .inl b)], [.inl 1], (I, L, R, Y), 0, 0) (fun _ => rfl) ?_
      refine yi_D_reti rfl ?_
      have e : bo c a b = 1 := by
        rcases hk with ⟨hc, hk⟩ | ⟨hc, hk⟩ | ⟨hc, hk⟩ | ⟨hc, hk⟩ | ⟨hc, hk⟩ | ⟨hc, hk⟩ | ⟨hc, hk⟩
        · first
          | (exfalso; omega)
          | (subst hc; show (yi_w (a + b) : Int) = 1; first | rfl | exact if_pos (by omega) | exact if_neg (by omega))
        · first
          | (exfalso; omega)
          | (subst hc; show (yi_w (a - b) : Int) = 1; first | rfl | exact if_pos (by omega) | exact if_neg (by omega))
        · first
          | (exfalso; omega)
          | (subst hc; show (yi_w (a * b) : Int) = 1; first | rfl | exact if_pos (by omega) | exact if_neg (by omega))
        · first
          | (exfalso; omega)
          | (subst hc; show (if a < b then 1 else 0 : Int) = 1; first | rfl | exact if_pos (by omega) | exact if_neg (by omega))
        · first
          | (exfalso; omega)
          | (subst hc; show (if a = b then 1 else 0 : Int) = 1; first | rfl | exact if_pos (by omega) | exact if_neg (by omega))
        · first
          | (exfalso; omega)
          | (subst hc; show (if ¬ a = 0 ∧ ¬ b = 0 then 1 else 0 : Int) = 1; first | rfl | exact if_pos (by omega) | exact if_neg (by omega))
        · first
          | (exfalso; omega)
          | (subst hc; show (if ¬ a = 0 ∨ ¬ b = 0 then 1 else 0 : Int) = 1; first | rfl | exact if_pos (by omega) | exact if_neg (by omega))
      rw [e]
  by_cases h7 : kd = 43
  · refine yi_D_lsw (off := 109) 110 rfl (by show Op.lookupswitch.offset [(31, 59), (32, 73), (43, 109), (45, 113), (60, 87), (61, 98)] _ _ = _; rw [Op.lookupswitch.offset_cons, if_neg (by omega), Op.lookupswitch.offset_cons, if_neg (by omega), Op.lookupswitch.offset_cons, if_pos (by omega)]) (by decide) ?_
    refine yi_D_run 3 (113, [(0, .inl kd), (1, .inl a), (2, .inl b)], [.inl (yi_w (a + b))], (I, L, R, Y), 0, 0) (fun _ => rfl) ?_
    refine yi_D_reti rfl ?_
    have e : bo c a b = yi_w (a + b) := by
      rcases hk with ⟨hc, hk⟩ | ⟨hc, hk⟩ | ⟨hc, hk⟩ | ⟨hc, hk⟩ | ⟨hc, hk⟩ | ⟨hc, hk⟩ | ⟨hc, hk⟩
      · first
        | (exfalso; omega)
        | (subst hc; show (yi_w (a + b) : Int) = yi_w (a + b); first | rfl | exact if_pos (by omega) | exact if_neg (by omega))
      · first
        | (exfalso; omega)
        | (subst hc; show (yi_w (a - b) : Int) = yi_w (a + b); first | rfl | exact if_pos (by omega) | exact if_neg (by omega))
      · first
        | (exfalso; omega)
        | (subst hc; show (yi_w (a * b) : Int) = yi_w (a + b); first | rfl | exact if_pos (by omega) | exact if_neg (by omega))
      · first
        | (exfalso; omega)
        | (subst hc; show (if a < b then 1 else 0 : Int) = yi_w (a + b); first | rfl | exact if_pos (by omega) | exact if_neg (by omega))
      · first
        | (exfalso; omega)
        | (subst hc; show (if a = b then 1 else 0 : Int) = yi_w (a + b); first | rfl | exact if_pos (by omega) | exact if_neg (by omega))
      · first
        | (exfalso; omega)
        | (subst hc; show (if ¬ a = 0 ∧ ¬ b = 0 then 1 else 0 : Int) = yi_w (a + b); first | rfl | exact if_pos (by omega) | exact if_neg (by omega))
      · first
        | (exfalso; omega)
        | (subst hc; show (if ¬ a = 0 ∨ ¬ b = 0 then 1 else 0 : Int) = yi_w (a + b); first | rfl | exact if_pos (by omega) | exact if_neg (by omega))
    rw [e]
  by_cases h8 : kd = 45
  · refine yi_D_lsw (off := 113) 114 rfl (by show Op.lookupswitch.offset [(31, 59), (32, 73), (43, 109), (45, 113), (60, 87), (61, 98)] _ _ = _; rw [Op.lookupswitch.offset_cons, if_neg (by omega), Op.lookupswitch.offset_cons, if_neg (by omega), Op.lookupswitch.offset_cons, if_neg (by omega), Op.lookupswitch.offset_cons, if_pos (by omega)]) (by decide) ?_
    refine yi_D_run 3 (117, [(0, .inl kd), (1, .inl a), (2, .inl b)], [.inl (yi_w (a - b))], (I, L, R, Y), 0, 0) (fun _ => rfl) ?_
    refine yi_D_reti rfl ?_
    have e : bo c a b = yi_w (a - b) := by
      rcases hk with ⟨hc, hk⟩ | ⟨hc, hk⟩ | ⟨hc, hk⟩ | ⟨hc, hk⟩ | ⟨hc, hk⟩ | ⟨hc, hk⟩ | ⟨hc, hk⟩
      · first
        | (exfalso; omega)
        | (subst hc; show (yi_w (a + b) : Int) = yi_w (a - b); first | rfl | exact if_pos (by omega) | exact if_neg (by omega))
      · first
        | (exfalso; omega)
        | (subst hc; show (yi_w (a - b) : Int) = yi_w (a - b); first | rfl | exact if_pos (by omega) | exact if_neg (by omega))
      · first
        | (exfalso; omega)
        | (subst hc; show (yi_w (a * b) : Int) = yi_w (a - b); first | rfl | exact if_pos (by omega) | exact if_neg (by omega))
      · first
        | (exfalso; omega)
        | (subst hc; show (if a < b then 1 else 0 : Int) = yi_w (a - b); first | rfl | exact if_pos (by omega) | exact if_neg (by omega))
      · first
        | (exfalso; omega)
        | (subst hc; show (if a = b then 1 else 0 : Int) = yi_w (a - b); first | rfl | exact if_pos (by omega) | exact if_neg (by omega))
      · first
        | (exfalso; omega)
        | (subst hc; show (if ¬ a = 0 ∧ ¬ b = 0 then 1 else 0 : Int) = yi_w (a - b); first | rfl | exact if_pos (by omega) | exact if_neg (by omega))
      · first
        | (exfalso; omega)
        | (subst hc; show (if ¬ a = 0 ∨ ¬ b = 0 then 1 else 0 : Int) = yi_w (a - b); first | rfl | exact if_pos (by omega) | exact if_neg (by omega))
    rw [e]
  by_cases h9 : kd = 60
  · refine yi_D_lsw (off := 87) 88 rfl (by show Op.lookupswitch.offset [(31, 59), (32, 73), (43, 109), (45, 113), (60, 87), (61, 98)] _ _ = _; rw [Op.lookupswitch.offset_cons, if_neg (by omega), Op.lookupswitch.offset_cons, if_neg (by omega), Op.lookupswitch.offset_cons, if_neg (by omega), Op.lookupswitch.offset_cons, if_neg (by omega), Op.lookupswitch.offset_cons, if_pos (by omega)]) (by decide) ?_
    refine yi_D_run 2 (90, [(0, .inl kd), (1, .inl a), (2, .inl b)], [.inl b, .inl a], (I, L, R, Y), 0, 0) (fun _ => rfl) ?_
    by_cases h10 : b ≤ a
    · refine yi_D_if2 true rfl (yi_ge_t h10) ?_
      refine yi_D_run 1 (98, [(0, .inl kd), (1, .inl a), (2, .inl b)], [.inl 0], (I, L, R, Y), 0, 0) (fun _ => rfl) ?_
      refine yi_D_reti rfl ?_
      have e : bo c a b = 0 := by
        rcases hk with ⟨hc, hk⟩ | ⟨hc, hk⟩ | ⟨hc, hk⟩ | ⟨hc, hk⟩ | ⟨hc, hk⟩ | ⟨hc, hk⟩ | ⟨hc, hk⟩
        · first
          | (exfalso; omega)
          | (subst hc; show (yi_w (a + b) : Int) = 0; first | rfl | exact if_pos (by omega) | exact if_neg (by omega))
        · first
          | (exfalso; omega)
          | (subst hc; show (yi_w (a - b) : Int) = 0; first | rfl | exact if_pos (by omega) | exact if_neg (by omega))
        · first
          | (exfalso; omega)
          | (subst hc; show (yi_w (a * b) : Int) = 0; first | rfl | exact if_pos (by omega) | exact if_neg (by omega))
        · first
          | (exfalso; omega)
          | (subst hc; show (if a < b then 1 else 0 : Int) = 0; first | rfl | exact if_pos (by omega) | exact if_neg (by omega))
        · first
          | (exfalso; omega)
          | (subst hc; show (if a = b then 1 else 0 : Int) = 0; first | rfl | exact if_pos (by omega) | exact if_neg (by omega))
        · first
          | (exfalso; omega)
          | (subst hc; show (if ¬ a = 0 ∧ ¬ b = 0 then 1 else 0 : Int) = 0; first | rfl | exact if_pos (by omega) | exact if_neg (by omega))
        · first
          | (exfalso; omega)
          | (subst hc; show (if ¬ a = 0 ∨ ¬ b = 0 then 1 else 0 : Int) = 0; first | rfl | exact if_pos (by omega) | exact if_neg (by omega))
      rw [e]
    · refine yi_D_if2 false rfl (yi_ge_f h10) ?_
      refine yi_D_run 2 (98, [(0, .inl kd), (1, .inl a), (2, .inl b)], [.inl 1], (I, L, R, Y), 0, 0) (fun _ => rfl) ?_
      refine yi_D_reti rfl ?_
      have e : bo c a b = 1 := by
        rcases hk with ⟨hc, hk⟩ | ⟨hc, hk⟩ | ⟨hc, hk⟩ | ⟨hc, hk⟩ | ⟨hc, hk⟩ | ⟨hc, hk⟩ | ⟨hc, hk⟩
        · first
          | (exfalso; omega)
          | (subst hc; show (yi_w (a + b) : Int) = 1; first | rfl | exact if_pos (by omega) | exact if_neg (by omega))
        · first
          | (exfalso; omega)
          | (subst hc; show (yi_w (a - b) : Int) = 1; first | rfl | exact if_pos (by omega) | exact if_neg (by omega))
        · first
          | (exfalso; omega)
          | (subst hc; show (yi_w (a * b) : Int) = 1; first | rfl | exact if_pos (by omega) | exact if_neg (by omega))
        · first
          | (exfalso; omega)
          | (subst hc; show (if a < b then 1 else 0 : Int) = 1; first | rfl | exact if_pos (by omega) | exact if_neg (by omega))
        · first
          | (exfalso; omega)
          | (subst hc; show (if a = b then 1 else 0 : Int) = 1; first | rfl | exact if_pos (by omega) | exact if_neg (by omega))
        · first
          | (exfalso; omega)
          | (subst hc; show (if ¬ a = 0 ∧ ¬ b = 0 then 1 else 0 : Int) = 1; first | rfl | exact if_pos (by omega) | exact if_neg (by omega))
        · first
          | (exfalso; omega)
          | (subst hc; show (if ¬ a = 0 ∨ ¬ b = 0 then 1 else 0 : Int) = 1; first | rfl | exact if_pos (by omega) | exact if_neg (by omega))
      rw [e]
  by_cases h11 : kd = 61
  · refine yi_D_lsw (off := 98) 99 rfl (by show Op.lookupswitch.offset [(31, 59), (32, 73), (43, 109), (45, 113), (60, 87), (61, 98)] _ _ = _; rw [Op.lookupswitch.offset_cons, if_neg (by omega), Op.lookupswitch.offset_cons, if_neg (by omega), Op.lookupswitch.offset_cons, if_neg (by omega), Op.lookupswitch.offset_cons, if_neg (by omega), Op.lookupswitch.offset_cons, if_neg (by omega), Op.lookupswitch.offset_cons, if_pos (by omega)]) (by decide) ?_
    refine yi_D_run 2 (101, [(0, .inl kd), (1, .inl a), (2, .inl b)], [.inl b, .inl a], (I, L, R, Y), 0, 0) (fun _ => rfl) ?_
    by_cases h12 : a = b
    · refine yi_D_if2 false rfl (yi_ne_f h12) ?_
      refine yi_D_run 2 (109, [(0, .inl kd), (1, .inl a), (2, .inl b)], [.inl 1], (I, L, R, Y), 0, 0) (fun _ => rfl) ?_
      refine yi_D_reti rfl ?_
      have e : bo c a b = 1 := by
        rcases hk with ⟨hc, hk⟩ | ⟨hc, hk⟩ | ⟨hc, hk⟩ | ⟨hc, hk⟩ | ⟨hc, hk⟩ | ⟨hc, hk⟩ | ⟨hc, hk⟩
        · first
          | (exfalso; omega)
          | (subst hc; show (yi_w (a + b) : Int) = 1; first | rfl | exact if_pos (by omega) | exact if_neg (by omega))
        · first
          | (exfalso; omega)
          | (subst hc; show (yi_w (a - b) : Int) = 1; first | rfl | exact if_pos (by omega) | exact if_neg (by omega))
        · first
          | (exfalso; omega)
          | (subst hc; show (yi_w (a * b) : Int) = 1; first | rfl | exact if_pos (by omega) | exact if_neg (by omega))
        · first
          | (exfalso; omega)
          | (subst hc; show (if a < b then 1 else 0 : Int) = 1; first | rfl | exact if_pos (by omega) | exact if_neg (by omega))
        · first
          | (exfalso; omega)
          | (subst hc; show (if a = b then 1 else 0 : Int) = 1; first | rfl | exact if_pos (by omega) | exact if_neg (by omega))
        · first
          | (exfalso; omega)
          | (subst hc; show (if ¬ a = 0 ∧ ¬ b = 0 then 1 else 0 : Int) = 1; first | rfl | exact if_pos (by omega) | exact if_neg (by omega))
        · first
          | (exfalso; omega)
          | (subst hc; show (if ¬ a = 0 ∨ ¬ b = 0 then 1 else 0 : Int) = 1; first | rfl | exact if_pos (by omega) | exact if_neg (by omega))
      rw [e]
    · refine yi_D_if2 true rfl (yi_ne_t h12) ?_
      refine yi_D_run 1 (109, [(0, .inl kd), (1, .inl a), (2, .inl b)], [.inl 0], (I, L, R, Y), 0, 0) (fun _ => rfl) ?_
      refine yi_D_reti rfl ?_
      have e : bo c a b = 0 := by
        rcases hk with ⟨hc, hk⟩ | ⟨hc, hk⟩ | ⟨hc, hk⟩ | ⟨hc, hk⟩ | ⟨hc, hk⟩ | ⟨hc, hk⟩ | ⟨hc, hk⟩
        · first
          | (exfalso; omega)
          | (subst hc; show (yi_w (a + b) : Int) = 0; first | rfl | exact if_pos (by omega) | exact if_neg (by omega))
        · first
          | (exfalso; omega)
          | (subst hc; show (yi_w (a - b) : Int) = 0; first | rfl | exact if_pos (by omega) | exact if_neg (by omega))
        · first
          | (exfalso; omega)
          | (subst hc; show (yi_w (a * b) : Int) = 0; first | rfl | exact if_pos (by omega) | exact if_neg (by omega))
        · first
          | (exfalso; omega)
          | (subst hc; show (if a < b then 1 else 0 : Int) = 0; first | rfl | exact if_pos (by omega) | exact if_neg (by omega))
        · first
          | (exfalso; omega)
          | (subst hc; show (if a = b then 1 else 0 : Int) = 0; first | rfl | exact if_pos (by omega) | exact if_neg (by omega))
        · first
          | (exfalso; omega)
          | (subst hc; show (if ¬ a = 0 ∧ ¬ b = 0 then 1 else 0 : Int) = 0; first | rfl | exact if_pos (by omega) | exact if_neg (by omega))
        · first
          | (exfalso; omega)
          | (subst hc; show (if ¬ a = 0 ∨ ¬ b = 0 then 1 else 0 : Int) = 0; first | rfl | exact if_pos (by omega) | exact if_neg (by omega))
      rw [e]
  refine yi_D_lsw (off := 117) 118 rfl (by show Op.lookupswitch.offset [(31, 59), (32, 73), (43, 109), (45, 113), (60, 87), (61, 98)] _ _ = _; rw [Op.lookupswitch.offset_cons, if_neg (by omega), Op.lookupswitch.offset_cons, if_neg (by omega), Op.lookupswitch.offset_cons, if_neg (by omega), Op.lookupswitch.offset_cons, if_neg (by omega), Op.lookupswitch.offset_cons, if_neg (by omega), Op.lookupswitch.offset_cons, if_neg (by omega), Op.lookupswitch.offset_nil]) (by decide) ?_
  refine yi_D_run 3 (121, [(0, .inl kd), (1, .inl a), (2, .inl b)], [.inl (yi_w (a * b))], (I, L, R, Y), 0, 0) (fun _ => rfl) ?_
  refine yi_D_reti rfl ?_
  have e : bo c a b = yi_w (a * b) := by
    rcases hk with ⟨hc, hk⟩ | ⟨hc, hk⟩ | ⟨hc, hk⟩ | ⟨hc, hk⟩ | ⟨hc, hk⟩ | ⟨hc, hk⟩ | ⟨hc, hk⟩
    · first
      | (exfalso; omega)
      | (subst hc; show (yi_w (a + b) : Int) = yi_w (a * b); first | rfl | exact if_pos (by omega) | exact if_neg (by omega))
    · first
      | (exfalso; omega)
      | (subst hc; show (yi_w (a - b) : Int) = yi_w (a * b); first | rfl | exact if_pos (by omega) | exact if_neg (by omega))
    · first
      | (exfalso; omega)
      | (subst hc; show (yi_w (a * b) : Int) = yi_w (a * b); first | rfl | exact if_pos (by omega) | exact if_neg (by omega))
    · first
      | (exfalso; omega)
      | (subst hc; show (if a < b then 1 else 0 : Int) = yi_w (a * b); first | rfl | exact if_pos (by omega) | exact if_neg (by omega))
    · first
      | (exfalso; omega)
      | (subst hc; show (if a = b then 1 else 0 : Int) = yi_w (a * b); first | rfl | exact if_pos (by omega) | exact if_neg (by omega))
    · first
      | (exfalso; omega)
      | (subst hc; show (if ¬ a = 0 ∧ ¬ b = 0 then 1 else 0 : Int) = yi_w (a * b); first | rfl | exact if_pos (by omega) | exact if_neg (by omega))
    · first
      | (exfalso; omega)
      | (subst hc; show (if ¬ a = 0 ∨ ¬ b = 0 then 1 else 0 : Int) = yi_w (a * b); first | rfl | exact if_pos (by omega) | exact if_neg (by omega))
  rw [e]
theorem p_factValue {d : Nat} {I L : Nat → Nat → Int} {R : Nat → Nat → Option Nat} {Y : (Nat → Nat) × (Nat → Nat) × Nat} {x be af to : Int} {fa : Nat → Int} (hfa : (fa 0 = if 9999 < be then 9999 else be) ∧ (fa 1 = if 9999 < af then 9999 else af) ∧ fa 2 = to) (hx : 0 ≤ x ∧ x ≤ 2) : yi_P zi_Ms d 243 [.inl x, .inl be, .inl af, .inl to] (I, L, R, Y) (fun r => r = (some (.inl (fa x.toNat)), (I, L, R, Y), 0, 0)) := by
  refine yi_P_of (M := zi_m243) rfl (fun d k => ?_)
  show yi_D zi_Ms d zi_m243 k (0, [(0, .inl x), (1, .inl be), (2, .inl af), (3, .inl to)], [], (I, L, R, Y), 0, 0) _
  refine yi_D_run 2 (2, [(0, .inl x), (1, .inl be), (2, .inl af), (3, .inl to)], [.inl 2, .inl x], (I, L, R, Y), 0, 0) (fun _ => rfl) ?_
  by_cases h1 : x = 2
  · refine yi_D_if2 false rfl (yi_ne_f h1) ?_
    refine yi_D_run 1 (6, [(0, .inl x), (1, .inl be), (2, .inl af), (3, .inl to)], [.inl to], (I, L, R, Y), 0, 0) (fun _ => rfl) ?_
    refine yi_D_reti rfl ?_
    have e : fa x.toNat = to := by
      rcases (show x = 0 ∨ x = 1 ∨ x = 2 by omega) with e | e | e <;> subst e <;> first | (exfalso; omega) | exact hfa.1 | exact hfa.2.1 | exact hfa.2.2
    rw [e]
  · refine yi_D_if2 true rfl (yi_ne_t h1) ?_
    refine yi_D_run 1 (8, [(0, .inl x), (1, .inl be), (2, .inl af), (3, .inl to)], [.inl x], (I, L, R, Y), 0, 0) (fun _ => rfl) ?_
    by_cases h2 : x = 0
    · refine yi_D_if1 false rfl (yi_ne_f h2) ?_
      refine yi_D_run 3 (19, [(0, .inl x), (1, .inl be), (2, .inl af), (3, .inl to)], [.inl 9999, .inl be], (I, L, R, Y), 0, 0) (fun _ => rfl) ?_
      refine yi_D_run 1 (22, [(0, .inl x), (1, .inl be), (2, .inl af), (3, .inl to)], [.inl (if 9999 < be then 9999 else be)], (I, L, R, Y), 0, 0) (fun _ => rfl) ?_
      refine yi_D_reti rfl ?_
      have e : fa x.toNat = if 9999 < be then 9999 else be := by
        rcases (show x = 0 ∨ x = 1 ∨ x = 2 by omega) with e | e | e <;> subst e <;> first | (exfalso; omega) | exact hfa.1 | exact hfa.2.1 | exact hfa.2.2
      rw [e]
    · refine yi_D_if1 true rfl (yi_ne_t h2) ?_
      refine yi_D_run 2 (19, [(0, .inl x), (1, .inl be), (2, .inl af), (3, .inl to)], [.inl 9999, .inl af], (I, L, R, Y), 0, 0) (fun _ => rfl) ?_
      refine yi_D_run 1 (22, [(0, .inl x), (1, .inl be), (2, .inl af), (3, .inl to)], [.inl (if 9999 < af then 9999 else af)], (I, L, R, Y), 0, 0) (fun _ => rfl) ?_
      refine yi_D_reti rfl ?_
      have e : fa x.toNat = if 9999 < af then 9999 else af := by
        rcases (show x = 0 ∨ x = 1 ∨ x = 2 by omega) with e | e | e <;> subst e <;> first | (exfalso; omega) | exact hfa.1 | exact hfa.2.1 | exact hfa.2.2
      rw [e]
theorem p_priceOf {d : Nat} {I L : Nat → Nat → Int} {R : Nat → Nat → Option Nat} {Y : (Nat → Nat) × (Nat → Nat) × Nat} (hA : at_T R Y) {P m : Nat} {xs : Nat → Int × Int} {sk : Nat → List Int} {be af to : Int} {fa : Nat → Int} (hfa : (fa 0 = if 9999 < be then 9999 else be) ∧ (fa 1 = if 9999 < af then 9999 else af) ∧ fa 2 = to) {hcl : Int → Bool} (hP : 10 ≤ P ∧ ¬ P = 45 ∧ Y.2.1 P = m ∧ m ≤ 100000) (hcd : ∀ k, k < m → I P k = trP (xs k)) (hok : ∀ k, k < m → okP (xs k)) (hsk : sk 0 = [] ∧ ∀ k, k < m → stp fa hcl (xs k).1 (xs k).2 (sk k) = some (sk (k + 1))) (hlen : ∀ k, k ≤ m → (sk k).length ≤ 64) : yi_P zi_Ms d 245 [.inr (.inr (some 44)), .inr (.inr (some P)), .inl be, .inl af, .inl to] (I, L, R, Y) (fun r => ∃ I', r = (some (.inl (if 0 < (if 99 < (sk m).headD 0 then 99 else (sk m).headD 0) then (if 99 < (sk m).headD 0 then 99 else (sk m).headD 0) else 0)), (I', L, R, Y), 0, 0) ∧ ∀ q k, ¬ q = 45 → I' q k = I q k) := by
  refine yi_P_of (M := zi_m245) rfl (fun d k => ?_)
  show yi_D zi_Ms d zi_m245 k (0, [(0, .inr (.inr (some 44))), (1, .inr (.inr (some P))), (2, .inl be), (3, .inl af), (4, .inl to)], [], (I, L, R, Y), 0, 0) _
  refine yi_D_run 4 (6, [(6, .inl 0), (5, .inl 0), (0, .inr (.inr (some 44))), (1, .inr (.inr (some P))), (2, .inl be), (3, .inl af), (4, .inl to)], [], (I, L, R, Y), 0, 0) (fun _ => rfl) ?_
  have pt6 : ∀ j6, j6 ≤ k → ∀ (y6 : Int) (y5 : Int) (z7 : Int) (z8 : Int) (J1 : Nat → Nat → Int) (h : Nat), (y5 = (h : Int)) → (0 ≤ y6 ∧ y6 ≤ (m : Int)) → (svI J1 (sk y6.toNat) h) → (∀ q k, ¬ q = 45 → J1 q k = I q k) → yi_D zi_Ms d zi_m245 j6 (6, [(6, .inl y6), (5, .inl y5), (0, .inr (.inr (some 44))), (1, .inr (.inr (some P))), (2, .inl be), (3, .inl af), (4, .inl to), (7, .inl z7), (8, .inl z8)], [], (J1, L, R, Y), 0, 0) (fun r => ∃ I', r = (some (.inl (if 0 < (if 99 < (sk m).headD 0 then 99 else (sk m).headD 0) then (if 99 < (sk m).headD 0 then 99 else (sk m).headD 0) else 0)), (I', L, R, Y), 0, 0) ∧ ∀ q k, ¬ q = 45 → I' q k = I q k) := by
    intro j6
    induction j6 with
    | zero => intros; exact yi_D_0
    | succ j6 ih6 =>
    intro hk6 y6 y5 z7 z8 J1 h hy5 hy6 hs hJ
    have hl0 := hlen y6.toNat (by omega)
    have hlp := hs.1
    refine yi_D_run1 1 (9, [(6, .inl y6), (5, .inl y5), (0, .inr (.inr (some 44))), (1, .inr (.inr (some P))), (2, .inl be), (3, .inl af), (4, .inl to), (7, .inl z7), (8, .inl z8)], [.inr (.inr (some P)), .inl y6], (J1, L, R, Y), 0, 0) (fun _ => rfl) ?_
    refine yi_D_len (v := (m : Int)) rfl (Nat.ble_eq_true_of_le (by omega)) (congrArg Nat.cast hP.2.2.1) ?_
    by_cases h1 : (m : Int) ≤ y6
    · refine yi_D_if2 true rfl (yi_ge_t h1) ?_
      refine yi_D_run 2 (179, [(6, .inl y6), (5, .inl y5), (0, .inr (.inr (some 44))), (1, .inr (.inr (some P))), (2, .inl be), (3, .inl af), (4, .inl to), (7, .inl z7), (8, .inl z8)], [.inl 1, .inl y5], (J1, L, R, Y), 0, 0) (fun _ => rfl) ?_
      by_cases h2 : y5 < 1
      · refine yi_D_if2 true rfl (yi_lt_t h2) ?_
        refine yi_D_run 5 (202, [(6, .inl 0), (5, .inl y5), (0, .inr (.inr (some 44))), (1, .inr (.inr (some P))), (2, .inl be), (3, .inl af), (4, .inl to), (7, .inl z7), (8, .inl z8)], [.inl 99, .inl 0, .inl 0], (J1, L, R, Y), 0, 0) (fun _ => rfl) ?_
        refine yi_D_run 1 (205, [(6, .inl 0), (5, .inl y5), (0, .inr (.inr (some 44))), (1, .inr (.inr (some P))), (2, .inl be), (3, .inl af), (4, .inl to), (7, .inl z7), (8, .inl z8)], [.inl 0, .inl 0], (J1, L, R, Y), 0, 0) (fun _ => rfl) ?_
        refine yi_D_run 1 (208, [(6, .inl 0), (5, .inl y5), (0, .inr (.inr (some 44))), (1, .inr (.inr (some P))), (2, .inl be), (3, .inl af), (4, .inl to), (7, .inl z7), (8, .inl z8)], [.inl 0], (J1, L, R, Y), 0, 0) (fun _ => rfl) ?_
        refine yi_D_reti rfl ?_
        have hkm : y6.toNat = m := by omega
        rw [hkm] at hs
        have hl0 : sk m = [] := List.eq_nil_of_length_eq_zero (by have := hs.1; omega)
        have hhd : (sk m).headD 0 = 0 := by rw [hl0]; rfl
        refine ⟨_, ?_, hJ⟩
        rw [hhd]
        try rfl
      · refine yi_D_if2 false rfl (yi_lt_f h2) ?_
        refine yi_D_run 1 (183, [(6, .inl y6), (5, .inl y5), (0, .inr (.inr (some 44))), (1, .inr (.inr (some P))), (2, .inl be), (3, .inl af), (4, .inl to), (7, .inl z7), (8, .inl z8)], [.inr (.inr (some 44))], (J1, L, R, Y), 0, 0) (fun _ => rfl) ?_
        refine yi_D_gr (v := some 45) rfl rfl rfl (at_r hA (j := 30) rfl) (fun _ => ?_)
        refine yi_D_run 2 (189, [(6, .inl y6), (5, .inl y5), (0, .inr (.inr (some 44))), (1, .inr (.inr (some P))), (2, .inl be), (3, .inl af), (4, .inl to), (7, .inl z7), (8, .inl z8)], [.inl 1, .inl y5, .inr (.inr (some 45))], (J1, L, R, Y), 0, 0) (fun _ => rfl) ?_
        refine yi_D_isub rfl (y5 - 1) (yi_wn (by omega) (by omega)) ?_
        refine yi_D_il (v := J1 45 ((y5 - 1).toNat)) rfl rfl rfl (fun _ _ => ?_)
        refine yi_D_run 5 (202, [(6, .inl (J1 45 ((y5 - 1).toNat))), (5, .inl y5), (0, .inr (.inr (some 44))), (1, .inr (.inr (some P))), (2, .inl be), (3, .inl af), (4, .inl to), (7, .inl z7), (8, .inl z8)], [.inl 99, .inl (J1 45 ((y5 - 1).toNat)), .inl 0], (J1, L, R, Y), 0, 0) (fun _ => rfl) ?_
        refine yi_D_run 1 (205, [(6, .inl (J1 45 ((y5 - 1).toNat))), (5, .inl y5), (0, .inr (.inr (some 44))), (1, .inr (.inr (some P))), (2, .inl be), (3, .inl af), (4, .inl to), (7, .inl z7), (8, .inl z8)], [.inl (if 99 < (J1 45 ((y5 - 1).toNat)) then 99 else (J1 45 ((y5 - 1).toNat))), .inl 0], (J1, L, R, Y), 0, 0) (fun _ => rfl) ?_
        refine yi_D_run 1 (208, [(6, .inl (J1 45 ((y5 - 1).toNat))), (5, .inl y5), (0, .inr (.inr (some 44))), (1, .inr (.inr (some P))), (2, .inl be), (3, .inl af), (4, .inl to), (7, .inl z7), (8, .inl z8)], [.inl (if 0 < (if 99 < (J1 45 ((y5 - 1).toNat)) then 99 else (J1 45 ((y5 - 1).toNat))) then (if 99 < (J1 45 ((y5 - 1).toNat)) then 99 else (J1 45 ((y5 - 1).toNat))) else 0)], (J1, L, R, Y), 0, 0) (fun _ => rfl) ?_
        refine yi_D_reti rfl ?_
        have hkm : y6.toNat = m := by omega
        rw [hkm] at hs
        have hhd : (sk m).headD 0 = J1 45 ((y5 - 1).toNat) := by
          cases hsm : sk m with
          | nil => rw [hsm] at hs; have := hs.1; rw [List.length_nil] at this; exfalso; omega
          | cons a r =>
            have z := (svI_top hs hsm).2
            rw [show (y5 - 1).toNat = h - 1 by omega]
            exact z.symm
        refine ⟨_, ?_, hJ⟩
        rw [hhd]
        try rfl
    · refine yi_D_if2 false rfl (yi_ge_f h1) ?_
      obtain ⟨n0, kd, op, hn0, hkd, hop, hkc⟩ := pt_get (hok y6.toNat (by omega))
      have hcr : I P y6.toNat = (n0 : Int) := (hcd _ (by omega)).trans hn0
      have hst := hsk.2 y6.toNat (by omega)
      have hl1 := hlen (y6.toNat + 1) (by omega)
      refine yi_D_run 2 (16, [(6, .inl y6), (5, .inl y5), (0, .inr (.inr (some 44))), (1, .inr (.inr (some P))), (2, .inl be), (3, .inl af), (4, .inl to), (7, .inl z7), (8, .inl z8)], [.inl y6, .inr (.inr (some P))], (J1, L, R, Y), 0, 0) (fun _ => rfl) ?_
      have r3 : J1 P (y6.toNat) = (n0 : Int) := by rw [hJ P (y6.toNat) (by omega), hcr]
      refine yi_D_il (v := (n0 : Int)) rfl (Nat.ble_eq_true_of_le (by omega)) r3 (fun _ _ => ?_)
      refine yi_D_run 5 (26, [(7, .inl (yi_iand (n0 : Int) 255)), (6, .inl y6), (5, .inl y5), (0, .inr (.inr (some 44))), (1, .inr (.inr (some P))), (2, .inl be), (3, .inl af), (4, .inl to), (8, .inl z8)], [.inl y6, .inr (.inr (some P))], (J1, L, R, Y), 0, 0) (fun _ => rfl) ?_
      have r4 : J1 P (y6.toNat) = (n0 : Int) := by rw [hJ P (y6.toNat) (by omega), hcr]
      refine yi_D_il (v := (n0 : Int)) rfl (Nat.ble_eq_true_of_le (by omega)) r4 (fun _ _ => ?_)
      refine yi_D_run 5 (35, [(8, .inl (yi_shr (n0 : Int) 8)), (7, .inl (yi_iand (n0 : Int) 255)), (6, .inl y6), (5, .inl y5), (0, .inr (.inr (some 44))), (1, .inr (.inr (some P))), (2, .inl be), (3, .inl af), (4, .inl to)], [.inl 2, .inl (yi_iand (n0 : Int) 255)], (J1, L, R, Y), 0, 0) (fun _ => rfl) ?_
      rw [hkd, hop]
      by_cases h5 : kd = 2
      · refine yi_D_if2 true rfl (yi_eq_t h5) ?_
        have hlq : (sk (y6.toNat + 1)).length = h + 1 := by
          rcases hkc with c | c | c
          · rw [stp_1 hst c.1]; exact congrArg (· + 1) hlp
          · rw [stp_2 hst c.1]; exact congrArg (· + 1) hlp
          · exfalso; omega
        refine yi_D_run 2 (47, [(8, .inl op), (7, .inl kd), (6, .inl y6), (5, .inl y5), (0, .inr (.inr (some 44))), (1, .inr (.inr (some P))), (2, .inl be), (3, .inl af), (4, .inl to)], [.inr (.inr (some 44)), .inl y5], (J1, L, R, Y), 0, 0) (fun _ => rfl) ?_
        refine yi_D_gr (v := some 45) rfl rfl rfl (at_r hA (j := 30) rfl) (fun _ => ?_)
        refine yi_D_len (v := 64) rfl rfl (at_ni hA (j := 10) rfl) ?_
        have h6 : ¬ (64 ≤ y5) := by omega
        refine yi_D_if2 false rfl (yi_ge_f h6) ?_
        refine yi_D_run 1 (55, [(8, .inl op), (7, .inl kd), (6, .inl y6), (5, .inl y5), (0, .inr (.inr (some 44))), (1, .inr (.inr (some P))), (2, .inl be), (3, .inl af), (4, .inl to)], [.inr (.inr (some 44))], (J1, L, R, Y), 0, 0) (fun _ => rfl) ?_
        refine yi_D_gr (v := some 45) rfl rfl rfl (at_r hA (j := 30) rfl) (fun _ => ?_)
        refine yi_D_run 3 (63, [(8, .inl op), (7, .inl kd), (6, .inl y6), (5, .inl y5), (0, .inr (.inr (some 44))), (1, .inr (.inr (some P))), (2, .inl be), (3, .inl af), (4, .inl to)], [.inl 2, .inl kd, .inl y5, .inr (.inr (some 45))], (J1, L, R, Y), 0, 0) (fun _ => rfl) ?_
        have h7 : kd = 2 := by omega
        refine yi_D_if2 false rfl (yi_ne_f h7) ?_
        refine yi_D_run 2 (80, [(8, .inl op), (7, .inl kd), (6, .inl y6), (5, .inl y5), (0, .inr (.inr (some 44))), (1, .inr (.inr (some P))), (2, .inl be), (3, .inl af), (4, .inl to)], [.inl op, .inl y5, .inr (.inr (some 45))], (J1, L, R, Y), 0, 0) (fun _ => rfl) ?_
        refine yi_D_is rfl (fun _ _ => ?_)
        generalize w9 : yi_u J1 45 (y5.toNat) op = I8
        refine yi_D_iinc [(5, .inl (y5 + 1)), (8, .inl op), (7, .inl kd), (6, .inl y6), (0, .inr (.inr (some 44))), (1, .inr (.inr (some P))), (2, .inl be), (3, .inl af), (4, .inl to)] rfl rfl rfl (by rw [show yi_w (y5 + 1) = y5 + 1 from (yi_wn (by omega) (by omega)).trans (by omega)]; rfl) ?_
        refine yi_D_run 1 (170, [(5, .inl (y5 + 1)), (8, .inl op), (7, .inl kd), (6, .inl y6), (0, .inr (.inr (some 44))), (1, .inr (.inr (some P))), (2, .inl be), (3, .inl af), (4, .inl to)], [], (I8, L, R, Y), 0, 0) (fun _ => rfl) ?_
        refine yi_D_iinc [(6, .inl (y6 + 1)), (5, .inl (y5 + 1)), (8, .inl op), (7, .inl kd), (0, .inr (.inr (some 44))), (1, .inr (.inr (some P))), (2, .inl be), (3, .inl af), (4, .inl to)] rfl rfl rfl (by rw [show yi_w (y6 + 1) = y6 + 1 from (yi_wn (by omega) (by omega)).trans (by omega)]; rfl) ?_
        refine yi_D_run 1 (6, [(6, .inl (y6 + 1)), (5, .inl (y5 + 1)), (8, .inl op), (7, .inl kd), (0, .inr (.inr (some 44))), (1, .inr (.inr (some P))), (2, .inl be), (3, .inl af), (4, .inl to)], [], (I8, L, R, Y), 0, 0) (fun _ => rfl) ?_
        refine yi_D_al (al := [(6, .inl (y6 + 1)), (5, .inl (y5 + 1)), (0, .inr (.inr (some 44))), (1, .inr (.inr (some P))), (2, .inl be), (3, .inl af), (4, .inl to), (7, .inl kd), (8, .inl op)]) (show ([6, 5, 0, 1, 2, 3, 4, 7, 8] : List Nat).Nodup by decide) (show ([6, 5, 8, 7, 0, 1, 2, 3, 4] : List Nat).Nodup by decide) (yi_mc (List.mem_of_getElem? (i := 0) rfl) (yi_mc (List.mem_of_getElem? (i := 1) rfl) (yi_mc (List.mem_of_getElem? (i := 8) rfl) (yi_mc (List.mem_of_getElem? (i := 7) rfl) (yi_mc (List.mem_of_getElem? (i := 2) rfl) (yi_mc (List.mem_of_getElem? (i := 3) rfl) (yi_mc (List.mem_of_getElem? (i := 4) rfl) (yi_mc (List.mem_of_getElem? (i := 5) rfl) (yi_mc (List.mem_of_getElem? (i := 6) rfl) yi_mn))))))))) ?_
        exact yi_D_mono (ih6 (by omega) (y6 + 1) (y5 + 1) kd op I8 (h + 1) (by omega) (by omega) (by rw [show (y6 + 1).toNat = y6.toNat + 1 by omega, stp_1 hst (by omega), ← show op = (xs y6.toNat).2 by omega]; exact svI_push hs (by rw [← w9, show y5.toNat = h by omega, yi_u_eq]) (fun j hj => by rw [← w9, yi_u_ne _ _ (fun z => hj (by have := z.2; omega))])) (fun q k hq => by rw [← w9, yi_u_ne _ _ (fun z => hq z.1)]; exact hJ q k hq)) (by omega)
      · refine yi_D_if2 false rfl (yi_eq_f h5) ?_
        refine yi_D_run 2 (41, [(8, .inl op), (7, .inl kd), (6, .inl y6), (5, .inl y5), (0, .inr (.inr (some 44))), (1, .inr (.inr (some P))), (2, .inl be), (3, .inl af), (4, .inl to)], [.inl 3, .inl kd], (J1, L, R, Y), 0, 0) (fun _ => rfl) ?_
        by_cases h10 : kd = 3
        · refine yi_D_if2 false rfl (yi_ne_f h10) ?_
          have hlq : (sk (y6.toNat + 1)).length = h + 1 := by
            rcases hkc with c | c | c
            · rw [stp_1 hst c.1]; exact congrArg (· + 1) hlp
            · rw [stp_2 hst c.1]; exact congrArg (· + 1) hlp
            · exfalso; omega
          refine yi_D_run 2 (47, [(8, .inl op), (7, .inl kd), (6, .inl y6), (5, .inl y5), (0, .inr (.inr (some 44))), (1, .inr (.inr (some P))), (2, .inl be), (3, .inl af), (4, .inl to)], [.inr (.inr (some 44)), .inl y5], (J1, L, R, Y), 0, 0) (fun _ => rfl) ?_
          refine yi_D_gr (v := some 45) rfl rfl rfl (at_r hA (j := 30) rfl) (fun _ => ?_)
          refine yi_D_len (v := 64) rfl rfl (at_ni hA (j := 10) rfl) ?_
          have h11 : ¬ (64 ≤ y5) := by omega
          refine yi_D_if2 false rfl (yi_ge_f h11) ?_
          refine yi_D_run 1 (55, [(8, .inl op), (7, .inl kd), (6, .inl y6), (5, .inl y5), (0, .inr (.inr (some 44))), (1, .inr (.inr (some P))), (2, .inl be), (3, .inl af), (4, .inl to)], [.inr (.inr (some 44))], (J1, L, R, Y), 0, 0) (fun _ => rfl) ?_
          refine yi_D_gr (v := some 45) rfl rfl rfl (at_r hA (j := 30) rfl) (fun _ => ?_)
          refine yi_D_run 3 (63, [(8, .inl op), (7, .inl kd), (6, .inl y6), (5, .inl y5), (0, .inr (.inr (some 44))), (1, .inr (.inr (some P))), (2, .inl be), (3, .inl af), (4, .inl to)], [.inl 2, .inl kd, .inl y5, .inr (.inr (some 45))], (J1, L, R, Y), 0, 0) (fun _ => rfl) ?_
          have h12 : ¬ (kd = 2) := by omega
          refine yi_D_if2 true rfl (yi_ne_t h12) ?_
          refine yi_D_run 4 (77, [(8, .inl op), (7, .inl kd), (6, .inl y6), (5, .inl y5), (0, .inr (.inr (some 44))), (1, .inr (.inr (some P))), (2, .inl be), (3, .inl af), (4, .inl to)], [.inl to, .inl af, .inl be, .inl op, .inl y5, .inr (.inr (some 45))], (J1, L, R, Y), 0, 0) (fun _ => rfl) ?_
          refine yi_D_calls rfl (p_factValue hfa ⟨by omega, by omega⟩) ?_
          rintro _ rfl
          show yi_D zi_Ms d zi_m245 j6 (80, [(8, .inl op), (7, .inl kd), (6, .inl y6), (5, .inl y5), (0, .inr (.inr (some 44))), (1, .inr (.inr (some P))), (2, .inl be), (3, .inl af), (4, .inl to)], [.inl (fa (op.toNat)), .inl y5, .inr (.inr (some 45))], (J1, L, R, Y), 0, 0) _
          refine yi_D_is rfl (fun _ _ => ?_)
          generalize w14 : yi_u J1 45 (y5.toNat) (fa (op.toNat)) = I13
          refine yi_D_iinc [(5, .inl (y5 + 1)), (8, .inl op), (7, .inl kd), (6, .inl y6), (0, .inr (.inr (some 44))), (1, .inr (.inr (some P))), (2, .inl be), (3, .inl af), (4, .inl to)] rfl rfl rfl (by rw [show yi_w (y5 + 1) = y5 + 1 from (yi_wn (by omega) (by omega)).trans (by omega)]; rfl) ?_
          refine yi_D_run 1 (170, [(5, .inl (y5 + 1)), (8, .inl op), (7, .inl kd), (6, .inl y6), (0, .inr (.inr (some 44))), (1, .inr (.inr (some P))), (2, .inl be), (3, .inl af), (4, .inl to)], [], (I13, L, R, Y), 0, 0) (fun _ => rfl) ?_
          refine yi_D_iinc [(6, .inl (y6 + 1)), (5, .inl (y5 + 1)), (8, .inl op), (7, .inl kd), (0, .inr (.inr (some 44))), (1, .inr (.inr (some P))), (2, .inl be), (3, .inl af), (4, .inl to)] rfl rfl rfl (by rw [show yi_w (y6 + 1) = y6 + 1 from (yi_wn (by omega) (by omega)).trans (by omega)]; rfl) ?_
          refine yi_D_run 1 (6, [(6, .inl (y6 + 1)), (5, .inl (y5 + 1)), (8, .inl op), (7, .inl kd), (0, .inr (.inr (some 44))), (1, .inr (.inr (some P))), (2, .inl be), (3, .inl af), (4, .inl to)], [], (I13, L, R, Y), 0, 0) (fun _ => rfl) ?_
          refine yi_D_al (al := [(6, .inl (y6 + 1)), (5, .inl (y5 + 1)), (0, .inr (.inr (some 44))), (1, .inr (.inr (some P))), (2, .inl be), (3, .inl af), (4, .inl to), (7, .inl kd), (8, .inl op)]) (show ([6, 5, 0, 1, 2, 3, 4, 7, 8] : List Nat).Nodup by decide) (show ([6, 5, 8, 7, 0, 1, 2, 3, 4] : List Nat).Nodup by decide) (yi_mc (List.mem_of_getElem? (i := 0) rfl) (yi_mc (List.mem_of_getElem? (i := 1) rfl) (yi_mc (List.mem_of_getElem? (i := 8) rfl) (yi_mc (List.mem_of_getElem? (i := 7) rfl) (yi_mc (List.mem_of_getElem? (i := 2) rfl) (yi_mc (List.mem_of_getElem? (i := 3) rfl) (yi_mc (List.mem_of_getElem? (i := 4) rfl) (yi_mc (List.mem_of_getElem? (i := 5) rfl) (yi_mc (List.mem_of_getElem? (i := 6) rfl) yi_mn))))))))) ?_
          exact yi_D_mono (ih6 (by omega) (y6 + 1) (y5 + 1) kd op I13 (h + 1) (by omega) (by omega) (by rw [show (y6 + 1).toNat = y6.toNat + 1 by omega, stp_2 hst (by omega), ← show op = (xs y6.toNat).2 by omega]; exact svI_push hs (by rw [← w14, show y5.toNat = h by omega, yi_u_eq]) (fun j hj => by rw [← w14, yi_u_ne _ _ (fun z => hj (by have := z.2; omega))])) (fun q k hq => by rw [← w14, yi_u_ne _ _ (fun z => hq z.1)]; exact hJ q k hq)) (by omega)
        · refine yi_D_if2 true rfl (yi_ne_t h10) ?_
          refine yi_D_run 2 (91, [(8, .inl op), (7, .inl kd), (6, .inl y6), (5, .inl y5), (0, .inr (.inr (some 44))), (1, .inr (.inr (some P))), (2, .inl be), (3, .inl af), (4, .inl to)], [.inl 30, .inl kd], (J1, L, R, Y), 0, 0) (fun _ => rfl) ?_
          by_cases h15 : kd = 30
          · refine yi_D_if2 false rfl (yi_ne_f h15) ?_
            obtain ⟨a0, r0, e1, e2⟩ := stp_3 hst (by omega)
            have ht0 := svI_top hs e1
            have hta : J1 45 (y5 - 1).toNat = a0 := by rw [show (y5 - 1).toNat = h - 1 by omega]; exact ht0.2
            refine yi_D_run 2 (97, [(8, .inl op), (7, .inl kd), (6, .inl y6), (5, .inl y5), (0, .inr (.inr (some 44))), (1, .inr (.inr (some P))), (2, .inl be), (3, .inl af), (4, .inl to)], [.inl 1, .inl y5], (J1, L, R, Y), 0, 0) (fun _ => rfl) ?_
            have h16 : ¬ (y5 < 1) := by omega
            refine yi_D_if2 false rfl (yi_lt_f h16) ?_
            refine yi_D_run 1 (101, [(8, .inl op), (7, .inl kd), (6, .inl y6), (5, .inl y5), (0, .inr (.inr (some 44))), (1, .inr (.inr (some P))), (2, .inl be), (3, .inl af), (4, .inl to)], [.inr (.inr (some 44))], (J1, L, R, Y), 0, 0) (fun _ => rfl) ?_
            refine yi_D_gr (v := some 45) rfl rfl rfl (at_r hA (j := 30) rfl) (fun _ => ?_)
            refine yi_D_run 2 (107, [(8, .inl op), (7, .inl kd), (6, .inl y6), (5, .inl y5), (0, .inr (.inr (some 44))), (1, .inr (.inr (some P))), (2, .inl be), (3, .inl af), (4, .inl to)], [.inl 1, .inl y5, .inr (.inr (some 45))], (J1, L, R, Y), 0, 0) (fun _ => rfl) ?_
            refine yi_D_isub rfl (y5 - 1) (yi_wn (by omega) (by omega)) ?_
            refine yi_D_run 1 (109, [(8, .inl op), (7, .inl kd), (6, .inl y6), (5, .inl y5), (0, .inr (.inr (some 44))), (1, .inr (.inr (some P))), (2, .inl be), (3, .inl af), (4, .inl to)], [.inr (.inr (some 44)), .inl (y5 - 1), .inr (.inr (some 45))], (J1, L, R, Y), 0, 0) (fun _ => rfl) ?_
            refine yi_D_gr (v := some 45) rfl rfl rfl (at_r hA (j := 30) rfl) (fun _ => ?_)
            refine yi_D_run 2 (115, [(8, .inl op), (7, .inl kd), (6, .inl y6), (5, .inl y5), (0, .inr (.inr (some 44))), (1, .inr (.inr (some P))), (2, .inl be), (3, .inl af), (4, .inl to)], [.inl 1, .inl y5, .inr (.inr (some 45)), .inl (y5 - 1), .inr (.inr (some 45))], (J1, L, R, Y), 0, 0) (fun _ => rfl) ?_
            refine yi_D_isub rfl (y5 - 1) (yi_wn (by omega) (by omega)) ?_
            refine yi_D_il (v := a0) rfl rfl hta (fun _ _ => ?_)
            by_cases h17 : a0 = 0
            · refine yi_D_if1 false rfl (yi_ne_f h17) ?_
              refine yi_D_run 2 (125, [(8, .inl op), (7, .inl kd), (6, .inl y6), (5, .inl y5), (0, .inr (.inr (some 44))), (1, .inr (.inr (some P))), (2, .inl be), (3, .inl af), (4, .inl to)], [.inl 1, .inl (y5 - 1), .inr (.inr (some 45))], (J1, L, R, Y), 0, 0) (fun _ => rfl) ?_
              refine yi_D_is rfl (fun _ _ => ?_)
              generalize w19 : yi_u J1 45 ((y5 - 1).toNat) 1 = I18
              refine yi_D_run 1 (170, [(8, .inl op), (7, .inl kd), (6, .inl y6), (5, .inl y5), (0, .inr (.inr (some 44))), (1, .inr (.inr (some P))), (2, .inl be), (3, .inl af), (4, .inl to)], [], (I18, L, R, Y), 0, 0) (fun _ => rfl) ?_
              refine yi_D_iinc [(6, .inl (y6 + 1)), (8, .inl op), (7, .inl kd), (5, .inl y5), (0, .inr (.inr (some 44))), (1, .inr (.inr (some P))), (2, .inl be), (3, .inl af), (4, .inl to)] rfl rfl rfl (by rw [show yi_w (y6 + 1) = y6 + 1 from (yi_wn (by omega) (by omega)).trans (by omega)]; rfl) ?_
              refine yi_D_run 1 (6, [(6, .inl (y6 + 1)), (8, .inl op), (7, .inl kd), (5, .inl y5), (0, .inr (.inr (some 44))), (1, .inr (.inr (some P))), (2, .inl be), (3, .inl af), (4, .inl to)], [], (I18, L, R, Y), 0, 0) (fun _ => rfl) ?_
              refine yi_D_al (al := [(6, .inl (y6 + 1)), (5, .inl y5), (0, .inr (.inr (some 44))), (1, .inr (.inr (some P))), (2, .inl be), (3, .inl af), (4, .inl to), (7, .inl kd), (8, .inl op)]) (show ([6, 5, 0, 1, 2, 3, 4, 7, 8] : List Nat).Nodup by decide) (show ([6, 8, 7, 5, 0, 1, 2, 3, 4] : List Nat).Nodup by decide) (yi_mc (List.mem_of_getElem? (i := 0) rfl) (yi_mc (List.mem_of_getElem? (i := 8) rfl) (yi_mc (List.mem_of_getElem? (i := 7) rfl) (yi_mc (List.mem_of_getElem? (i := 1) rfl) (yi_mc (List.mem_of_getElem? (i := 2) rfl) (yi_mc (List.mem_of_getElem? (i := 3) rfl) (yi_mc (List.mem_of_getElem? (i := 4) rfl) (yi_mc (List.mem_of_getElem? (i := 5) rfl) (yi_mc (List.mem_of_getElem? (i := 6) rfl) yi_mn))))))))) ?_
              exact yi_D_mono (ih6 (by omega) (y6 + 1) y5 kd op I18 h (by omega) (by omega) (by rw [show (y6 + 1).toNat = y6.toNat + 1 by omega, e2, if_pos (by omega)]; exact svI_not hs e1 (by rw [← w19, show (y5 - 1).toNat = h - 1 by omega, yi_u_eq]) (fun j hj => by rw [← w19, yi_u_ne _ _ (fun z => hj (by have := z.2; omega))])) (fun q k hq => by rw [← w19, yi_u_ne _ _ (fun z => hq z.1)]; exact hJ q k hq)) (by omega)
            · refine yi_D_if1 true rfl (yi_ne_t h17) ?_
              refine yi_D_run 1 (125, [(8, .inl op), (7, .inl kd), (6, .inl y6), (5, .inl y5), (0, .inr (.inr (some 44))), (1, .inr (.inr (some P))), (2, .inl be), (3, .inl af), (4, .inl to)], [.inl 0, .inl (y5 - 1), .inr (.inr (some 45))], (J1, L, R, Y), 0, 0) (fun _ => rfl) ?_
              refine yi_D_is rfl (fun _ _ => ?_)
              generalize w21 : yi_u J1 45 ((y5 - 1).toNat) 0 = I20
              refine yi_D_run 1 (170, [(8, .inl op), (7, .inl kd), (6, .inl y6), (5, .inl y5), (0, .inr (.inr (some 44))), (1, .inr (.inr (some P))), (2, .inl be), (3, .inl af), (4, .inl to)], [], (I20, L, R, Y), 0, 0) (fun _ => rfl) ?_
              refine yi_D_iinc [(6, .inl (y6 + 1)), (8, .inl op), (7, .inl kd), (5, .inl y5), (0, .inr (.inr (some 44))), (1, .inr (.inr (some P))), (2, .inl be), (3, .inl af), (4, .inl to)] rfl rfl rfl (by rw [show yi_w (y6 + 1) = y6 + 1 from (yi_wn (by omega) (by omega)).trans (by omega)]; rfl) ?_
              refine yi_D_run 1 (6, [(6, .inl (y6 + 1)), (8, .inl op), (7, .inl kd), (5, .inl y5), (0, .inr (.inr (some 44))), (1, .inr (.inr (some P))), (2, .inl be), (3, .inl af), (4, .inl to)], [], (I20, L, R, Y), 0, 0) (fun _ => rfl) ?_
              refine yi_D_al (al := [(6, .inl (y6 + 1)), (5, .inl y5), (0, .inr (.inr (some 44))), (1, .inr (.inr (some P))), (2, .inl be), (3, .inl af), (4, .inl to), (7, .inl kd), (8, .inl op)]) (show ([6, 5, 0, 1, 2, 3, 4, 7, 8] : List Nat).Nodup by decide) (show ([6, 8, 7, 5, 0, 1, 2, 3, 4] : List Nat).Nodup by decide) (yi_mc (List.mem_of_getElem? (i := 0) rfl) (yi_mc (List.mem_of_getElem? (i := 8) rfl) (yi_mc (List.mem_of_getElem? (i := 7) rfl) (yi_mc (List.mem_of_getElem? (i := 1) rfl) (yi_mc (List.mem_of_getElem? (i := 2) rfl) (yi_mc (List.mem_of_getElem? (i := 3) rfl) (yi_mc (List.mem_of_getElem? (i := 4) rfl) (yi_mc (List.mem_of_getElem? (i := 5) rfl) (yi_mc (List.mem_of_getElem? (i := 6) rfl) yi_mn))))))))) ?_
              exact yi_D_mono (ih6 (by omega) (y6 + 1) y5 kd op I20 h (by omega) (by omega) (by rw [show (y6 + 1).toNat = y6.toNat + 1 by omega, e2, if_neg (by omega)]; exact svI_not hs e1 (by rw [← w21, show (y5 - 1).toNat = h - 1 by omega, yi_u_eq]) (fun j hj => by rw [← w21, yi_u_ne _ _ (fun z => hj (by have := z.2; omega))])) (fun q k hq => by rw [← w21, yi_u_ne _ _ (fun z => hq z.1)]; exact hJ q k hq)) (by omega)
          · refine yi_D_if2 true rfl (yi_ne_t h15) ?_
            obtain ⟨b0, a0, r0, e1, e2⟩ := stp_b hst (by omega) (by omega) (by omega) (by omega)
            have ht0 := svI_top hs e1
            have ht1 := svI_sec hs e1
            have htb : J1 45 (y5 - 1).toNat = b0 := by rw [show (y5 - 1).toNat = h - 1 by omega]; exact ht0.2
            have hta : J1 45 (y5 - 2).toNat = a0 := by rw [show (y5 - 2).toNat = h - 2 by omega]; exact ht1.2
            refine yi_D_run 2 (132, [(8, .inl op), (7, .inl kd), (6, .inl y6), (5, .inl y5), (0, .inr (.inr (some 44))), (1, .inr (.inr (some P))), (2, .inl be), (3, .inl af), (4, .inl to)], [.inl 2, .inl y5], (J1, L, R, Y), 0, 0) (fun _ => rfl) ?_
            have h22 : ¬ (y5 < 2) := by omega
            refine yi_D_if2 false rfl (yi_lt_f h22) ?_
            refine yi_D_run 1 (136, [(8, .inl op), (7, .inl kd), (6, .inl y6), (5, .inl y5), (0, .inr (.inr (some 44))), (1, .inr (.inr (some P))), (2, .inl be), (3, .inl af), (4, .inl to)], [.inr (.inr (some 44))], (J1, L, R, Y), 0, 0) (fun _ => rfl) ?_
            refine yi_D_gr (v := some 45) rfl rfl rfl (at_r hA (j := 30) rfl) (fun _ => ?_)
            refine yi_D_run 2 (142, [(8, .inl op), (7, .inl kd), (6, .inl y6), (5, .inl y5), (0, .inr (.inr (some 44))), (1, .inr (.inr (some P))), (2, .inl be), (3, .inl af), (4, .inl to)], [.inl 2, .inl y5, .inr (.inr (some 45))], (J1, L, R, Y), 0, 0) (fun _ => rfl) ?_
            refine yi_D_isub rfl (y5 - 2) (yi_wn (by omega) (by omega)) ?_
            refine yi_D_run 2 (146, [(8, .inl op), (7, .inl kd), (6, .inl y6), (5, .inl y5), (0, .inr (.inr (some 44))), (1, .inr (.inr (some P))), (2, .inl be), (3, .inl af), (4, .inl to)], [.inr (.inr (some 44)), .inl kd, .inl (y5 - 2), .inr (.inr (some 45))], (J1, L, R, Y), 0, 0) (fun _ => rfl) ?_
            refine yi_D_gr (v := some 45) rfl rfl rfl (at_r hA (j := 30) rfl) (fun _ => ?_)
            refine yi_D_run 2 (152, [(8, .inl op), (7, .inl kd), (6, .inl y6), (5, .inl y5), (0, .inr (.inr (some 44))), (1, .inr (.inr (some P))), (2, .inl be), (3, .inl af), (4, .inl to)], [.inl 2, .inl y5, .inr (.inr (some 45)), .inl kd, .inl (y5 - 2), .inr (.inr (some 45))], (J1, L, R, Y), 0, 0) (fun _ => rfl) ?_
            refine yi_D_isub rfl (y5 - 2) (yi_wn (by omega) (by omega)) ?_
            refine yi_D_il (v := a0) rfl rfl hta (fun _ _ => ?_)
            refine yi_D_run 1 (155, [(8, .inl op), (7, .inl kd), (6, .inl y6), (5, .inl y5), (0, .inr (.inr (some 44))), (1, .inr (.inr (some P))), (2, .inl be), (3, .inl af), (4, .inl to)], [.inr (.inr (some 44)), .inl a0, .inl kd, .inl (y5 - 2), .inr (.inr (some 45))], (J1, L, R, Y), 0, 0) (fun _ => rfl) ?_
            refine yi_D_gr (v := some 45) rfl rfl rfl (at_r hA (j := 30) rfl) (fun _ => ?_)
            refine yi_D_run 2 (161, [(8, .inl op), (7, .inl kd), (6, .inl y6), (5, .inl y5), (0, .inr (.inr (some 44))), (1, .inr (.inr (some P))), (2, .inl be), (3, .inl af), (4, .inl to)], [.inl 1, .inl y5, .inr (.inr (some 45)), .inl a0, .inl kd, .inl (y5 - 2), .inr (.inr (some 45))], (J1, L, R, Y), 0, 0) (fun _ => rfl) ?_
            refine yi_D_isub rfl (y5 - 1) (yi_wn (by omega) (by omega)) ?_
            refine yi_D_il (v := b0) rfl rfl htb (fun _ _ => ?_)
            refine yi_D_calls rfl (p_joined (c := (xs y6.toNat).1) (by omega)) ?_
            rintro _ rfl
            show yi_D zi_Ms d zi_m245 j6 (166, [(8, .inl op), (7, .inl kd), (6, .inl y6), (5, .inl y5), (0, .inr (.inr (some 44))), (1, .inr (.inr (some P))), (2, .inl be), (3, .inl af), (4, .inl to)], [.inl (bo (xs y6.toNat).1 a0 b0), .inl (y5 - 2), .inr (.inr (some 45))], (J1, L, R, Y), 0, 0) _
            refine yi_D_is rfl (fun _ _ => ?_)
            generalize w24 : yi_u J1 45 ((y5 - 2).toNat) (bo (xs y6.toNat).1 a0 b0) = I23
            refine yi_D_iinc [(5, .inl (y5 - 1)), (8, .inl op), (7, .inl kd), (6, .inl y6), (0, .inr (.inr (some 44))), (1, .inr (.inr (some P))), (2, .inl be), (3, .inl af), (4, .inl to)] rfl rfl rfl (by rw [show yi_w (y5 + (-1)) = y5 - 1 from (yi_wn (by omega) (by omega)).trans (by omega)]; rfl) ?_
            refine yi_D_iinc [(6, .inl (y6 + 1)), (5, .inl (y5 - 1)), (8, .inl op), (7, .inl kd), (0, .inr (.inr (some 44))), (1, .inr (.inr (some P))), (2, .inl be), (3, .inl af), (4, .inl to)] rfl rfl rfl (by rw [show yi_w (y6 + 1) = y6 + 1 from (yi_wn (by omega) (by omega)).trans (by omega)]; rfl) ?_
            refine yi_D_run 1 (6, [(6, .inl (y6 + 1)), (5, .inl (y5 - 1)), (8, .inl op), (7, .inl kd), (0, .inr (.inr (some 44))), (1, .inr (.inr (some P))), (2, .inl be), (3, .inl af), (4, .inl to)], [], (I23, L, R, Y), 0, 0) (fun _ => rfl) ?_
            refine yi_D_al (al := [(6, .inl (y6 + 1)), (5, .inl (y5 - 1)), (0, .inr (.inr (some 44))), (1, .inr (.inr (some P))), (2, .inl be), (3, .inl af), (4, .inl to), (7, .inl kd), (8, .inl op)]) (show ([6, 5, 0, 1, 2, 3, 4, 7, 8] : List Nat).Nodup by decide) (show ([6, 5, 8, 7, 0, 1, 2, 3, 4] : List Nat).Nodup by decide) (yi_mc (List.mem_of_getElem? (i := 0) rfl) (yi_mc (List.mem_of_getElem? (i := 1) rfl) (yi_mc (List.mem_of_getElem? (i := 8) rfl) (yi_mc (List.mem_of_getElem? (i := 7) rfl) (yi_mc (List.mem_of_getElem? (i := 2) rfl) (yi_mc (List.mem_of_getElem? (i := 3) rfl) (yi_mc (List.mem_of_getElem? (i := 4) rfl) (yi_mc (List.mem_of_getElem? (i := 5) rfl) (yi_mc (List.mem_of_getElem? (i := 6) rfl) yi_mn))))))))) ?_
            exact yi_D_mono (ih6 (by omega) (y6 + 1) (y5 - 1) kd op I23 (h - 1) (by omega) (by omega) (by rw [show (y6 + 1).toNat = y6.toNat + 1 by omega, e2]; exact svI_two hs e1 (by rw [← w24, show (y5 - 2).toNat = h - 2 by omega, yi_u_eq]) (fun j hj => by rw [← w24, yi_u_ne _ _ (fun z => hj (by have := z.2; omega))])) (fun q k hq => by rw [← w24, yi_u_ne _ _ (fun z => hq z.1)]; exact hJ q k hq)) (by omega)
  refine yi_D_al (al := [(6, .inl 0), (5, .inl 0), (0, .inr (.inr (some 44))), (1, .inr (.inr (some P))), (2, .inl be), (3, .inl af), (4, .inl to), (7, .inl 0), (8, .inl 0)]) (show ([6, 5, 0, 1, 2, 3, 4, 7, 8] : List Nat).Nodup by decide) (show ([6, 5, 0, 1, 2, 3, 4] : List Nat).Nodup by decide) (yi_mc (List.mem_of_getElem? (i := 0) rfl) (yi_mc (List.mem_of_getElem? (i := 1) rfl) (yi_mc (List.mem_of_getElem? (i := 2) rfl) (yi_mc (List.mem_of_getElem? (i := 3) rfl) (yi_mc (List.mem_of_getElem? (i := 4) rfl) (yi_mc (List.mem_of_getElem? (i := 5) rfl) (yi_mc (List.mem_of_getElem? (i := 6) rfl) yi_mn))))))) ?_
  exact pt6 k (Nat.le_refl _) 0 0 0 0 I 0 (by omega) (by omega) (by rw [show (0 : Int).toNat = 0 from rfl, hsk.1]; exact ⟨rfl, fun j hj => absurd hj (by omega)⟩) (fun _ _ _ => rfl)
