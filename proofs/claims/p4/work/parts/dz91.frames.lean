/-! The class: what reading a text and solving it into the scratch row leave of its state. -/
theorem qs_n {R : Nat → Nat → Option Nat} {x : Nat} (h : ¬ qs_S R x) : (x < 11 ∨ 19 < x) ∧ (¬ x = 41 ∧ ¬ x = 43 ∧ ¬ x = 45 ∧ ¬ x = 60 ∧ ¬ x = 62) ∧ ¬ R 60 0 = some x ∧ ¬ R 62 0 = some x ∧ ¬ R 41 0 = some x := by
  unfold qs_S at h
  refine ⟨?_, ⟨?_, ?_, ?_, ?_, ?_⟩, fun e => h (Or.inr (Or.inr (Or.inl e))), fun e => h (Or.inr (Or.inr (Or.inr (Or.inl e)))), fun e => h (Or.inr (Or.inr (Or.inr (Or.inr (Or.inl e)))))⟩
  · by_cases c : x < 11 ∨ 19 < x
    · exact c
    · exact absurd (Or.inl (by omega)) h
  · exact fun e => h (Or.inr (Or.inl (by omega)))
  · exact fun e => h (Or.inr (Or.inl (by omega)))
  · exact fun e => h (Or.inr (Or.inl (by omega)))
  · exact fun e => h (Or.inr (Or.inl (by omega)))
  · exact fun e => h (Or.inr (Or.inl (by omega)))
def tf_I (x k : Nat) : Prop := x = 11 ∨ x = 12 ∨ x = 14 ∨ x = 15 ∨ x = 19 ∨ x = 45 ∨ (x = 60 ∧ k = 1)
def tf_L (R : Nat → Nat → Option Nat) (x : Nat) : Prop := x = 11 ∨ x = 16 ∨ x = 43 ∨ R 60 0 = some x
def tf_R (x k : Nat) : Prop := (x = 11 ∧ k = 6) ∨ (x = 60 ∧ k = 0)
def tf_F (I L : Nat → Nat → Int) (R : Nat → Nat → Option Nat) (Y : (Nat → Nat) × (Nat → Nat) × Nat) (I' L' : Nat → Nat → Int) (R' : Nat → Nat → Option Nat) (Y' : (Nat → Nat) × (Nat → Nat) × Nat) : Prop := (∀ x k, x < Y.2.2 → ¬ tf_I x k → I' x k = I x k) ∧ (∀ x k, x < Y.2.2 → ¬ tf_L R x → L' x k = L x k) ∧ (∀ x k, x < Y.2.2 → ¬ tf_R x k → R' x k = R x k) ∧ Y.2.2 ≤ Y'.2.2 ∧ ∀ x, x < Y.2.2 → Y'.1 x = Y.1 x ∧ Y'.2.1 x = Y.2.1 x
section CFR
variable {I L I' L' : Nat → Nat → Int} {R R' : Nat → Nat → Option Nat} {Y Y' : (Nat → Nat) × (Nat → Nat) × Nat} {pf pf' : Nat → Bool} {n da pe ev pr q c p u d x : Nat} {S : ss_T} {A l : ss_R} {W : Nat → ss_R} {U : Nat → ss_T} {M : Nat → Option (ss_T × Option ss_R)} {aq : Option ss_R}
/-- the state stays -/
theorem ca_fr (hW : ca_W I L R Y pf n da pe ev q A W) (hL : ca_L I L R Y pf n c l) (h50 : sc_S I L R Y pf n da pe pr 50 S) (hP : ck_P I L R Y pf n da pe pr u U M) (ha : sa_A I L R Y pf n 50 aq) (hpx : ∀ x, pf x = true → ¬ qs_S R x) (hc : ¬ c = 16 ∧ ¬ c = 43 ∧ ¬ R 60 0 = some c) (hq : 58 ≤ q) (hF : tf_F I L R Y I' L' R' Y') : pf_K I L R Y pf I' L' R' Y' pf ∧ ca_W I' L' R' Y' pf n da pe ev q A W ∧ ca_L I' L' R' Y' pf n c l ∧ sc_S I' L' R' Y' pf n da pe pr 50 S ∧ ck_P I' L' R' Y' pf n da pe pr u U M ∧ sa_A I' L' R' Y' pf n 50 aq := by
  obtain ⟨fI, fL, fR, fN, fY⟩ := hF
  have hA := hW.1.1
  have hpf := hW.1.2
  have hn := hA.2.2.2
  have hK : pf_K I L R Y pf I' L' R' Y' pf := by
    refine ⟨fun x k hx => ?_, fun _ h => h, fN, fY⟩
    have z := (hpf x hx).2.1
    obtain ⟨q1, q2, q3, -⟩ := qs_n (hpx x hx)
    refine ⟨fI x k z (fun h => ?_), fL x k z (fun h => ?_), fR x k z (fun h => ?_)⟩
    · unfold tf_I at h; omega
    · unfold tf_L at h
      rcases h with h | h | h | h
      · omega
      · omega
      · omega
      · exact q3 h
    · unfold tf_R at h; omega
  obtain ⟨-, ⟨b1, b2, b3, b4, -⟩, -⟩ := id hW
  have nI : ∀ x k, (x = 10 ∨ (50 ≤ x ∧ x ≤ 58) ∨ 110 ≤ x) → x < Y.2.2 → I' x k = I x k := fun x k h1 h2 => fI x k h2 (fun h => by unfold tf_I at h; omega)
  have nR : ∀ x k, (x = 10 ∨ (34 ≤ x ∧ x ≤ 58) ∨ 110 ≤ x) → x < Y.2.2 → R' x k = R x k := fun x k h1 h2 => fR x k h2 (fun h => by unfold tf_R at h; omega)
  have nq : ¬ q = 60 := fun e => by
    have k60 : Y.1 60 = 5 := at_k hA (j := 12) rfl
    rw [e] at b4
    omega
  have rg : ∀ p, (p = 50 ∨ 110 ≤ p) → sy_T R Y p → ∀ x k, p ≤ x → x ≤ p + 5 → I' x k = I x k ∧ R' x k = R x k := fun p hp0 hp x k h1 h2 => by
    have hx : x < Y.2.2 := by have := hp.1.2.1; omega
    exact ⟨nI x k (by omega) hx, nR x k (by omega) hx⟩
  obtain ⟨⟨ps, g1, g2, g3, g4, g5⟩, m1, m2⟩ := hP
  have hWn := ca_W_t hW hK (fun x hx => (by
    have b : ∀ x ∈ at_L, x.1 < 110 ∧ ¬ (x.1 = 11 ∧ x.2.1 = 6) ∧ ¬ (x.1 = 60 ∧ x.2.1 = 0) := by decide
    have := b x hx
    exact fR _ _ (by omega) (fun h => by unfold tf_R at h; omega))) (nR 10 16 (by omega) (by omega)) (fun k => fI q k b3 (fun h => by unfold tf_I at h; omega)) (fun k => nR 39 k (by omega) (by omega))
  obtain ⟨hc1, hc2, hc3⟩ := hL
  have k58 : Y.1 58 = 5 := at_k hA (j := 11) rfl
  have hcN := hc1.1.2.2.2.1
  have hck := hc1.1.2.2.2.2.2
  have k11 : Y.1 11 = 1 := at_k hA (j := 1) rfl
  refine ⟨hK, hWn, ⟨rw_S_t hc1 (nI 58 1 (by omega) (by omega)) (nR 58 0 (by omega) (by omega)) fN fY, fun k hk => ?_, hc3⟩, sc_S_t h50 hK (rg 50 (Or.inl rfl) h50.1), ⟨⟨ps, (nI 10 17 (by omega) (by omega)).trans g1, g2, (nI 10 18 (by omega) (by omega)).trans g3, g4, fun j hj => ?_⟩, fun i hi p hp => ?_, fun m hm => ?_⟩, sa_A_t ha hK (nR 50 5 (by omega) (by omega))⟩
  · rw [fL c k hcN (fun h => by
      unfold tf_L at h
      rcases h with h | h | h | h
      · rw [h] at hck; omega
      · exact hc.1 h
      · exact hc.2.1 h
      · exact hc.2.2 h)]
    exact hc2 k hk
  · obtain ⟨p, p1, p2⟩ := g5 j hj
    have z := (m1 ((ps + j) % 16) (Nat.mod_lt _ (by omega)) p p1).2.1
    exact ⟨p, (nR 56 _ (by omega) (by omega)).trans p1, sc_S_t p2 hK (rg p (Or.inr z) p2.1)⟩
  · rw [nR 56 i (by omega) (by omega)] at hp
    have z := m1 i hi p hp
    exact ⟨sy_T_t z.1 (fun k _ => (rg p (Or.inr z.2.1) z.1 p k (by omega) (by omega)).2) fN fY, z.2.1, fun i' hi' h' => z.2.2.1 i' hi' (by rw [nR 56 i' (by omega) (by omega)] at h'; exact h'), fun m hm h' => z.2.2.2 m hm (by rw [nR 57 m (by omega) (by omega)] at h'; exact h')⟩
  · rcases m2 m hm with ⟨z1, z2⟩ | ⟨p, Sm, am, z1, z2, z3, z4, z5, z6⟩
    · exact Or.inl ⟨z1, (nR 57 m (by omega) (by omega)).trans z2⟩
    · exact Or.inr ⟨p, Sm, am, z1, (nR 57 m (by omega) (by omega)).trans z2, z3, sc_S_t z4 hK (rg p (Or.inr z3) z4.1), sa_A_t z5 hK (rg p (Or.inr z3) z4.1 p 5 (by omega) (by omega)).2, fun m' hm' h' => z6 m' hm' (by rw [nR 57 m' (by omega) (by omega)] at h'; exact h')⟩
/-- more that stays -/
theorem fr_S_m {f : Nat} {r : ss_R} (h : fr_S I L R Y pf n f r) (hm : ∀ x, pf x = true → pf' x = true) : fr_S I L R Y pf' n f r := by
  obtain ⟨c, h1, h2, h3, h4⟩ := h
  exact ⟨c, h1, h2, hm _ h3, hm _ h4⟩
theorem sc_S_m (h : sc_S I L R Y pf n da pe pr p S) (hm : ∀ x, pf x = true → pf' x = true) : sc_S I L R Y pf' n da pe pr p S := by
  obtain ⟨h1, h2, h3, h4, h5, h6⟩ := h
  refine ⟨h1, h2, h3, fun i hi => ?_, h5, h6⟩
  obtain ⟨y, y1, ⟨z1, z2, z3, z4⟩, z5, f, z6, z7⟩ := h4 i hi
  exact ⟨y, y1, ⟨z1, z2, z3, hm _ z4⟩, z5, f, z6, fr_S_m z7 hm⟩
theorem sa_A_m (h : sa_A I L R Y pf n p aq) (hm : ∀ x, pf x = true → pf' x = true) : sa_A I L R Y pf' n p aq := by
  rcases h with h | ⟨r, f, h1, h2, h3⟩
  · exact Or.inl h
  · exact Or.inr ⟨r, f, h1, h2, fr_S_m h3 hm⟩
theorem ck_P_m (h : ck_P I L R Y pf n da pe pr u U M) (hm : ∀ x, pf x = true → pf' x = true) : ck_P I L R Y pf' n da pe pr u U M := by
  obtain ⟨⟨ps, g1, g2, g3, g4, g5⟩, m1, m2⟩ := h
  refine ⟨⟨ps, g1, g2, g3, g4, fun j hj => ?_⟩, m1, fun m hm' => ?_⟩
  · obtain ⟨p, p1, p2⟩ := g5 j hj
    exact ⟨p, p1, sc_S_m p2 hm⟩
  · rcases m2 m hm' with z | ⟨p, Sm, am, z1, z2, z3, z4, z5, z6⟩
    · exact Or.inl z
    · exact Or.inr ⟨p, Sm, am, z1, z2, z3, sc_S_m z4 hm, sa_A_m z5 hm, z6⟩
theorem ca_W_m (h : ca_W I L R Y pf n da pe ev q A W) (hm : ∀ x, pf x = true → pf' x = true) (hT : pf_T pf' Y) (h58 : pf' 58 = false ∧ pf' 60 = false) : ca_W I L R Y pf' n da pe ev q A W := by
  obtain ⟨⟨a1, a2⟩, b, c, e, f, g⟩ := h
  exact ⟨⟨a1, hT⟩, b, c, fr_S_m e hm, fun d x e hd hx he => (f d x e hd hx he).imp (fun z ⟨z1, z2⟩ => ⟨z1, fr_S_m z2 hm⟩), h58⟩
end CFR
/-- a text's programme, solved into the scratch row -/
theorem p_solve60 {d : Nat} {I L : Nat → Nat → Int} {R : Nat → Nat → Option Nat} {Y : (Nat → Nat) × (Nat → Nat) × Nat} {pf : Nat → Bool} {n T da pe ev q m : Nat} {A : ss_R} {W : Nat → ss_R} {v : Nat → Bool} {to : Int} (hW : ca_W I L R Y pf n da pe ev q A W) (hK : cz_K R Y) (hy : wy_S R Y) (h34 : I 34 2 = (T : Int) ∧ I 34 7 = (da : Int) ∧ I 34 8 = (pe : Int) ∧ I 34 9 = (n : Int)) (hn : n = (T + 63) / 64 ∧ 1 ≤ T ∧ T ≤ 32768) (hb : bw_W W n T da pe ev) (hto : to = (m : Int)) (hm : m ≤ 1002) (h60 : ∃ c, R 60 0 = some c) (hcd : ∀ k, k < m → I 19 k = (((I 19 k).toNat : Nat) : Int)) (hS : prg_S (fun k => (I 19 k).toNat) n T da pe ev 0 m v) : yi_P zi_Ms d 309 [.inr (.inr (some 34)), .inr (.inr (some 19)), .inl 0, .inl to, .inr (.inr (some 60))] (I, L, R, Y) (fun r => ∃ I' L' R' Y' nc ns c c', r = (none, (I', L', R', Y'), nc, ns) ∧ R 60 0 = some c ∧ rz_H I R Y I' R' Y' 60 n c c' ∧ (∀ f, f < 64 * n → rbc L' c' f = (decide (f < T) && v f)) ∧ rkc L' c' n ∧ (∀ q k, q < Y.2.2 → ¬ q = c' → ¬ q = 43 → L' q k = L q k)) := by
  have hA := hW.1.1
  have hN := hA.2.2.2
  have k60 : Y.1 60 = 5 := at_k hA (j := 12) rfl
  obtain ⟨-, -, ⟨bld, hn1⟩, -, hwd, -, p60⟩ := id hW
  subst hto
  obtain ⟨c, hc0⟩ := h60
  have kc := cz_Kj hK (by omega) k60 hc0
  have hwd2 : wd_C I L R Y n da pe ev W 60 c := fun d x e hd hx he => by
    obtain ⟨f, e1, cf, e2, e3, e4, e5⟩ := hwd d x e hd hx he
    have hne : ¬ f = 60 := fun z => by rw [z, p60] at e4; cases e4
    exact ⟨f, cf, e1, e2, e3, hne, fun z => hne (kc.2.2 f e2.1.2.2.1 e2.1.2.2.2.2.1 (by rw [e2.2.1, z]))⟩
  obtain ⟨hco, hsk0⟩ := hS
  obtain ⟨sk, hsk, hv⟩ := hsk0 W hb
  have h43 : ∀ i pw cw, i < 96 → R 39 i = some pw → R pw 0 = some cw → ¬ cw = 43 := fun i pw cw hi e1 e2 e3 => by
    have z := (hy.1 i pw hi e1).1
    have y := (cz_Kj hK z.2.1 z.2.2 e2).1
    omega
  have l19 : Y.2.1 19 = 1002 := at_n hA (j := 6) rfl
  have z := p_solve (d := d) (I := I) (L := L) hA (W := W) (cd := fun k => (I 19 k).toNat) (sk := sk) (fr := 0) (m := m) (Q := 19) h34.1 h34.2.2.2 ⟨hn.1, hn.2.1, by omega⟩ ⟨h34.2.1, h34.2.2.1⟩ bld ⟨by omega, by omega, k60⟩ hc0 ⟨by omega, kc.2.1.2.2, kc.2.1.2.1, kc.2.1.1, by omega⟩ hwd2 h43 ⟨by omega, by omega, by omega, by omega, by omega⟩ (fun k hk => by rw [Nat.zero_add]; exact hcd k hk) (fun k hk => by have z := hco k hk; rw [Nat.zero_add] at z; exact z) (fun z hz i hi => by
    obtain ⟨s1, s2⟩ := hsk z hz i hi
    refine ⟨s1, fun k hk => ?_⟩
    have y := s2 k hk
    rw [Nat.zero_add] at y
    exact y)
  rw [Nat.zero_add] at z
  refine z.imp (fun r ⟨I', L', R', Y', nc, ns, c', e1, hz, hbit, hk, hL, hB⟩ => ⟨I', L', R', Y', nc, ns, c, c', e1, hc0, hz, fun f hf => ?_, hk, hL⟩)
  rw [hbit f hf]
  by_cases cx : f < T
  · rw [hv f cx]
  · rw [decide_eq_false cx, Bool.false_and, Bool.false_and]
