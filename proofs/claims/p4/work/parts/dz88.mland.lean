/-! The check's land as later calls find it, codes and all. -/
theorem tw_get {p : Int × Int → Bool} {d : Int × Int} : ∀ (l : List (Int × Int)) (k : Nat), k < (l.takeWhile p).length → l.getD k d = (l.takeWhile p).getD k d
  | [], k, h => absurd h (Nat.not_lt_zero k)
  | a :: l, k, h => by
    by_cases c : p a = true
    · have e : (a :: l).takeWhile p = a :: l.takeWhile p := by rw [List.takeWhile_cons, if_pos c]
      rw [e] at h ⊢
      cases k with
      | zero => rfl
      | succ k => exact tw_get l k (Nat.lt_of_succ_lt_succ h)
    · have e : (a :: l).takeWhile p = [] := by rw [List.takeWhile_cons, if_neg c]
      rw [e] at h
      exact absurd h (Nat.not_lt_zero k)
theorem tw_end {p : Int × Int → Bool} {d : Int × Int} : ∀ (l : List (Int × Int)), (l.takeWhile p).length < l.length → p (l.getD (l.takeWhile p).length d) = false
  | [], h => absurd h (Nat.lt_irrefl 0)
  | a :: l, h => by
    by_cases c : p a = true
    · have e : (a :: l).takeWhile p = a :: l.takeWhile p := by rw [List.takeWhile_cons, if_pos c]
      rw [e] at h ⊢
      exact tw_end l (Nat.lt_of_succ_lt_succ h)
    · have e : (a :: l).takeWhile p = [] := by rw [List.takeWhile_cons, if_neg c]
      rw [e]
      show p a = false
      cases z : p a with
      | true => exact absurd z c
      | false => rfl
theorem getD_drop (cs : List (Int × Int)) (s k : Nat) (d : Int × Int) : (cs.drop s).getD k d = cs.getD (s + k) d := by
  rw [List.getD_eq_getElem?_getD, List.getD_eq_getElem?_getD, List.getElem?_drop]
theorem sgm_get {cs : List (Int × Int)} {s k : Nat} (h : k < (sgm cs s).length) : cs.getD (s + k) (0, 0) = (sgm cs s).getD k (0, 0) := by
  rw [← getD_drop]
  exact tw_get _ k h
theorem sgm_end {cs : List (Int × Int)} {s : Nat} (h : sgC cs s) : (cs.getD (s + (sgm cs s).length) (0, 0)).1 = 0 := by
  have h' : s + (sgm cs s).length < cs.length := h
  rw [← getD_drop]
  have z := tw_end (p := fun c => !decide (c.1 = 0)) (d := (0, 0)) (cs.drop s) (by
    show (sgm cs s).length < (cs.drop s).length
    rw [List.length_drop]
    omega)
  have z : (!decide (((cs.drop s).getD (sgm cs s).length (0, 0)).1 = 0)) = false := z
  rw [Bool.not_eq_false'] at z
  exact of_decide_eq_true z
theorem sgm_mem {cs : List (Int × Int)} {s : Nat} (h : sgC cs s) : ∀ c ∈ sgm cs s, c ∈ cs := fun c hc => by
  have h' : s + (sgm cs s).length < cs.length := h
  obtain ⟨k, hk, e⟩ := List.getElem_of_mem hc
  have z := sgm_get (cs := cs) (s := s) hk
  rw [List.getD_eq_getElem?_getD (l := sgm cs s), List.getElem?_eq_getElem hk, e] at z
  have z : cs.getD (s + k) (0, 0) = c := z
  rw [← z]
  exact getD_mem (by omega)
def lk_V (cs : List (Int × Int)) (s : Int) : Prop := 0 ≤ s ∧ sgC cs s.toNat ∧ wfN 13 (sgm cs s.toNat) ∧ ∀ c ∈ sgm cs s.toNat, pF c
/-- the land's programmes -/
def lk_R (I : Nat → Nat → Int) (ld : Nat → Int) (cs : List (Int × Int)) : Prop := (∀ j : Nat, (j : Int) < ld 4 → I 88 (21 + j) = ld (21 + j) ∧ lk_V cs (ld (21 + j))) ∧ (∀ w : Nat, (w : Int) < ld 5 → (I 88 (25 + 3 * w) = ld (25 + 3 * w) ∧ I 88 (26 + 3 * w) = ld (26 + 3 * w) ∧ I 88 (27 + 3 * w) = ld (27 + 3 * w) ∧ 0 ≤ ld (25 + 3 * w) ∧ ld (25 + 3 * w) ≤ 4) ∧ lk_V cs (ld (27 + 3 * w))) ∧ ((I 88 6 < 0 ∧ ld 6 < 0) ∨ ((I 88 6 = ld 6 ∧ 0 ≤ ld 6) ∧ sgC cs (ld 6).toNat ∧ wfN 25 (sgm cs (ld 6).toNat) ∧ ∀ c ∈ sgm cs (ld 6).toNat, okP c)) ∧ cs.length ≤ 1000 ∧ ∀ k, k < cs.length → I 89 k = (cs.getD k (0, 0)).1 ∧ I 90 k = (cs.getD k (0, 0)).2
section LKS
variable {I J L : Nat → Nat → Int} {R : Nat → Nat → Option Nat} {Y : (Nat → Nat) × (Nat → Nat) × Nat} {ld : Nat → Int} {nm : Int → Int} {cs : List (Int × Int)} {gg : Nat → Int × Int}
theorem lk_t (h : lk_R I ld cs) (a : ∀ k : Nat, k < 50 → J 88 k = I 88 k) (b : ∀ k, k < 1100 → J 89 k = I 89 k ∧ J 90 k = I 90 k) (h5 : ld 4 ≤ 4 ∧ ld 5 ≤ 6) : lk_R J ld cs := by
  obtain ⟨h1, h2, h3, h4, h6⟩ := h
  refine ⟨fun j hj => ⟨(a _ (by omega)).trans (h1 j hj).1, (h1 j hj).2⟩, fun w hw => ?_, ?_, h4, fun k hk => ?_⟩
  · obtain ⟨⟨a1, a2, a3, a4⟩, b1⟩ := h2 w hw
    exact ⟨⟨(a _ (by omega)).trans a1, (a _ (by omega)).trans a2, (a _ (by omega)).trans a3, a4⟩, b1⟩
  · rw [a 6 (by omega)]
    exact h3
  · rw [(b k (by omega)).1, (b k (by omega)).2]
    exact h6 k hk
theorem lk_of (h : ml_S gg J ld cs) (e88 : ∀ k : Nat, k < 50 → I 88 k = J 88 (50 + k)) (h5 : ld 4 ≤ 4 ∧ ld 5 ≤ 6) (hl : cs.length ≤ 1000) (hc : ∀ k, k < cs.length → I 89 k = J 89 (1100 + k) ∧ I 90 k = J 90 (1100 + k)) : lk_R I ld cs := by
  obtain ⟨⟨-, hm, -⟩, h1, h2, h3⟩ := h
  refine ⟨fun j hj => ?_, fun w hw => ?_, ?_, hl, fun k hk => ?_⟩
  · obtain ⟨⟨a1, a2⟩, a3, a4, a5⟩ := h1 j hj
    rw [e88 _ (by omega), show 50 + (21 + j) = 71 + j by omega]
    exact ⟨a1, a2, a3, a4, a5⟩
  · obtain ⟨⟨a1, a2, a3, a4, a5⟩, b1, b2, b3⟩ := h2 w hw
    rw [e88 _ (by omega), e88 _ (by omega), e88 _ (by omega), show 50 + (25 + 3 * w) = 75 + 3 * w by omega, show 50 + (26 + 3 * w) = 76 + 3 * w by omega, show 50 + (27 + 3 * w) = 77 + 3 * w by omega]
    exact ⟨⟨a1, a2, a3, a5⟩, a4, b1, b2, b3⟩
  · rw [e88 6 (by omega)]
    exact h3
  · rw [(hc k hk).1, (hc k hk).2]
    exact hm k hk
/-- a programme's codes in the check -/
theorem lk_c (h : lk_R I ld cs) {s : Nat} (hs : sgC cs s) : (∀ k, k < (sgm cs s).length → I 89 (s + k) = ((sgm cs s).getD k (0, 0)).1 ∧ I 90 (s + k) = ((sgm cs s).getD k (0, 0)).2) ∧ I 89 (s + (sgm cs s).length) = 0 := by
  have hs' : s + (sgm cs s).length < cs.length := hs
  obtain ⟨-, -, -, -, h6⟩ := h
  refine ⟨fun k hk => ?_, ?_⟩
  · have z := h6 (s + k) (by omega)
    rw [sgm_get hk] at z
    exact z
  · rw [(h6 _ hs').1]
    exact sgm_end hs
/-- the rows of a land in the check -/
def lk_X (L : Nat → Nat → Int) (ld : Nat → Int) (cs : List (Int × Int)) (da pe ev m F n nl nw : Nat) : Prop := (∀ k e f, k < m → e < ev → f < 64 * n → rbt L (ev * k + e) f = (decide (f < F) && decide (dg ev m f k = e))) ∧ (∀ f, f < 64 * n → rbt L 32 f = (decide (f < F) && al (fun j => vB da pe ev 0 (sl ld cs j) f) nl)) ∧ (∀ w f, w < nw → f < 64 * n → rbt L (40 + w) f = (decide (f < F) && wB da pe ev (kw ld w) (sw ld cs w) f)) ∧ (∀ a, a ≤ 32 → rok L a n) ∧ (∀ w, w < nw → rok L (40 + w) n)
/-- what begins gives -/
def lk_B (I I' L' : Nat → Nat → Int) (L : Nat → Nat → Int) (m ev F n : Nat) : Prop := (I' 82 24 = (F : Int) ∧ I' 82 25 = (n : Int) ∧ I' 82 28 = 0 ∧ ∀ k, k < m → I' 98 k = ((ev ^ (m - 1 - k) : Nat) : Int)) ∧ (∀ k : Nat, k < 110 → I' 100 k = if k = 1 then 1 else if 3 ≤ k ∧ k < 8 then I 88 (12 + 2 * (k - 3)) else if 44 ≤ k ∧ k < 68 then -1 else 0) ∧ I' 82 30 = 0 ∧ (∀ m : Nat, m < 5 → I' 101 m = 0 ∧ I' 102 m = 0) ∧ (∀ p k, bn_pr p = true → I' p k = I p k ∧ L' p k = L p k) ∧ ∀ p k, bn_ps p k = true → I' p k = I p k
theorem al_cg {f g : Nat → Bool} : ∀ n, (∀ k, k < n → f k = g k) → al f n = al g n
  | 0, _ => rfl
  | n + 1, h => by
    show (al f n && f n) = (al g n && g n)
    rw [al_cg n (fun k hk => h k (by omega)), h n (by omega)]
theorem q_beginsK {d : Nat} (hS : ym_S (R, Y)) (hbn : bn_I R Y) (hN82 : 82 < Y.2.2) (hm : lm_R ld nm I L) (hk : lk_R I ld cs) (h28 : I 82 28 = 0) {a : Nat} (hok : sp_ok (2, a, 0, [], ld, nm, cs)) (hbg : sp_bg (2, a, 0, [], ld, nm, cs)) {da pe ev m F n nl nw : Nat} (h0 : ld 0 = (da : Int) ∧ ld 1 = (pe : Int) ∧ ld 2 = (ev : Int) ∧ ld 4 = (nl : Int) ∧ ld 5 = (nw : Int)) (hmm : m = mny da pe ev) (hF : F = ev ^ m) (hn : n = (F + 63) / 64) : yi_P zi_Ms d 4 [.inr (.inr (some 82))] (I, L, R, Y) (fun r => ∃ I' L', r = (none, (I', L', R, Y), 0, 0) ∧ lk_X L' ld cs da pe ev m F n nl nw ∧ lk_B I I' L' L m ev F n) := by
  obtain ⟨m1, m2, m3, m4, m5⟩ := hm
  obtain ⟨e0, e1, e2, e4, e5⟩ := h0
  have hk0 := hk
  obtain ⟨k1, k2, k3, k4, k5⟩ := hk
  have bld : da ≤ 6 ∧ pe ≤ 4 ∧ ev ≤ 4 := by omega
  have hF2 : F ≤ 32768 := by
    rw [hF, hmm]
    unfold mny
    by_cases c : ev = 0
    · rw [if_pos c]
      exact (by decide : 1 ≤ 32768)
    · rw [if_neg c]
      exact sp_bg_T hbg e0 e1 e2 (by omega)
  have hz : ∀ c ∈ cs, c.1 = 11 → okz da pe ev c.2 := by
    obtain ⟨⟨da', pe', ev', ⟨z0, z1, z2, -⟩, -, -, z⟩, -⟩ := hok
    have z0 : ld 0 = (da' : Int) := z0
    have z1 : ld 1 = (pe' : Int) := z1
    have z2 : ld 2 = (ev' : Int) := z2
    obtain rfl : da' = da := by omega
    obtain rfl : pe' = pe := by omega
    obtain rfl : ev' = ev := by omega
    exact z
  have pl : ∀ (s : Int) (ki vg : Int), (ki = 1 ↔ ¬ vg = 0) → lk_V cs s → pgF I pe ev da m F ki (fun j => I 95 j) s.toNat (sgm cs s.toNat).length (rnv (fun j => I 95 j) da pe ev vg (sgm cs s.toNat)) := fun s ki vg hki ⟨v1, v2, v3, v4⟩ => by
    have v2' : s.toNat + (sgm cs s.toNat).length < cs.length := v2
    obtain ⟨c1, c2⟩ := lk_c hk0 v2
    exact pgF_V hmm c1 c2 ⟨by omega, by omega⟩ v3 v4 (fun c hc => hz c (sgm_mem v2 c hc)) hki
  refine (q_begins (fa := fun j => I 95 j) (lf := fun j => (ld (21 + j)).toNat) (lN := fun j => (sl ld cs j).length) (lw := fun j => rnv (fun j => I 95 j) da pe ev 0 (sl ld cs j)) (wf := fun w => (ld (27 + 3 * w)).toNat) (wN := fun w => (sw ld cs w).length) (who := fun w => (ld (25 + 3 * w)).toNat) (ww := fun w => rnv (fun j => I 95 j) da pe ev (wvg (kw ld w)) (sw ld cs w)) (kd := fun w => kw ld w) hS ((m1 0 (by omega)).trans e0) ((m1 1 (by omega)).trans e1) ((m1 2 (by omega)).trans e2) bld hmm hF hF2 hn ((m1 4 (by omega)).trans e4) (by omega) ((m1 5 (by omega)).trans e5) (by omega) (fun j hj => ?_) (fun w hw => ?_) (fun w hw => ?_) (fun j _ => rfl) (fun j hj => ?_) (fun w hw => ?_) h28 hbn hN82).imp (fun r ⟨I', L', e, r1, r2, r3, r4, r5, r6, r7⟩ => ⟨I', L', e, ⟨r1, fun f hf => ?_, fun w f hw hf => ?_, r4, r5⟩, r6, r7⟩)
  · have z := k1 j (by omega)
    rw [z.1]
    have := z.2.1
    show ld (21 + j) = ((ld (21 + j)).toNat : Int)
    omega
  · have z := k2 w (by omega)
    rw [z.1.2.2.1]
    have := z.2.1
    show ld (27 + 3 * w) = ((ld (27 + 3 * w)).toNat : Int)
    omega
  · have z := (k2 w (by omega)).1
    refine ⟨?_, ?_, ?_⟩
    · rw [z.1]
      show ld (25 + 3 * w) = ((ld (25 + 3 * w)).toNat : Int)
      omega
    · show (ld (25 + 3 * w)).toNat ≤ 4
      omega
    · show I 88 (11 + 2 * (ld (25 + 3 * w)).toNat) = kw ld w
      unfold kw
      exact m3 _ (by omega) (by omega)
  · exact pl _ 0 0 (by decide) (k1 j (by omega)).2
  · refine pl _ (kw ld w) (wvg (kw ld w)) ?_ (k2 w (by omega)).2
    unfold wvg
    by_cases c : kw ld w = 1
    · rw [if_pos c]
      exact ⟨fun _ => by decide, fun _ => c⟩
    · rw [if_neg c]
      exact ⟨fun h => absurd h c, fun h => absurd rfl h⟩
  · rw [r2 f hf]
    refine congrArg _ (al_cg nl (fun j hj => ?_))
    have z := (k1 j (by omega)).2
    exact (vB_s z.2.2.1 z.2.2.2).symm
  · rw [r3 w f hw hf]
    have z := (k2 w (by omega)).2
    obtain ⟨c1, c2⟩ := lk_c hk0 z.2.1
    rw [show nmg I (ld (27 + 3 * w)).toNat (sw ld cs w).length = (sw ld cs w).any isnm from nmg_any c1, wB_v (fa := fun j => I 95 j) (x := sw ld cs w) z.2.2.1 z.2.2.2]
    generalize (decide (kw ld w = 4) && (sw ld cs w).any isnm) = b1
    generalize (decide (¬ rnv (fun j => I 95 j) da pe ev (wvg (kw ld w)) (sw ld cs w) f = 0) != decide (kw ld w = 2)) = b2
    generalize decide (f < F) = b3
    cases b1 <;> cases b2 <;> cases b3 <;> rfl
end LKS
/-- what a land that is refused leaves -/
def lk_F (I L I' L' : Nat → Nat → Int) : Prop := (∀ p k, ¬ (p = 82 ∧ ¬ (k = 18 ∨ k = 24 ∨ k = 25 ∨ k = 28 ∨ k = 30)) ∧ ¬ p = 84 ∧ ¬ p = 85 ∧ ¬ p = 94 ∧ ¬ (p = 88 ∧ 50 ≤ k) ∧ ¬ (p = 89 ∧ 1100 ≤ k) ∧ ¬ (p = 90 ∧ 1100 ≤ k) → I' p k = I p k) ∧ ∀ p k, ¬ p = 86 ∧ ¬ p = 92 → L' p k = L p k
/-- a land that stands -/
def lk_Z (I L : Nat → Nat → Int) (ld : Nat → Int) (nm : Int → Int) (cs : List (Int × Int)) : Prop := lm_R ld nm I L ∧ lk_R I ld cs ∧ ∃ da pe ev m F n nl nw : Nat, (ld 0 = (da : Int) ∧ ld 1 = (pe : Int) ∧ ld 2 = (ev : Int) ∧ ld 4 = (nl : Int) ∧ ld 5 = (nw : Int)) ∧ (m = mny da pe ev ∧ F = ev ^ m ∧ n = (F + 63) / 64) ∧ lk_X L ld cs da pe ev m F n nl nw ∧ (I 82 24 = (F : Int) ∧ I 82 25 = (n : Int) ∧ I 82 28 = 0 ∧ ∀ k, k < m → I 98 k = ((ev ^ (m - 1 - k) : Nat) : Int)) ∧ (∀ k : Nat, k < 110 → I 100 k = if k = 1 then 1 else if 3 ≤ k ∧ k < 8 then ld (12 + 2 * (k - 3)) else if 44 ≤ k ∧ k < 68 then -1 else 0) ∧ I 82 30 = 0 ∧ ∀ m : Nat, m < 5 → I 101 m = 0 ∧ I 102 m = 0
theorem lk_Z_b {I L I' L' : Nat → Nat → Int} {ld : Nat → Int} {nm : Int → Int} {cs : List (Int × Int)} {da pe ev m F n nl nw : Nat} (hm : lm_R ld nm I L) (hk : lk_R I ld cs) (h0 : ld 0 = (da : Int) ∧ ld 1 = (pe : Int) ∧ ld 2 = (ev : Int) ∧ ld 4 = (nl : Int) ∧ ld 5 = (nw : Int)) (hmm : m = mny da pe ev ∧ F = ev ^ m ∧ n = (F + 63) / 64) (hX : lk_X L' ld cs da pe ev m F n nl nw) (hB : lk_B I I' L' L m ev F n) : lk_Z I' L' ld nm cs := by
  obtain ⟨b1, b2, b3, b4, b5, b6⟩ := hB
  have m4 := hm.2.2.2.1
  refine ⟨lm_R_t hm (fun k _ => (b5 88 k rfl).1) (fun k => (b5 93 k rfl).1) (fun k => (b5 91 k rfl).2) (b6 82 18 rfl), lk_t hk (fun k _ => (b5 88 k rfl).1) (fun k _ => ⟨(b5 89 k rfl).1, (b5 90 k rfl).1⟩) ⟨m4.2.2.2.2.1.2, m4.2.2.2.2.2.2⟩, da, pe, ev, m, F, n, nl, nw, h0, hmm, hX, b1, fun k hk1 => ?_, b3, b4⟩
  rw [b2 k hk1]
  by_cases c : k = 1
  · rw [if_pos c, if_pos c]
  · rw [if_neg c, if_neg c]
    by_cases c2 : 3 ≤ k ∧ k < 8
    · rw [if_pos c2, if_pos c2]
      exact hm.2.2.1 _ (by omega) (by omega)
    · rw [if_neg c2, if_neg c2]
theorem q_landC {d : Nat} {I L : Nat → Nat → Int} {R : Nat → Nat → Option Nat} {Y : (Nat → Nat) × (Nat → Nat) × Nat} (hS : ym_S (R, Y)) (hbn : bn_I R Y) (hN82 : 82 < Y.2.2) (h28 : I 82 28 = 0) {s : Nat → Int} {n : Nat} (hn : n ≤ 1000) (h2 : I 82 2 = (n : Int)) (ht : ∀ i, i < n → I 83 i = s i) (hW : ∀ w : Nat, w < 32 → L 87 w = sp_W37.getD w 0) : yi_P zi_Ms d 72 [.inr (.inr (some 82))] (I, L, R, Y) (fun r => ∃ f I' L', r = (some (.inl f), (I', L', R, Y), 0, 0) ∧ sp_R (tk_Ks s n) (tk_Ps s n) (tk_Vs s n) (0, 0, 0, [], sp_ld0, sp_nm0, []) (.inr f) ∧ (¬ f = 0 → lk_F I L I' L') ∧ (f = 0 → ∃ a ld nm cs, sp_R (tk_Ks s n) (tk_Ps s n) (tk_Vs s n) (0, 0, 0, [], sp_ld0, sp_nm0, []) (.inl (2, a, 0, [], ld, nm, cs)) ∧ (tk_Ks s n) a = 0 ∧ lk_Z I' L' ld nm cs)) := by
  refine yi_P_of (M := zi_m72) rfl (fun d k => ?_)
  show yi_D zi_Ms d zi_m72 k (0, [(0, .inr (.inr (some 82)))], [], (I, L, R, Y), 0, 0) _
  refine yi_D_run 2 (2, [(0, .inr (.inr (some 82)))], [.inl 0, .inr (.inr (some 82))], (I, L, R, Y), 0, 0) (fun _ => rfl) ?_
  refine yi_D_pi rfl (fun _ => ?_)
  generalize w2 : yi_u I 82 0 0 = I1
  refine yi_D_run 1 (6, [(0, .inr (.inr (some 82)))], [.inr (.inr (some 82))], (I1, L, R, Y), 0, 0) (fun _ => rfl) ?_
  refine yi_D_callv rfl (q_cutAll (s := s) hS hn (by rw [← w2, yi_u_ne _ _ (by omega)]; exact h2) (fun i hi => by rw [← w2, yi_u_ne _ _ (by omega)]; exact ht i hi) hW) ?_
  rintro _ ⟨I3, L4, rfl, hT5, h6, h7, h8, fI9, fL10⟩
  generalize tk_Ks s n = K at hT5 ⊢
  generalize tk_Ps s n = P at hT5 ⊢
  generalize tk_Vs s n = V at hT5 ⊢
  generalize tk_te s n = te at hT5
  show yi_D zi_Ms d zi_m72 k (9, [(0, .inr (.inr (some 82)))], [], (I3, L4, R, Y), 0, 0) _
  refine yi_D_run 2 (11, [(0, .inr (.inr (some 82)))], [.inl 0, .inr (.inr (some 82))], (I3, L4, R, Y), 0, 0) (fun _ => rfl) ?_
  refine yi_D_pi rfl (fun _ => ?_)
  generalize w12 : yi_u I3 82 13 0 = I11
  refine yi_D_run 2 (16, [(0, .inr (.inr (some 82)))], [.inl 0, .inr (.inr (some 82))], (I11, L4, R, Y), 0, 0) (fun _ => rfl) ?_
  refine yi_D_pi rfl (fun _ => ?_)
  generalize w14 : yi_u I11 82 19 0 = I13
  refine yi_D_run 2 (22, [(0, .inr (.inr (some 82)))], [.inl 50, .inr (.inr (some 82))], (I13, L4, R, Y), 0, 0) (fun _ => rfl) ?_
  refine yi_D_pi rfl (fun _ => ?_)
  generalize w16 : yi_u I13 82 20 50 = I15
  refine yi_D_run 2 (28, [(0, .inr (.inr (some 82)))], [.inl 50, .inr (.inr (some 82))], (I15, L4, R, Y), 0, 0) (fun _ => rfl) ?_
  refine yi_D_callv rfl (q_stands hS) ?_
  rintro _ ⟨I17, rfl, fs18, hz19⟩
  have hW20 := mt_W_0 (I := I17) hS hT5 (fun k => by rw [fs18 84 k (by omega), ← w16, yi_u_ne _ _ (by omega), ← w14, yi_u_ne _ _ (by omega), ← w12, yi_u_ne _ _ (by omega)]) (fun k => by rw [fs18 85 k (by omega), ← w16, yi_u_ne _ _ (by omega), ← w14, yi_u_ne _ _ (by omega), ← w12, yi_u_ne _ _ (by omega)]) (by rw [fs18 82 13 (by omega), ← w16, yi_u_ne _ _ (by omega), ← w14, yi_u_ne _ _ (by omega), ← w12, yi_u_eq]) (by rw [fs18 82 19 (by omega), ← w16, yi_u_ne _ _ (by omega), ← w14, yi_u_eq]) (by rw [fs18 82 20 (by omega), ← w16, yi_u_eq]) hz19
  have hf21 : I17 82 8 = 0 := by rw [fs18 82 8 (by omega), ← w16, yi_u_ne _ _ (by omega), ← w14, yi_u_ne _ _ (by omega), ← w12, yi_u_ne _ _ (by omega), h7]
  have hA22 : mt_A I17 te 0 := ⟨by rw [fs18 82 7 (by omega), ← w16, yi_u_ne _ _ (by omega), ← w14, yi_u_ne _ _ (by omega), ← w12, yi_u_ne _ _ (by omega), h6]; rfl, Nat.zero_le _⟩
  have hte := hW20.2.1.1
  show yi_D zi_Ms d zi_m72 k (31, [(0, .inr (.inr (some 82)))], [], (I17, L4, R, Y), 0, 0) _
  refine yi_D_run 2 (33, [(0, .inr (.inr (some 82)))], [.inl 0, .inr (.inr (some 82))], (I17, L4, R, Y), 0, 0) (fun _ => rfl) ?_
  refine yi_D_callv rfl (q_takeWord_z (by omega) (by omega) hW20 hf21 hA22) ?_
  rintro _ (⟨c23, I24, rfl, hGa25, hf26, hA27⟩ | ⟨c28, I29, rfl, hGa30, he31⟩)
  · have hA27 : mt_A I24 te (0 + 1) := hA27
    have hW32 := mt_W_t hW20 (mt_G_F hGa25)
    show yi_D zi_Ms d zi_m72 k (36, [(0, .inr (.inr (some 82)))], [], (I24, L4, R, Y), 0, 0) _
    refine yi_D_run 1 (37, [(0, .inr (.inr (some 82)))], [.inr (.inr (some 82))], (I24, L4, R, Y), 0, 0) (fun _ => rfl) ?_
    refine yi_D_gr (v := some 88) rfl rfl rfl (ym_S_at hS (j := 5) rfl).1 (fun _ => ?_)
    refine yi_D_run 4 (46, [(0, .inr (.inr (some 82)))], [.inl 6, .inl 1, .inr (.inr (some 82)), .inl 50, .inr (.inr (some 88))], (I24, L4, R, Y), 0, 0) (fun _ => rfl) ?_
    refine yi_D_callv rfl (q_takeNumber_z (lo := 1) (hi := 6) hW32 hf26 hA27) ?_
    rintro _ (⟨c33, c34, I35, rfl, hGa36, hf37, hA38⟩ | ⟨c39, z43, I40, rfl, hGa41, he42⟩ | ⟨c44, z48, I45, rfl, hGa46, he47⟩)
    · have hA38 : mt_A I35 te (0 + 2) := hA38
      have hW49 := mt_W_t hW32 (mt_G_F hGa36)
      show yi_D zi_Ms d zi_m72 k (49, [(0, .inr (.inr (some 82)))], [.inl (V (0 + 1)), .inl 50, .inr (.inr (some 88))], (I35, L4, R, Y), 0, 0) _
      refine yi_D_is rfl (fun _ _ => ?_)
      show yi_D zi_Ms d zi_m72 k (50, [(0, .inr (.inr (some 82)))], [], ((yi_u I35 88 50 (V (0 + 1))), L4, R, Y), 0, 0) _
      generalize w51 : yi_u I35 88 50 (V (0 + 1)) = I50
      have hW53 := mt_W_w (i := 0) (I' := I50) (V (0 + 1)) hW49 (fun _ => by rw [← w51]; exact yi_u_eq ..) (fun p k hp => by rw [← w51, yi_u_ne _ _ (by omega)]) (by rw [sp_up_e]; (repeat rw [sp_up_n _ _ (by omega)]); have hb := hW49.2.2.2.2.2.2.1; omega)
      rw [sp_ldz_u] at hW53
      have hf52 : I50 82 8 = 0 := by rw [← w51, yi_u_ne _ _ (by omega)]; exact hf37
      have hA54 : mt_A I50 te (0 + 2) := ⟨by rw [← w51, yi_u_ne _ _ (by omega)]; exact hA38.1, hA38.2⟩
      refine yi_D_run 2 (53, [(0, .inr (.inr (some 82)))], [.inl 59, .inr (.inr (some 82))], (I50, L4, R, Y), 0, 0) (fun _ => rfl) ?_
      refine yi_D_callv rfl (q_takeSign_z (by omega) hW53 hf52 hA54) ?_
      rintro _ (⟨c55, I56, rfl, hGa57, hf58, hA59⟩ | ⟨c60, I61, rfl, hGa62, he63⟩)
      · have hA59 : mt_A I56 te (0 + 3) := hA59
        have hW64 := mt_W_t hW53 (mt_G_F hGa57)
        have hR65 : sp_R K P V (0, 0, 0, [], sp_ld0, sp_nm0, []) (.inl (2, 0 + 2 + 1, 0, [], sp_up sp_ld0 0 (V (0 + 1)), sp_nm0, [])) := sp_R_s (sp_R_1 (by
          show sp_s0 K P V 0 sp_ld0 sp_nm0 [] = .inl (1, 0 + 2, 0, [], sp_up sp_ld0 0 (V (0 + 1)), sp_nm0, [])
          unfold sp_s0
          (repeat (first | rw [if_pos (by omega)] | rw [if_neg (by omega)])))) (by
          show (if K (0 + 2) = 59 then _ else _) = _
          rw [if_pos (by omega)])
        show yi_D zi_Ms d zi_m72 k (56, [(0, .inr (.inr (some 82)))], [], (I56, L4, R, Y), 0, 0) _
        have pt56 : ∀ j56, j56 ≤ k → ∀ (J1 : Nat → Nat → Int) (G1 : Nat → Nat → Int) (a1 : Nat) (ld1 : Nat → Int) (nm1 : Int → Int) (cs1 : List (Int × Int)), (mt_W J1 G1 R Y K P V te 50 ld1 nm1) → (J1 82 8 = 0) → (mt_A J1 te a1) → (sp_R K P V (0, 0, 0, [], sp_ld0, sp_nm0, []) (.inl (2, a1, 0, [], ld1, nm1, cs1))) → (1 ≤ ld1 0) → (ld1 6 < 0 → J1 88 56 < 0) → (ml_S (fun k => (I 89 k, I 90 k)) J1 ld1 cs1) → (∀ p k, ¬ (p = 82 ∧ ¬ (k = 18 ∨ k = 24 ∨ k = 25 ∨ k = 28 ∨ k = 30)) ∧ ¬ p = 84 ∧ ¬ p = 85 ∧ ¬ p = 94 ∧ ¬ (p = 88 ∧ 50 ≤ k) ∧ ¬ (p = 89 ∧ 1100 ≤ k) ∧ ¬ (p = 90 ∧ 1100 ≤ k) → J1 p k = I p k) → (∀ p k, ¬ p = 86 ∧ ¬ p = 92 → G1 p k = L p k) → yi_D zi_Ms d zi_m72 j56 (56, [(0, .inr (.inr (some 82)))], [], (J1, G1, R, Y), 0, 0) (fun r => ∃ f I' L', r = (some (.inl f), (I', L', R, Y), 0, 0) ∧ sp_R K P V (0, 0, 0, [], sp_ld0, sp_nm0, []) (.inr f) ∧ (¬ f = 0 → lk_F I L I' L') ∧ (f = 0 → ∃ a ld nm cs, sp_R K P V (0, 0, 0, [], sp_ld0, sp_nm0, []) (.inl (2, a, 0, [], ld, nm, cs)) ∧ K a = 0 ∧ lk_Z I' L' ld nm cs)) := by
          intro j56
          induction j56 with
          | zero => intros; exact yi_D_0
          | succ j56 ih56 =>
          intro hk56 J1 G1 a1 ld1 nm1 cs1 hW9 hf9 hA9 hR9 hd9 h69 hml9 hG9 hL9
          have hle9 := hA9.2
          have hte9 := hW9.2.1.1
          have hend9 : J1 84 ((a1 : Int).toNat) = 0 ↔ K a1 = 0 := mt_end hW9.2.1 hA9.2
          refine yi_D_run1 0 (57, [(0, .inr (.inr (some 82)))], [.inr (.inr (some 82))], (J1, G1, R, Y), 0, 0) (fun _ => rfl) ?_
          refine yi_D_gi (v := 0) rfl rfl rfl hf9 (fun _ => ?_)
          refine yi_D_if1 false rfl (by decide) ?_
          refine yi_D_run 1 (64, [(0, .inr (.inr (some 82)))], [.inr (.inr (some 82))], (J1, G1, R, Y), 0, 0) (fun _ => rfl) ?_
          refine yi_D_gr (v := some 84) rfl rfl rfl (ym_S_at hS (j := 1) rfl).1 (fun _ => ?_)
          refine yi_D_run 1 (68, [(0, .inr (.inr (some 82)))], [.inr (.inr (some 82)), .inr (.inr (some 84))], (J1, G1, R, Y), 0, 0) (fun _ => rfl) ?_
          refine yi_D_gi (v := (a1 : Int)) rfl rfl rfl hA9.1 (fun _ => ?_)
          refine yi_D_il (v := J1 84 ((a1 : Int).toNat)) rfl rfl rfl (fun _ _ => ?_)
          by_cases h66 : (J1 84 ((a1 : Int).toNat)) = 0
          · refine yi_D_if1 true rfl (yi_eq_t h66) ?_
            refine yi_D_run 1 (89, [(0, .inr (.inr (some 82)))], [.inr (.inr (some 82))], (J1, G1, R, Y), 0, 0) (fun _ => rfl) ?_
            refine yi_D_gi (v := 0) rfl rfl rfl hf9 (fun _ => ?_)
            refine yi_D_if1 true rfl (by decide) ?_
            have hc9 : J1 82 13 ≤ 1100 := hW9.2.2.2.2.2.2.2.2
            have hm9 : J1 82 19 ≤ 13 := by rcases hW9.2.2.1.2 with z | z; exact z.2.1.2; exact absurd z.1 (by decide)
            refine yi_D_run 2 (102, [(1, .inl 0), (0, .inr (.inr (some 82)))], [], (J1, G1, R, Y), 0, 0) (fun _ => rfl) ?_
            have pt102 : ∀ j102, j102 ≤ j56 → ∀ (z1 : Int) (J2 : Nat → Nat → Int), (0 ≤ z1 ∧ z1 ≤ 50) → (J2 82 13 ≤ 1100) → (J2 82 19 ≤ 13) → (∀ j : Nat, (j : Int) < z1 → J2 88 j = J1 88 (50 + j)) → (∀ j : Nat, 50 ≤ j → J2 88 j = J1 88 j) → (∀ p k, ¬ p = 88 → J2 p k = J1 p k) → yi_D zi_Ms d zi_m72 j102 (102, [(1, .inl z1), (0, .inr (.inr (some 82)))], [], (J2, G1, R, Y), 0, 0) (fun r => ∃ f I' L', r = (some (.inl f), (I', L', R, Y), 0, 0) ∧ sp_R K P V (0, 0, 0, [], sp_ld0, sp_nm0, []) (.inr f) ∧ (¬ f = 0 → lk_F I L I' L') ∧ (f = 0 → ∃ a ld nm cs, sp_R K P V (0, 0, 0, [], sp_ld0, sp_nm0, []) (.inl (2, a, 0, [], ld, nm, cs)) ∧ K a = 0 ∧ lk_Z I' L' ld nm cs)) := by
              intro j102
              induction j102 with
              | zero => intros; exact yi_D_0
              | succ j102 ih102 =>
              intro hk102 z1 J2 hz hc2 hm2 hA2 hB2 hC2
              refine yi_D_run1 1 (105, [(1, .inl z1), (0, .inr (.inr (some 82)))], [.inl 50, .inl z1], (J2, G1, R, Y), 0, 0) (fun _ => rfl) ?_
              by_cases h67 : 50 ≤ z1
              · refine yi_D_if2 true rfl (yi_ge_t h67) ?_
                refine yi_D_run 2 (131, [(1, .inl 0), (0, .inr (.inr (some 82)))], [], (J2, G1, R, Y), 0, 0) (fun _ => rfl) ?_
                have pt131 : ∀ j131, j131 ≤ j102 → ∀ (u1 : Int) (J3 : Nat → Nat → Int), (0 ≤ u1 ∧ u1 ≤ 1100) → (J3 82 13 ≤ 1100) → (J3 82 19 ≤ 13) → (∀ p k, ¬ p = 89 → ¬ p = 90 → J3 p k = J2 p k) → (∀ j : Nat, (j : Int) < u1 → J3 89 j = J2 89 (1100 + j) ∧ J3 90 j = J2 90 (1100 + j)) → (∀ j : Nat, 1100 ≤ j → J3 89 j = J2 89 j ∧ J3 90 j = J2 90 j) → (u1 ≤ J2 82 13 ∨ u1 = 0) → yi_D zi_Ms d zi_m72 j131 (131, [(1, .inl u1), (0, .inr (.inr (some 82)))], [], (J3, G1, R, Y), 0, 0) (fun r => ∃ f I' L', r = (some (.inl f), (I', L', R, Y), 0, 0) ∧ sp_R K P V (0, 0, 0, [], sp_ld0, sp_nm0, []) (.inr f) ∧ (¬ f = 0 → lk_F I L I' L') ∧ (f = 0 → ∃ a ld nm cs, sp_R K P V (0, 0, 0, [], sp_ld0, sp_nm0, []) (.inl (2, a, 0, [], ld, nm, cs)) ∧ K a = 0 ∧ lk_Z I' L' ld nm cs)) := by
                  intro j131
                  induction j131 with
                  | zero => intros; exact yi_D_0
                  | succ j131 ih131 =>
                  intro hk131 u1 J3 hu hc3 hm3 hD3 hE3 hF3 hu13
                  refine yi_D_run1 1 (133, [(1, .inl u1), (0, .inr (.inr (some 82)))], [.inr (.inr (some 82)), .inl u1], (J3, G1, R, Y), 0, 0) (fun _ => rfl) ?_
                  refine yi_D_gi (v := J3 82 13) rfl rfl rfl rfl (fun _ => ?_)
                  by_cases h68 : (J3 82 13) ≤ u1
                  · refine yi_D_if2 true rfl (yi_ge_t h68) ?_
                    refine yi_D_run 2 (179, [(1, .inl 0), (0, .inr (.inr (some 82)))], [], (J3, G1, R, Y), 0, 0) (fun _ => rfl) ?_
                    have pt179 : ∀ j179, j179 ≤ j131 → ∀ (v1 : Int) (J4 : Nat → Nat → Int) (G4 : Nat → Nat → Int), (0 ≤ v1 ∧ v1 ≤ 13) → (J4 82 19 ≤ 13) → (∀ p k, ¬ p = 93 → J4 p k = J3 p k) → (∀ j : Nat, (j : Int) < v1 → J4 93 j = J3 94 j ∧ G4 91 j = G1 92 j) → (∀ p k, ¬ p = 91 → G4 p k = G1 p k) → yi_D zi_Ms d zi_m72 j179 (179, [(1, .inl v1), (0, .inr (.inr (some 82)))], [], (J4, G4, R, Y), 0, 0) (fun r => ∃ f I' L', r = (some (.inl f), (I', L', R, Y), 0, 0) ∧ sp_R K P V (0, 0, 0, [], sp_ld0, sp_nm0, []) (.inr f) ∧ (¬ f = 0 → lk_F I L I' L') ∧ (f = 0 → ∃ a ld nm cs, sp_R K P V (0, 0, 0, [], sp_ld0, sp_nm0, []) (.inl (2, a, 0, [], ld, nm, cs)) ∧ K a = 0 ∧ lk_Z I' L' ld nm cs)) := by
                      intro j179
                      induction j179 with
                      | zero => intros; exact yi_D_0
                      | succ j179 ih179 =>
                      intro hk179 v1 J4 G4 hv hm4 hE4 hF4 hG4
                      refine yi_D_run1 1 (181, [(1, .inl v1), (0, .inr (.inr (some 82)))], [.inr (.inr (some 82)), .inl v1], (J4, G4, R, Y), 0, 0) (fun _ => rfl) ?_
                      refine yi_D_gi (v := J4 82 19) rfl rfl rfl rfl (fun _ => ?_)
                      by_cases h69 : (J4 82 19) ≤ v1
                      · refine yi_D_if2 true rfl (yi_ge_t h69) ?_
                        refine yi_D_run 2 (219, [(1, .inl v1), (0, .inr (.inr (some 82)))], [.inr (.inr (some 82)), .inr (.inr (some 82))], (J4, G4, R, Y), 0, 0) (fun _ => rfl) ?_
                        refine yi_D_gi (v := J4 82 19) rfl rfl rfl rfl (fun _ => ?_)
                        refine yi_D_pi rfl (fun _ => ?_)
                        generalize w71 : yi_u J4 82 18 (J4 82 19) = I70
                        refine yi_D_run 1 (226, [(1, .inl v1), (0, .inr (.inr (some 82)))], [.inr (.inr (some 82))], (I70, G4, R, Y), 0, 0) (fun _ => rfl) ?_
                        obtain ⟨e0, e1, e2, e3, e4, e5⟩ := hW9.2.2
                        have eN : mt_N J1 G1 92 94 (J1 82 19) nm1 := by
                          rcases e0.2 with z | z
                          · exact z.2
                          · exact absurd z.1 (by decide)
                        have g88 : ∀ k : Nat, k < 50 → I70 88 k = J1 88 (50 + k) := fun k hk => by
                          rw [← w71, yi_u_ne _ _ (by omega), hE4 88 k (by omega), hD3 88 k (by omega) (by omega)]
                          exact hA2 k (by omega)
                        have em : J4 82 19 = J1 82 19 := by rw [hE4 82 19 (by omega), hD3 82 19 (by omega) (by omega), hC2 82 19 (by omega)]
                        have g18 : I70 82 18 = J1 82 19 := by rw [← w71, yi_u_eq]; exact em
                        have g93 : ∀ k : Nat, (k : Int) < J1 82 19 → I70 93 k = J1 94 k := fun k hk => by
                          rw [← w71, yi_u_ne _ _ (by omega), (hF4 k (by omega)).1, hD3 94 k (by omega) (by omega), hC2 94 k (by omega)]
                        have g91 : ∀ k : Nat, (k : Int) < J1 82 19 → G4 91 k = G1 92 k := fun k hk => (hF4 k (by omega)).2
                        have hlm : lm_R ld1 nm1 I70 G4 := by
                          refine ⟨fun j hj => (g88 j (by omega)).trans (e1 j hj), fun x => e2 (by rw [g88 6 (by omega)] at x; exact x), fun j a b => (g88 j (by omega)).trans (e3 j a b), e4, ?_⟩
                          rw [g18]
                          refine ⟨eN.1, fun k hk => ?_, fun v hv => eN.2.2 v (fun k hk => ?_)⟩
                          · rw [g93 k hk, g91 k hk]
                            exact eN.2.1 k hk
                          · rw [← g91 k hk]
                            exact hv k hk
                        have ec : J2 82 13 = (cs1.length : Int) := by rw [hC2 82 13 (by omega)]; exact hml9.1.1
                        have hlk : lk_R I70 ld1 cs1 := lk_of hml9 g88 ⟨e4.2.2.2.2.1.2, e4.2.2.2.2.2.2⟩ (by have hlen9 := sp_ln_c hR9; omega) (fun k hk => by
                          have hz3 := hD3 82 13 (by omega) (by omega)
                          rw [← w71, yi_u_ne _ _ (by omega), yi_u_ne _ _ (by omega), hE4 89 k (by omega), hE4 90 k (by omega), (hE3 k (by omega)).1, (hE3 k (by omega)).2, hC2 89 _ (by omega), hC2 90 _ (by omega)]
                          exact ⟨rfl, rfl⟩)
                        have h28' : I70 82 28 = 0 := by rw [← w71, yi_u_ne _ _ (by omega), hE4 82 28 (by omega), hD3 82 28 (by omega) (by omega), hC2 82 28 (by omega), hG9 82 28 (by omega)]; exact h28
                        have hda' : ld1 0 = ((ld1 0).toNat : Int) ∧ ld1 1 = ((ld1 1).toNat : Int) ∧ ld1 2 = ((ld1 2).toNat : Int) ∧ ld1 4 = ((ld1 4).toNat : Int) ∧ ld1 5 = ((ld1 5).toNat : Int) := by omega
                        refine yi_D_callv rfl (q_beginsK hS hbn hN82 hlm hlk h28' (sp_ok_R sp_ok_0 sp_st_0 hR9) (sp_bg_R sp_bg_0 sp_st_0 hR9) hda' rfl rfl rfl) ?_
                        rintro _ ⟨I72, L73, rfl, hX74, hB75⟩
                        show yi_D zi_Ms d zi_m72 j179 (229, [(1, .inl v1), (0, .inr (.inr (some 82)))], [], (I72, L73, R, Y), 0, 0) _
                        refine yi_D_run 1 (230, [(1, .inl v1), (0, .inr (.inr (some 82)))], [.inl 0], (I72, L73, R, Y), 0, 0) (fun _ => rfl) ?_
                        refine yi_D_reti rfl ?_
                        exact ⟨_, _, _, rfl, sp_R_s hR9 (by
                          show sp_line K P V _ _ _ _ = _
                          unfold sp_line
                          rw [if_pos (by omega)]), fun h => absurd rfl h, fun _ => ⟨_, _, _, _, hR9, by omega, lk_Z_b hlm hlk hda' ⟨rfl, rfl, rfl⟩ hX74 hB75⟩⟩
                      · refine yi_D_if2 false rfl (yi_ge_f h69) ?_
                        refine yi_D_run 1 (188, [(1, .inl v1), (0, .inr (.inr (some 82)))], [.inr (.inr (some 82))], (J4, G4, R, Y), 0, 0) (fun _ => rfl) ?_
                        refine yi_D_gr (v := some 91) rfl rfl rfl (ym_S_at hS (j := 8) rfl).1 (fun _ => ?_)
                        refine yi_D_run 2 (193, [(1, .inl v1), (0, .inr (.inr (some 82)))], [.inr (.inr (some 82)), .inl v1, .inr (.inr (some 91))], (J4, G4, R, Y), 0, 0) (fun _ => rfl) ?_
                        refine yi_D_gr (v := some 92) rfl rfl rfl (ym_S_at hS (j := 9) rfl).1 (fun _ => ?_)
                        refine yi_D_run 1 (197, [(1, .inl v1), (0, .inr (.inr (some 82)))], [.inl v1, .inr (.inr (some 92)), .inl v1, .inr (.inr (some 91))], (J4, G4, R, Y), 0, 0) (fun _ => rfl) ?_
                        refine yi_D_ll (v := G4 92 (v1.toNat)) rfl rfl rfl (fun _ _ => ?_)
                        refine yi_D_ls rfl (fun _ _ => ?_)
                        generalize w77 : yi_u G4 91 (v1.toNat) (G4 92 (v1.toNat)) = L76
                        refine yi_D_run 1 (200, [(1, .inl v1), (0, .inr (.inr (some 82)))], [.inr (.inr (some 82))], (J4, L76, R, Y), 0, 0) (fun _ => rfl) ?_
                        refine yi_D_gr (v := some 93) rfl rfl rfl (ym_S_at hS (j := 10) rfl).1 (fun _ => ?_)
                        refine yi_D_run 2 (205, [(1, .inl v1), (0, .inr (.inr (some 82)))], [.inr (.inr (some 82)), .inl v1, .inr (.inr (some 93))], (J4, L76, R, Y), 0, 0) (fun _ => rfl) ?_
                        refine yi_D_gr (v := some 94) rfl rfl rfl (ym_S_at hS (j := 11) rfl).1 (fun _ => ?_)
                        refine yi_D_run 1 (209, [(1, .inl v1), (0, .inr (.inr (some 82)))], [.inl v1, .inr (.inr (some 94)), .inl v1, .inr (.inr (some 93))], (J4, L76, R, Y), 0, 0) (fun _ => rfl) ?_
                        refine yi_D_il (v := J4 94 (v1.toNat)) rfl rfl rfl (fun _ _ => ?_)
                        refine yi_D_is rfl (fun _ _ => ?_)
                        generalize w79 : yi_u J4 93 (v1.toNat) (J4 94 (v1.toNat)) = I78
                        refine yi_D_iinc [(1, .inl (v1 + 1)), (0, .inr (.inr (some 82)))] rfl rfl rfl (by rw [show yi_w (v1 + 1) = v1 + 1 from (yi_wn (by omega) (by omega)).trans (by omega)]; rfl) ?_
                        refine yi_D_run 1 (179, [(1, .inl (v1 + 1)), (0, .inr (.inr (some 82)))], [], (I78, L76, R, Y), 0, 0) (fun _ => rfl) ?_
                        exact yi_D_mono (ih179 (by omega) (v1 + 1) I78 L76 (by omega) (by rw [← w79, yi_u_ne _ _ (by omega)]; exact hm4) (fun p k hp => by rw [← w79, yi_u_ne _ _ (by omega)]; exact hE4 p k hp) (fun j hj => by by_cases e : (j : Int) = v1; rw [← w79, ← w77, show j = v1.toNat by omega, yi_u_eq, yi_u_eq]; exact ⟨hE4 94 _ (by omega), hG4 92 _ (by omega)⟩; rw [← w79, ← w77, yi_u_ne _ _ (by omega), yi_u_ne _ _ (by omega)]; exact hF4 j (by omega)) (fun p k hp => by rw [← w77, yi_u_ne _ _ (by omega)]; exact hG4 p k hp)) (by omega)
                    exact pt179 j131 (Nat.le_refl _) 0 J3 G1 (by omega) hm3 (fun _ _ _ => rfl) (fun j hj => absurd hj (by omega)) (fun _ _ _ => rfl)
                  · refine yi_D_if2 false rfl (yi_ge_f h68) ?_
                    refine yi_D_run 1 (140, [(1, .inl u1), (0, .inr (.inr (some 82)))], [.inr (.inr (some 82))], (J3, G1, R, Y), 0, 0) (fun _ => rfl) ?_
                    refine yi_D_gr (v := some 89) rfl rfl rfl (ym_S_at hS (j := 6) rfl).1 (fun _ => ?_)
                    refine yi_D_run 2 (145, [(1, .inl u1), (0, .inr (.inr (some 82)))], [.inr (.inr (some 82)), .inl u1, .inr (.inr (some 89))], (J3, G1, R, Y), 0, 0) (fun _ => rfl) ?_
                    refine yi_D_gr (v := some 89) rfl rfl rfl (ym_S_at hS (j := 6) rfl).1 (fun _ => ?_)
                    refine yi_D_run 2 (152, [(1, .inl u1), (0, .inr (.inr (some 82)))], [.inl u1, .inl 1100, .inr (.inr (some 89)), .inl u1, .inr (.inr (some 89))], (J3, G1, R, Y), 0, 0) (fun _ => rfl) ?_
                    refine yi_D_iadd rfl (1100 + u1) (yi_wn (by omega) (by omega)) ?_
                    refine yi_D_il (v := J3 89 ((1100 + u1).toNat)) rfl rfl rfl (fun _ _ => ?_)
                    refine yi_D_is rfl (fun _ _ => ?_)
                    generalize w81 : yi_u J3 89 (u1.toNat) (J3 89 ((1100 + u1).toNat)) = I80
                    refine yi_D_run 1 (156, [(1, .inl u1), (0, .inr (.inr (some 82)))], [.inr (.inr (some 82))], (I80, G1, R, Y), 0, 0) (fun _ => rfl) ?_
                    refine yi_D_gr (v := some 90) rfl rfl rfl (ym_S_at hS (j := 7) rfl).1 (fun _ => ?_)
                    refine yi_D_run 2 (161, [(1, .inl u1), (0, .inr (.inr (some 82)))], [.inr (.inr (some 82)), .inl u1, .inr (.inr (some 90))], (I80, G1, R, Y), 0, 0) (fun _ => rfl) ?_
                    refine yi_D_gr (v := some 90) rfl rfl rfl (ym_S_at hS (j := 7) rfl).1 (fun _ => ?_)
                    refine yi_D_run 2 (168, [(1, .inl u1), (0, .inr (.inr (some 82)))], [.inl u1, .inl 1100, .inr (.inr (some 90)), .inl u1, .inr (.inr (some 90))], (I80, G1, R, Y), 0, 0) (fun _ => rfl) ?_
                    refine yi_D_iadd rfl (1100 + u1) (yi_wn (by omega) (by omega)) ?_
                    have r82 : I80 90 ((1100 + u1).toNat) = J3 90 ((1100 + u1).toNat) := by rw [← w81, yi_u_ne _ _ (by omega)]
                    refine yi_D_il (v := J3 90 ((1100 + u1).toNat)) rfl rfl r82 (fun _ _ => ?_)
                    refine yi_D_is rfl (fun _ _ => ?_)
                    generalize w84 : yi_u I80 90 (u1.toNat) (J3 90 ((1100 + u1).toNat)) = I83
                    refine yi_D_iinc [(1, .inl (u1 + 1)), (0, .inr (.inr (some 82)))] rfl rfl rfl (by rw [show yi_w (u1 + 1) = u1 + 1 from (yi_wn (by omega) (by omega)).trans (by omega)]; rfl) ?_
                    refine yi_D_run 1 (131, [(1, .inl (u1 + 1)), (0, .inr (.inr (some 82)))], [], (I83, G1, R, Y), 0, 0) (fun _ => rfl) ?_
                    exact yi_D_mono (ih131 (by omega) (u1 + 1) I83 (by omega) (by rw [← w84, yi_u_ne _ _ (by omega), ← w81, yi_u_ne _ _ (by omega)]; exact hc3) (by rw [← w84, yi_u_ne _ _ (by omega), ← w81, yi_u_ne _ _ (by omega)]; exact hm3) (fun p k a b => by rw [← w84, yi_u_ne _ _ (by omega), ← w81, yi_u_ne _ _ (by omega)]; exact hD3 p k a b) (fun j hj => by by_cases e : (j : Int) = u1; rw [← w84, ← w81, show j = u1.toNat by omega, show (1100 + u1).toNat = 1100 + u1.toNat by omega]; constructor; rw [yi_u_ne _ _ (by omega), yi_u_eq]; exact (hF3 _ (by omega)).1; rw [yi_u_eq]; exact (hF3 _ (by omega)).2; rw [← w84, ← w81, yi_u_ne _ _ (by omega), yi_u_ne _ _ (by omega), yi_u_ne _ _ (by omega), yi_u_ne _ _ (by omega)]; exact hE3 j (by omega)) (fun j hj => by rw [← w84, ← w81, yi_u_ne _ _ (by omega), yi_u_ne _ _ (by omega), yi_u_ne _ _ (by omega), yi_u_ne _ _ (by omega)]; exact hF3 j hj) (Or.inl (by have := hD3 82 13 (by omega) (by omega); omega))) (by omega)
                exact pt131 j102 (Nat.le_refl _) 0 J2 (by omega) hc2 hm2 (fun _ _ _ _ => rfl) (fun j hj => absurd hj (by omega)) (fun _ _ => ⟨rfl, rfl⟩) (Or.inr rfl)
              · refine yi_D_if2 false rfl (yi_ge_f h67) ?_
                refine yi_D_run 1 (109, [(1, .inl z1), (0, .inr (.inr (some 82)))], [.inr (.inr (some 82))], (J2, G1, R, Y), 0, 0) (fun _ => rfl) ?_
                refine yi_D_gr (v := some 88) rfl rfl rfl (ym_S_at hS (j := 5) rfl).1 (fun _ => ?_)
                refine yi_D_run 2 (114, [(1, .inl z1), (0, .inr (.inr (some 82)))], [.inr (.inr (some 82)), .inl z1, .inr (.inr (some 88))], (J2, G1, R, Y), 0, 0) (fun _ => rfl) ?_
                refine yi_D_gr (v := some 88) rfl rfl rfl (ym_S_at hS (j := 5) rfl).1 (fun _ => ?_)
                refine yi_D_run 2 (120, [(1, .inl z1), (0, .inr (.inr (some 82)))], [.inl z1, .inl 50, .inr (.inr (some 88)), .inl z1, .inr (.inr (some 88))], (J2, G1, R, Y), 0, 0) (fun _ => rfl) ?_
                refine yi_D_iadd rfl (50 + z1) (yi_wn (by omega) (by omega)) ?_
                refine yi_D_il (v := J2 88 ((50 + z1).toNat)) rfl rfl rfl (fun _ _ => ?_)
                refine yi_D_is rfl (fun _ _ => ?_)
                generalize w86 : yi_u J2 88 (z1.toNat) (J2 88 ((50 + z1).toNat)) = I85
                refine yi_D_iinc [(1, .inl (z1 + 1)), (0, .inr (.inr (some 82)))] rfl rfl rfl (by rw [show yi_w (z1 + 1) = z1 + 1 from (yi_wn (by omega) (by omega)).trans (by omega)]; rfl) ?_
                refine yi_D_run 1 (102, [(1, .inl (z1 + 1)), (0, .inr (.inr (some 82)))], [], (I85, G1, R, Y), 0, 0) (fun _ => rfl) ?_
                exact yi_D_mono (ih102 (by omega) (z1 + 1) I85 (by omega) (by rw [← w86, yi_u_ne _ _ (by omega)]; exact hc2) (by rw [← w86, yi_u_ne _ _ (by omega)]; exact hm2) (fun j hj => by by_cases e : (j : Int) = z1; rw [← w86, show j = z1.toNat by omega, yi_u_eq, show (50 + z1).toNat = 50 + z1.toNat by omega]; exact hB2 _ (by omega); rw [← w86, yi_u_ne _ _ (by omega)]; exact hA2 j (by omega)) (fun j hj => by rw [← w86, yi_u_ne _ _ (by omega)]; exact hB2 j hj) (fun p k hp => by rw [← w86, yi_u_ne _ _ (by omega)]; exact hC2 p k hp)) (by omega)
            exact pt102 j56 (Nat.le_refl _) 0 J1 (by omega) hc9 hm9 (fun j hj => absurd hj (by omega)) (fun _ _ => rfl) (fun _ _ _ => rfl)
          · refine yi_D_if1 false rfl (yi_eq_f h66) ?_
            refine yi_D_run 1 (76, [(0, .inr (.inr (some 82)))], [.inr (.inr (some 82))], (J1, G1, R, Y), 0, 0) (fun _ => rfl) ?_
            refine yi_D_callv rfl (q_readLineC hW9 hf9 hA9 cs1 hd9 h69 hml9 (by omega)) ?_
            rintro _ ⟨I87, L88, rfl, hF89, (⟨a90, ld91, nm92, cs93, hR94, lt95, hf96, hA97, hW98, hd99, hl100, hml101⟩ | ⟨f102, hR103, hz104, he105⟩)⟩
            · have hR106 := sp_R_t hR9 hR94
              show yi_D zi_Ms d zi_m72 j56 (79, [(0, .inr (.inr (some 82)))], [], (I87, L88, R, Y), 0, 0) _
              refine yi_D_run 2 (82, [(0, .inr (.inr (some 82)))], [.inl 59, .inr (.inr (some 82))], (I87, L88, R, Y), 0, 0) (fun _ => rfl) ?_
              refine yi_D_callv rfl (q_takeSign_z (by omega) hW98 hf96 hA97) ?_
              rintro _ (⟨c107, I108, rfl, hGa109, hf110, hA111⟩ | ⟨c112, I113, rfl, hGa114, he115⟩)
              · have hA111 : mt_A I108 te (a90 + 1) := hA111
                have hW116 := mt_W_t hW98 (mt_G_F hGa109)
                have hR117 := sp_R_s hR106 (show sp_step K P V (1, a90, 0, [], ld91, nm92, cs93) = .inl (2, a90 + 1, 0, [], ld91, nm92, cs93) by
                  show (if K a90 = 59 then _ else _) = _
                  rw [if_pos (by omega)])
                show yi_D zi_Ms d zi_m72 j56 (85, [(0, .inr (.inr (some 82)))], [], (I108, L88, R, Y), 0, 0) _
                refine yi_D_run 1 (56, [(0, .inr (.inr (some 82)))], [], (I108, L88, R, Y), 0, 0) (fun _ => rfl) ?_
                exact yi_D_mono (ih56 (by omega) I108 L88 (a90 + 1) ld91 nm92 cs93 hW116 hf110 hA111 hR117 hd99 (fun x => by rw [hGa109 88 56 (by omega)]; exact hl100 x) (ml_o hml101 (fun p k hp => by rw [hGa109 p k (by omega)])) (fun p k hp => by rw [hGa109 p k (by omega), hF89.1 p k (by omega)]; exact hG9 p k hp) (fun p k hp => by rw [hF89.2 p k (by omega)]; exact hL9 p k hp)) (by omega)
              · have hW118 := mt_W_t hW98 (mt_G_F hGa114)
                have hz119 : 0 < sp_f P a90 1 := mt_f_ne hW98 hA97.2 (by omega)
                have hn120 : 0 < I113 82 8 := by rw [he115]; exact hz119
                have hx121 : sp_R K P V (0, 0, 0, [], sp_ld0, sp_nm0, []) (.inr (sp_f P a90 1)) := sp_R_s hR106 (by
                  show (if K a90 = 59 then _ else _) = _
                  rw [if_neg (by omega)])
                show yi_D zi_Ms d zi_m72 j56 (85, [(0, .inr (.inr (some 82)))], [], (I113, L88, R, Y), 0, 0) _
                refine yi_D_run 1 (56, [(0, .inr (.inr (some 82)))], [], (I113, L88, R, Y), 0, 0) (fun _ => rfl) ?_
                refine yi_D_run 1 (57, [(0, .inr (.inr (some 82)))], [.inr (.inr (some 82))], (I113, L88, R, Y), 0, 0) (fun _ => rfl) ?_
                refine yi_D_gi (v := I113 82 8) rfl rfl rfl rfl (fun _ => ?_)
                have h122 : ¬ ((I113 82 8) = 0) := by omega
                refine yi_D_if1 true rfl (yi_ne_t h122) ?_
                refine yi_D_run 1 (89, [(0, .inr (.inr (some 82)))], [.inr (.inr (some 82))], (I113, L88, R, Y), 0, 0) (fun _ => rfl) ?_
                refine yi_D_gi (v := I113 82 8) rfl rfl rfl rfl (fun _ => ?_)
                have h123 : ¬ ((I113 82 8) ≤ 0) := by omega
                refine yi_D_if1 false rfl (yi_le_f h123) ?_
                refine yi_D_run 1 (96, [(0, .inr (.inr (some 82)))], [.inr (.inr (some 82))], (I113, L88, R, Y), 0, 0) (fun _ => rfl) ?_
                refine yi_D_gi (v := I113 82 8) rfl rfl rfl rfl (fun _ => ?_)
                refine yi_D_reti rfl ?_
                have hFF : lk_F I L I113 L88 := ⟨fun p k hp => by rw [hGa114 p k (by omega), hF89.1 p k (by omega), hG9 p k (by omega)], fun p k hp => by rw [hF89.2 p k (by omega), hL9 p k (by omega)]⟩
                exact ⟨_, _, _, rfl, (by first | (rw [he115]; exact hx121) | (rw [he115]; exact hx121)), fun _ => hFF, fun h => absurd h (by omega)⟩
            · have hx124 := sp_R_t hR9 hR103
              have hn125 : 0 < I87 82 8 := by rw [he105]; exact hz104
              show yi_D zi_Ms d zi_m72 j56 (79, [(0, .inr (.inr (some 82)))], [], (I87, L88, R, Y), 0, 0) _
              refine yi_D_run 2 (82, [(0, .inr (.inr (some 82)))], [.inl 59, .inr (.inr (some 82))], (I87, L88, R, Y), 0, 0) (fun _ => rfl) ?_
              refine yi_D_callv rfl (q_takeSign_s hS hn125) ?_
              rintro _ rfl
              show yi_D zi_Ms d zi_m72 j56 (85, [(0, .inr (.inr (some 82)))], [], (I87, L88, R, Y), 0, 0) _
              refine yi_D_run 1 (56, [(0, .inr (.inr (some 82)))], [], (I87, L88, R, Y), 0, 0) (fun _ => rfl) ?_
              refine yi_D_run 1 (57, [(0, .inr (.inr (some 82)))], [.inr (.inr (some 82))], (I87, L88, R, Y), 0, 0) (fun _ => rfl) ?_
              refine yi_D_gi (v := I87 82 8) rfl rfl rfl rfl (fun _ => ?_)
              have h126 : ¬ ((I87 82 8) = 0) := by omega
              refine yi_D_if1 true rfl (yi_ne_t h126) ?_
              refine yi_D_run 1 (89, [(0, .inr (.inr (some 82)))], [.inr (.inr (some 82))], (I87, L88, R, Y), 0, 0) (fun _ => rfl) ?_
              refine yi_D_gi (v := I87 82 8) rfl rfl rfl rfl (fun _ => ?_)
              have h127 : ¬ ((I87 82 8) ≤ 0) := by omega
              refine yi_D_if1 false rfl (yi_le_f h127) ?_
              refine yi_D_run 1 (96, [(0, .inr (.inr (some 82)))], [.inr (.inr (some 82))], (I87, L88, R, Y), 0, 0) (fun _ => rfl) ?_
              refine yi_D_gi (v := I87 82 8) rfl rfl rfl rfl (fun _ => ?_)
              refine yi_D_reti rfl ?_
              have hFF : lk_F I L I87 L88 := ⟨fun p k hp => by rw [hF89.1 p k (by omega), hG9 p k (by omega)], fun p k hp => by rw [hF89.2 p k (by omega), hL9 p k (by omega)]⟩
              exact ⟨_, _, _, rfl, (by first | (rw [he105]; exact hx124) | (rw [he105]; exact hx124)), fun _ => hFF, fun h => absurd h (by omega)⟩
        exact pt56 k (Nat.le_refl _) I56 L4 (0 + 3) (sp_up sp_ld0 0 (V (0 + 1))) sp_nm0 ([]) hW64 hf58 hA59 hR65 (by rw [sp_up_e]; omega) (fun _ => by rw [hGa57 88 56 (by omega), ← w51, yi_u_ne _ _ (by omega), hGa36 88 56 (by omega), hGa25 88 56 (by omega), hz19 56 (by omega) (by omega), if_pos rfl]; decide) ⟨⟨by rw [hGa57 82 13 (by omega), ← w51, yi_u_ne _ _ (by omega), hGa36 82 13 (by omega), hGa25 82 13 (by omega), fs18 82 13 (by omega), ← w16, yi_u_ne _ _ (by omega), ← w14, yi_u_ne _ _ (by omega), ← w12, yi_u_eq]; rfl, fun k hk => absurd hk (Nat.not_lt_zero k), fun k hk => ⟨by rw [hGa57 89 k (by omega), ← w51, yi_u_ne _ _ (by omega), hGa36 89 k (by omega), hGa25 89 k (by omega), fs18 89 k (by omega), ← w16, yi_u_ne _ _ (by omega), ← w14, yi_u_ne _ _ (by omega), ← w12, yi_u_ne _ _ (by omega), fI9 89 k (by omega), ← w2, yi_u_ne _ _ (by omega)], by rw [hGa57 90 k (by omega), ← w51, yi_u_ne _ _ (by omega), hGa36 90 k (by omega), hGa25 90 k (by omega), fs18 90 k (by omega), ← w16, yi_u_ne _ _ (by omega), ← w14, yi_u_ne _ _ (by omega), ← w12, yi_u_ne _ _ (by omega), fI9 90 k (by omega), ← w2, yi_u_ne _ _ (by omega)]⟩⟩, fun j hj => (by rw [sp_up_n _ _ (by omega)] at hj; exact absurd (show (j : Int) < 0 from hj) (by omega)), fun w hj => (by rw [sp_up_n _ _ (by omega)] at hj; exact absurd (show (w : Int) < 0 from hj) (by omega)), Or.inl ⟨(by rw [hGa57 88 56 (by omega), ← w51, yi_u_ne _ _ (by omega), hGa36 88 56 (by omega), hGa25 88 56 (by omega), hz19 56 (by omega) (by omega), if_pos rfl]; decide), (by rw [sp_up_n _ _ (by omega)]; decide)⟩⟩ (fun p k hp => by rw [hGa57 p k (by omega), ← w51, yi_u_ne _ _ (by omega), hGa36 p k (by omega), hGa25 p k (by omega), fs18 p k (by omega), ← w16, yi_u_ne _ _ (by omega), ← w14, yi_u_ne _ _ (by omega), ← w12, yi_u_ne _ _ (by omega), fI9 p k (by omega), ← w2, yi_u_ne _ _ (by omega)]) (fun p k hp => by rw [fL10 p k (by omega)])
      · have hW128 := mt_W_t hW53 (mt_G_F hGa62)
        have hz129 : 0 < sp_f P (0 + 2) 1 := mt_f_ne hW53 hA54.2 (by omega)
        have hn130 : 0 < I61 82 8 := by rw [he63]; exact hz129
        have hx131 : sp_R K P V (0, 0, 0, [], sp_ld0, sp_nm0, []) (.inr (sp_f P (0 + 2) 1)) := sp_R_s (sp_R_1 (by
          show sp_s0 K P V 0 sp_ld0 sp_nm0 [] = .inl (1, 0 + 2, 0, [], sp_up sp_ld0 0 (V (0 + 1)), sp_nm0, [])
          unfold sp_s0
          (repeat (first | rw [if_pos (by omega)] | rw [if_neg (by omega)])))) (by
          show (if K (0 + 2) = 59 then _ else _) = _
          rw [if_neg (by omega)])
        show yi_D zi_Ms d zi_m72 k (56, [(0, .inr (.inr (some 82)))], [], (I61, L4, R, Y), 0, 0) _
        refine yi_D_run 1 (57, [(0, .inr (.inr (some 82)))], [.inr (.inr (some 82))], (I61, L4, R, Y), 0, 0) (fun _ => rfl) ?_
        refine yi_D_gi (v := I61 82 8) rfl rfl rfl rfl (fun _ => ?_)
        have h132 : ¬ ((I61 82 8) = 0) := by omega
        refine yi_D_if1 true rfl (yi_ne_t h132) ?_
        refine yi_D_run 1 (89, [(0, .inr (.inr (some 82)))], [.inr (.inr (some 82))], (I61, L4, R, Y), 0, 0) (fun _ => rfl) ?_
        refine yi_D_gi (v := I61 82 8) rfl rfl rfl rfl (fun _ => ?_)
        have h133 : ¬ ((I61 82 8) ≤ 0) := by omega
        refine yi_D_if1 false rfl (yi_le_f h133) ?_
        refine yi_D_run 1 (96, [(0, .inr (.inr (some 82)))], [.inr (.inr (some 82))], (I61, L4, R, Y), 0, 0) (fun _ => rfl) ?_
        refine yi_D_gi (v := I61 82 8) rfl rfl rfl rfl (fun _ => ?_)
        refine yi_D_reti rfl ?_
        have hFF : lk_F I L I61 L4 := ⟨fun p k hp => by rw [hGa62 p k (by omega), ← w51, yi_u_ne _ _ (by omega), hGa36 p k (by omega), hGa25 p k (by omega), fs18 p k (by omega), ← w16, yi_u_ne _ _ (by omega), ← w14, yi_u_ne _ _ (by omega), ← w12, yi_u_ne _ _ (by omega), fI9 p k (by omega), ← w2, yi_u_ne _ _ (by omega)], fun p k hp => by rw [fL10 p k (by omega)]⟩
        exact ⟨_, _, _, rfl, (by first | (rw [he63]; exact hx131) | (rw [he63]; exact hx131)), fun _ => hFF, fun h => absurd h (by omega)⟩
    · have hW134 := mt_W_t hW32 (mt_G_F hGa41)
      have hz135 : 0 < sp_f P (0 + 1) 1 := mt_f_ne hW32 hA27.2 (by omega)
      have hn136 : 0 < I40 82 8 := by rw [he42]; exact hz135
      have hx137 : sp_R K P V (0, 0, 0, [], sp_ld0, sp_nm0, []) (.inr (sp_f P (0 + 1) 1)) := sp_R_1 (by
        show sp_s0 K P V 0 sp_ld0 sp_nm0 [] = _
        unfold sp_s0
        (repeat (first | rw [if_pos (by omega)] | rw [if_neg (by omega)])))
      show yi_D zi_Ms d zi_m72 k (49, [(0, .inr (.inr (some 82)))], [.inl z43, .inl 50, .inr (.inr (some 88))], (I40, L4, R, Y), 0, 0) _
      refine yi_D_is rfl (fun _ _ => ?_)
      show yi_D zi_Ms d zi_m72 k (50, [(0, .inr (.inr (some 82)))], [], ((yi_u I40 88 50 z43), L4, R, Y), 0, 0) _
      generalize w139 : yi_u I40 88 50 z43 = I138
      have hf140 : 0 < I138 82 8 := by rw [← w139, yi_u_ne _ _ (by omega)]; exact hn136
      have he141 : I138 82 8 = _ := (show I138 82 8 = I40 82 8 by rw [← w139, yi_u_ne _ _ (by omega)]).trans he42
      refine yi_D_run 2 (53, [(0, .inr (.inr (some 82)))], [.inl 59, .inr (.inr (some 82))], (I138, L4, R, Y), 0, 0) (fun _ => rfl) ?_
      refine yi_D_callv rfl (q_takeSign_s hS hf140) ?_
      rintro _ rfl
      show yi_D zi_Ms d zi_m72 k (56, [(0, .inr (.inr (some 82)))], [], (I138, L4, R, Y), 0, 0) _
      refine yi_D_run 1 (57, [(0, .inr (.inr (some 82)))], [.inr (.inr (some 82))], (I138, L4, R, Y), 0, 0) (fun _ => rfl) ?_
      have r142 : I138 82 8 = I40 82 8 := by rw [← w139, yi_u_ne _ _ (by omega)]
      refine yi_D_gi (v := I40 82 8) rfl rfl rfl r142 (fun _ => ?_)
      have h143 : ¬ ((I40 82 8) = 0) := by omega
      refine yi_D_if1 true rfl (yi_ne_t h143) ?_
      refine yi_D_run 1 (89, [(0, .inr (.inr (some 82)))], [.inr (.inr (some 82))], (I138, L4, R, Y), 0, 0) (fun _ => rfl) ?_
      have r144 : I138 82 8 = I40 82 8 := by rw [← w139, yi_u_ne _ _ (by omega)]
      refine yi_D_gi (v := I40 82 8) rfl rfl rfl r144 (fun _ => ?_)
      have h145 : ¬ ((I40 82 8) ≤ 0) := by omega
      refine yi_D_if1 false rfl (yi_le_f h145) ?_
      refine yi_D_run 1 (96, [(0, .inr (.inr (some 82)))], [.inr (.inr (some 82))], (I138, L4, R, Y), 0, 0) (fun _ => rfl) ?_
      have r146 : I138 82 8 = I40 82 8 := by rw [← w139, yi_u_ne _ _ (by omega)]
      refine yi_D_gi (v := I40 82 8) rfl rfl rfl r146 (fun _ => ?_)
      refine yi_D_reti rfl ?_
      have hFF : lk_F I L I138 L4 := ⟨fun p k hp => by rw [← w139, yi_u_ne _ _ (by omega), hGa41 p k (by omega), hGa25 p k (by omega), fs18 p k (by omega), ← w16, yi_u_ne _ _ (by omega), ← w14, yi_u_ne _ _ (by omega), ← w12, yi_u_ne _ _ (by omega), fI9 p k (by omega), ← w2, yi_u_ne _ _ (by omega)], fun p k hp => by rw [fL10 p k (by omega)]⟩
      exact ⟨_, _, _, rfl, (by first | (rw [he141]; exact hx137) | (rw [he42]; exact hx137)), fun _ => hFF, fun h => absurd h (by omega)⟩
    · have hW147 := mt_W_t hW32 (mt_G_F hGa46)
      have hz148 : 0 < sp_f P (0 + 1) 4 := mt_f_ne hW32 hA27.2 (by omega)
      have hn149 : 0 < I45 82 8 := by rw [he47]; exact hz148
      have hx150 : sp_R K P V (0, 0, 0, [], sp_ld0, sp_nm0, []) (.inr (sp_f P (0 + 1) 4)) := sp_R_1 (by
        show sp_s0 K P V 0 sp_ld0 sp_nm0 [] = _
        unfold sp_s0
        (repeat (first | rw [if_pos (by omega)] | rw [if_neg (by omega)])))
      show yi_D zi_Ms d zi_m72 k (49, [(0, .inr (.inr (some 82)))], [.inl z48, .inl 50, .inr (.inr (some 88))], (I45, L4, R, Y), 0, 0) _
      refine yi_D_is rfl (fun _ _ => ?_)
      show yi_D zi_Ms d zi_m72 k (50, [(0, .inr (.inr (some 82)))], [], ((yi_u I45 88 50 z48), L4, R, Y), 0, 0) _
      generalize w152 : yi_u I45 88 50 z48 = I151
      have hf153 : 0 < I151 82 8 := by rw [← w152, yi_u_ne _ _ (by omega)]; exact hn149
      have he154 : I151 82 8 = _ := (show I151 82 8 = I45 82 8 by rw [← w152, yi_u_ne _ _ (by omega)]).trans he47
      refine yi_D_run 2 (53, [(0, .inr (.inr (some 82)))], [.inl 59, .inr (.inr (some 82))], (I151, L4, R, Y), 0, 0) (fun _ => rfl) ?_
      refine yi_D_callv rfl (q_takeSign_s hS hf153) ?_
      rintro _ rfl
      show yi_D zi_Ms d zi_m72 k (56, [(0, .inr (.inr (some 82)))], [], (I151, L4, R, Y), 0, 0) _
      refine yi_D_run 1 (57, [(0, .inr (.inr (some 82)))], [.inr (.inr (some 82))], (I151, L4, R, Y), 0, 0) (fun _ => rfl) ?_
      have r155 : I151 82 8 = I45 82 8 := by rw [← w152, yi_u_ne _ _ (by omega)]
      refine yi_D_gi (v := I45 82 8) rfl rfl rfl r155 (fun _ => ?_)
      have h156 : ¬ ((I45 82 8) = 0) := by omega
      refine yi_D_if1 true rfl (yi_ne_t h156) ?_
      refine yi_D_run 1 (89, [(0, .inr (.inr (some 82)))], [.inr (.inr (some 82))], (I151, L4, R, Y), 0, 0) (fun _ => rfl) ?_
      have r157 : I151 82 8 = I45 82 8 := by rw [← w152, yi_u_ne _ _ (by omega)]
      refine yi_D_gi (v := I45 82 8) rfl rfl rfl r157 (fun _ => ?_)
      have h158 : ¬ ((I45 82 8) ≤ 0) := by omega
      refine yi_D_if1 false rfl (yi_le_f h158) ?_
      refine yi_D_run 1 (96, [(0, .inr (.inr (some 82)))], [.inr (.inr (some 82))], (I151, L4, R, Y), 0, 0) (fun _ => rfl) ?_
      have r159 : I151 82 8 = I45 82 8 := by rw [← w152, yi_u_ne _ _ (by omega)]
      refine yi_D_gi (v := I45 82 8) rfl rfl rfl r159 (fun _ => ?_)
      refine yi_D_reti rfl ?_
      have hFF : lk_F I L I151 L4 := ⟨fun p k hp => by rw [← w152, yi_u_ne _ _ (by omega), hGa46 p k (by omega), hGa25 p k (by omega), fs18 p k (by omega), ← w16, yi_u_ne _ _ (by omega), ← w14, yi_u_ne _ _ (by omega), ← w12, yi_u_ne _ _ (by omega), fI9 p k (by omega), ← w2, yi_u_ne _ _ (by omega)], fun p k hp => by rw [fL10 p k (by omega)]⟩
      exact ⟨_, _, _, rfl, (by first | (rw [he154]; exact hx150) | (rw [he47]; exact hx150)), fun _ => hFF, fun h => absurd h (by omega)⟩
  · have hW160 := mt_W_t hW20 (mt_G_F hGa30)
    have hz161 : 0 < sp_f P 0 1 := mt_f_ne hW20 hA22.2 (by omega)
    have hn162 : 0 < I29 82 8 := by rw [he31]; exact hz161
    have hx163 : sp_R K P V (0, 0, 0, [], sp_ld0, sp_nm0, []) (.inr (sp_f P 0 1)) := sp_R_1 (by
      show sp_s0 K P V 0 sp_ld0 sp_nm0 [] = _
      unfold sp_s0
      (repeat (first | rw [if_pos (by omega)] | rw [if_neg (by omega)])))
    show yi_D zi_Ms d zi_m72 k (36, [(0, .inr (.inr (some 82)))], [], (I29, L4, R, Y), 0, 0) _
    refine yi_D_run 1 (37, [(0, .inr (.inr (some 82)))], [.inr (.inr (some 82))], (I29, L4, R, Y), 0, 0) (fun _ => rfl) ?_
    refine yi_D_gr (v := some 88) rfl rfl rfl (ym_S_at hS (j := 5) rfl).1 (fun _ => ?_)
    refine yi_D_run 4 (46, [(0, .inr (.inr (some 82)))], [.inl 6, .inl 1, .inr (.inr (some 82)), .inl 50, .inr (.inr (some 88))], (I29, L4, R, Y), 0, 0) (fun _ => rfl) ?_
    refine yi_D_callv rfl (q_takeNumber_f hW160 hn162) ?_
    rintro _ ⟨z164, rfl⟩
    show yi_D zi_Ms d zi_m72 k (49, [(0, .inr (.inr (some 82)))], [.inl z164, .inl 50, .inr (.inr (some 88))], (I29, L4, R, Y), 0, 0) _
    refine yi_D_is rfl (fun _ _ => ?_)
    show yi_D zi_Ms d zi_m72 k (50, [(0, .inr (.inr (some 82)))], [], ((yi_u I29 88 50 z164), L4, R, Y), 0, 0) _
    generalize w166 : yi_u I29 88 50 z164 = I165
    have hf167 : 0 < I165 82 8 := by rw [← w166, yi_u_ne _ _ (by omega)]; exact hn162
    have he168 : I165 82 8 = _ := (show I165 82 8 = I29 82 8 by rw [← w166, yi_u_ne _ _ (by omega)]).trans he31
    refine yi_D_run 2 (53, [(0, .inr (.inr (some 82)))], [.inl 59, .inr (.inr (some 82))], (I165, L4, R, Y), 0, 0) (fun _ => rfl) ?_
    refine yi_D_callv rfl (q_takeSign_s hS hf167) ?_
    rintro _ rfl
    show yi_D zi_Ms d zi_m72 k (56, [(0, .inr (.inr (some 82)))], [], (I165, L4, R, Y), 0, 0) _
    refine yi_D_run 1 (57, [(0, .inr (.inr (some 82)))], [.inr (.inr (some 82))], (I165, L4, R, Y), 0, 0) (fun _ => rfl) ?_
    have r169 : I165 82 8 = I29 82 8 := by rw [← w166, yi_u_ne _ _ (by omega)]
    refine yi_D_gi (v := I29 82 8) rfl rfl rfl r169 (fun _ => ?_)
    have h170 : ¬ ((I29 82 8) = 0) := by omega
    refine yi_D_if1 true rfl (yi_ne_t h170) ?_
    refine yi_D_run 1 (89, [(0, .inr (.inr (some 82)))], [.inr (.inr (some 82))], (I165, L4, R, Y), 0, 0) (fun _ => rfl) ?_
    have r171 : I165 82 8 = I29 82 8 := by rw [← w166, yi_u_ne _ _ (by omega)]
    refine yi_D_gi (v := I29 82 8) rfl rfl rfl r171 (fun _ => ?_)
    have h172 : ¬ ((I29 82 8) ≤ 0) := by omega
    refine yi_D_if1 false rfl (yi_le_f h172) ?_
    refine yi_D_run 1 (96, [(0, .inr (.inr (some 82)))], [.inr (.inr (some 82))], (I165, L4, R, Y), 0, 0) (fun _ => rfl) ?_
    have r173 : I165 82 8 = I29 82 8 := by rw [← w166, yi_u_ne _ _ (by omega)]
    refine yi_D_gi (v := I29 82 8) rfl rfl rfl r173 (fun _ => ?_)
    refine yi_D_reti rfl ?_
    have hFF : lk_F I L I165 L4 := ⟨fun p k hp => by rw [← w166, yi_u_ne _ _ (by omega), hGa30 p k (by omega), fs18 p k (by omega), ← w16, yi_u_ne _ _ (by omega), ← w14, yi_u_ne _ _ (by omega), ← w12, yi_u_ne _ _ (by omega), fI9 p k (by omega), ← w2, yi_u_ne _ _ (by omega)], fun p k hp => by rw [fL10 p k (by omega)]⟩
    exact ⟨_, _, _, rfl, (by first | (rw [he168]; exact hx163) | (rw [he31]; exact hx163)), fun _ => hFF, fun h => absurd h (by omega)⟩
