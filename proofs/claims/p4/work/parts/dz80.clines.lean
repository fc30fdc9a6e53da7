/-! The class: a land's programmes, as its lines leave them. -/
/-- a programme: from a place on to the next end -/
def sgm (cs : List (Int × Int)) (s : Nat) : List (Int × Int) := (cs.drop s).takeWhile (fun c => !decide (c.1 = 0))
def sgC (cs : List (Int × Int)) (s : Nat) : Prop := s + (sgm cs s).length < cs.length
theorem tw_app {p : Int × Int → Bool} {y : List (Int × Int)} : ∀ l : List (Int × Int), (l.takeWhile p).length < l.length → (l ++ y).takeWhile p = l.takeWhile p
  | [], h => absurd h (Nat.lt_irrefl 0)
  | a :: l, h => by
    by_cases c : p a = true
    · have e : ∀ z : List (Int × Int), (a :: z).takeWhile p = a :: z.takeWhile p := fun z => by rw [List.takeWhile_cons, if_pos c]
      rw [e, List.length_cons, List.length_cons] at h
      show (a :: (l ++ y)).takeWhile p = _
      rw [e, e, tw_app l (by omega)]
    · have e : ∀ z : List (Int × Int), (a :: z).takeWhile p = [] := fun z => by rw [List.takeWhile_cons, if_neg c]
      show (a :: (l ++ y)).takeWhile p = _
      rw [e, e]
theorem tw_new {y : List (Int × Int)} : ∀ x : List (Int × Int), (∀ c ∈ x, ¬ c.1 = 0) → (x ++ ((0 : Int), (0 : Int)) :: y).takeWhile (fun c => !decide (c.1 = 0)) = x
  | [], _ => by
    show (((0 : Int), (0 : Int)) :: y).takeWhile (fun c => !decide (c.1 = 0)) = []
    rw [List.takeWhile_cons]
    rfl
  | a :: x, h => by
    have h0 : ¬ a.1 = 0 := h a (List.mem_cons_self ..)
    show (a :: (x ++ ((0 : Int), (0 : Int)) :: y)).takeWhile (fun c => !decide (c.1 = 0)) = a :: x
    rw [List.takeWhile_cons, if_pos (by show (!decide (a.1 = 0)) = true; rw [decide_eq_false h0]; rfl), tw_new x (fun c hc => h c (List.mem_cons_of_mem a hc))]
theorem sgm_app {cs y : List (Int × Int)} {s : Nat} (h : sgC cs s) : sgm (cs ++ y) s = sgm cs s ∧ sgC (cs ++ y) s := by
  have h' : s + (sgm cs s).length < cs.length := h
  have e : sgm (cs ++ y) s = sgm cs s := by
    unfold sgm
    rw [List.drop_append_of_le_length (by omega)]
    refine tw_app _ ?_
    show (sgm cs s).length < (cs.drop s).length
    rw [List.length_drop]
    omega
  refine ⟨e, ?_⟩
  unfold sgC
  rw [e, List.length_append]
  omega
theorem sgm_new {cs c2 x : List (Int × Int)} (e : c2 = cs ++ x) (hx : ∀ c ∈ x, ¬ c.1 = 0) : sgm (c2 ++ [(0, 0)]) cs.length = x ∧ sgC (c2 ++ [(0, 0)]) cs.length := by
  have e1 : sgm (c2 ++ [(0, 0)]) cs.length = x := by
    unfold sgm
    rw [e, List.append_assoc, List.drop_left]
    exact tw_new x hx
  refine ⟨e1, ?_⟩
  unfold sgC
  rw [e1, e, List.length_append, List.length_append, List.length_singleton]
  omega
/-- a programme's codes of the class, with what its prophet puts behind them -/
def lnc (I : Nat → Nat → Int) (da : Nat) (vg : Int) (fr : Nat) (x : List (Int × Int)) (tl : List Nat) : Prop := (∀ k, k < x.length → I 19 (fr + k) = trF da vg (x.getD k (0, 0))) ∧ ∀ k, k < tl.length → I 19 (fr + x.length + k) = ((tl.getD k 0 : Nat) : Int)
def wtl (kd : Int) (b : Bool) : List Nat := if kd = 2 then [1] else if kd = 4 ∧ b = true then [0, 2] else []
/-- a wish's prophet's kind -/
def kw (ld : Nat → Int) (w : Nat) : Int := ld (11 + 2 * (ld (25 + 3 * w)).toNat)
def wvg (kd : Int) : Int := if kd = 1 then 1 else 0
def sl (ld : Nat → Int) (cs : List (Int × Int)) (j : Nat) : List (Int × Int) := sgm cs (ld (21 + j)).toNat
def sw (ld : Nat → Int) (cs : List (Int × Int)) (w : Nat) : List (Int × Int) := sgm cs (ld (27 + 3 * w)).toNat
def wtw (ld : Nat → Int) (cs : List (Int × Int)) (w : Nat) : List Nat := wtl (kw ld w) ((sw ld cs w).any isnm)
def ln_L (I : Nat → Nat → Int) (q u : Nat) (ld : Nat → Int) (cs : List (Int × Int)) (fr j : Nat) : Prop := (I (q + 9) j = (fr : Int) ∧ I (q + 10) j = ((fr + (sl ld cs j).length : Nat) : Int)) ∧ fr + (sl ld cs j).length ≤ u ∧ sgC cs (ld (21 + j)).toNat ∧ lnc I (ld 0).toNat 0 fr (sl ld cs j) []
def ln_W (I : Nat → Nat → Int) (q u : Nat) (ld : Nat → Int) (cs : List (Int × Int)) (fr w : Nat) : Prop := (I (q + 7) w = ld (25 + 3 * w) ∧ I (q + 8) w = ld (26 + 3 * w) ∧ 0 ≤ ld (25 + 3 * w) ∧ ld (25 + 3 * w) < ld 3) ∧ (I (q + 11) w = (fr : Int) ∧ I (q + 12) w = ((fr + ((sw ld cs w).length + (wtw ld cs w).length) : Nat) : Int)) ∧ fr + ((sw ld cs w).length + (wtw ld cs w).length) ≤ u ∧ sgC cs (ld (27 + 3 * w)).toNat ∧ lnc I (ld 0).toNat (wvg (kw ld w)) fr (sw ld cs w) (wtw ld cs w)
def ln_Pr (I : Nat → Nat → Int) (R : Nat → Nat → Option Nat) (Y : (Nat → Nat) × (Nat → Nat) × Nat) (q : Nat) (ld : Nat → Int) (cs : List (Int × Int)) : Prop := ∃ pp, (R q 12 = some pp ∧ q + 13 ≤ pp ∧ pp < Y.2.2 ∧ Y.1 pp = 20) ∧ ((ld 6 < 0 ∧ Y.2.1 pp = 1 ∧ I pp 0 = 258) ∨ (0 ≤ ld 6 ∧ sgC cs (ld 6).toNat ∧ Y.2.1 pp = (sgm cs (ld 6).toNat).length ∧ ∀ k, k < (sgm cs (ld 6).toNat).length → I pp k = trP ((sgm cs (ld 6).toNat).getD k (0, 0))))
/-- the codes of the lines read so far -/
def ln_S (I : Nat → Nat → Int) (R : Nat → Nat → Option Nat) (Y : (Nat → Nat) × (Nat → Nat) × Nat) (q u : Nat) (ld : Nat → Int) (cs : List (Int × Int)) : Prop := (I 11 3 = (u : Int) ∧ I 11 7 = 0) ∧ (∀ j : Nat, (j : Int) < ld 4 → ∃ fr, ln_L I q u ld cs fr j) ∧ (∀ w : Nat, (w : Int) < ld 5 → ∃ fr, ln_W I q u ld cs fr w) ∧ ln_Pr I R Y q ld cs
section LNS
variable {I L I' L' I1 L1 I2 L2 : Nat → Nat → Int} {R R' : Nat → Nat → Option Nat} {Y Y' : (Nat → Nat) × (Nat → Nat) × Nat} {q u u' fr j w n da : Nat} {ld ld' : Nat → Int} {cs cs' c2 y x : List (Int × Int)} {tr : Int × Int → Int} {b0 b1 vg v2 : Int} {fx : Nat → Int} {tl : List Nat} {cb : List (Int × Int)}
theorem lnc_t (h : lnc I da vg fr x tl) (hu : fr + (x.length + tl.length) ≤ u) (fc : ∀ k, k < u → I' 19 k = I 19 k) : lnc I' da vg fr x tl := ⟨fun k hk => (fc _ (by omega)).trans (h.1 k hk), fun k hk => (fc _ (by omega)).trans (h.2 k hk)⟩
theorem lnL_t (h : ln_L I q u ld cs fr j) (hu : u ≤ u') (fc : ∀ k, k < u → I' 19 k = I 19 k) (f9 : I' (q + 9) j = I (q + 9) j) (f10 : I' (q + 10) j = I (q + 10) j) (e0 : ld' 0 = ld 0) (ej : ld' (21 + j) = ld (21 + j)) : ln_L I' q u' ld' (cs ++ y) fr j := by
  obtain ⟨⟨a1, a2⟩, a3, a4, a5⟩ := h
  have es := sgm_app (y := y) a4
  have el : sl ld' (cs ++ y) j = sl ld cs j := by
    unfold sl
    rw [ej]
    exact es.1
  unfold ln_L
  rw [el, ej, e0]
  exact ⟨⟨f9.trans a1, f10.trans a2⟩, by omega, es.2, lnc_t a5 (u := u) (by show fr + ((sl ld cs j).length + 0) ≤ u; omega) fc⟩
theorem lnW_t (h : ln_W I q u ld cs fr w) (hu : u ≤ u') (fc : ∀ k, k < u → I' 19 k = I 19 k) (f7 : I' (q + 7) w = I (q + 7) w) (f8 : I' (q + 8) w = I (q + 8) w) (f11 : I' (q + 11) w = I (q + 11) w) (f12 : I' (q + 12) w = I (q + 12) w) (e0 : ld' 0 = ld 0) (e25 : ld' (25 + 3 * w) = ld (25 + 3 * w)) (e26 : ld' (26 + 3 * w) = ld (26 + 3 * w)) (e27 : ld' (27 + 3 * w) = ld (27 + 3 * w)) (e3 : ld 3 ≤ ld' 3) (ek : ∀ i : Nat, (i : Int) < ld 3 → ld' (11 + 2 * i) = ld (11 + 2 * i)) : ln_W I' q u' ld' (cs ++ y) fr w := by
  obtain ⟨⟨a1, a2, a3, a4⟩, ⟨b1, b2⟩, b3, b4, b5⟩ := h
  have es := sgm_app (y := y) b4
  have el : sw ld' (cs ++ y) w = sw ld cs w := by
    unfold sw
    rw [e27]
    exact es.1
  have ekw : kw ld' w = kw ld w := by
    unfold kw
    rw [e25]
    exact ek _ (by omega)
  have etw : wtw ld' (cs ++ y) w = wtw ld cs w := by
    unfold wtw
    rw [el, ekw]
  unfold ln_W
  rw [el, etw, ekw, e25, e26, e27, e0]
  exact ⟨⟨f7.trans a1, f8.trans a2, a3, by omega⟩, ⟨f11.trans b1, f12.trans b2⟩, by omega, es.2, lnc_t b5 (u := u) b3 fc⟩
theorem lnP_t (h : ln_Pr I R Y q ld cs) (fI : ∀ p k, q + 13 ≤ p → p < Y.2.2 → I' p k = I p k) (hR : R' q 12 = R q 12) (hY : Y.2.2 ≤ Y'.2.2 ∧ ∀ p, p < Y.2.2 → Y'.2.1 p = Y.2.1 p ∧ Y'.1 p = Y.1 p) (e6 : ld' 6 = ld 6) : ln_Pr I' R' Y' q ld' (cs ++ y) := by
  obtain ⟨pp, ⟨p1, p2, p3, p4⟩, hp⟩ := h
  refine ⟨pp, ⟨hR.trans p1, p2, by omega, (hY.2 pp p3).2.trans p4⟩, ?_⟩
  rw [e6, (hY.2 pp p3).1]
  rcases hp with ⟨a, b, c⟩ | ⟨a, b, c, d⟩
  · exact Or.inl ⟨a, b, (fI pp 0 p2 p3).trans c⟩
  · have es := sgm_app (y := y) b
    rw [es.1]
    exact Or.inr ⟨a, es.2, c, fun k hk => (fI pp k p2 p3).trans (d k hk)⟩
theorem ln_t (h : ln_S I R Y q u ld cs) (hu : u ≤ u') (e3 : I' 11 3 = (u' : Int)) (e7 : I' 11 7 = 0) (fc : ∀ k, k < u → I' 19 k = I 19 k) (fr : ∀ p k, q + 7 ≤ p → p < Y.2.2 → I' p k = I p k) (hR : R' q 12 = R q 12) (hY : Y.2.2 ≤ Y'.2.2 ∧ ∀ p, p < Y.2.2 → Y'.2.1 p = Y.2.1 p ∧ Y'.1 p = Y.1 p) (e0 : (ld 4 = 0 ∧ ld 5 = 0) ∨ ld' 0 = ld 0) (e4 : ∀ j, (4 ≤ j ∧ j ≤ 6) ∨ 21 ≤ j → ld' j = ld j) (el : ld 3 ≤ ld' 3) (ek : ∀ i : Nat, (i : Int) < ld 3 → ld' (11 + 2 * i) = ld (11 + 2 * i)) : ln_S I' R' Y' q u' ld' (cs ++ y) := by
  obtain ⟨-, hl, hw, hp⟩ := h
  have hp' := hp
  obtain ⟨pp, ⟨-, p2, p3, -⟩, -⟩ := hp'
  refine ⟨⟨e3, e7⟩, fun j hj => ?_, fun w hj => ?_, lnP_t hp (fun p k a b => fr p k (by omega) b) hR hY (e4 6 (by omega))⟩
  · rw [e4 4 (by omega)] at hj
    obtain ⟨f, hf⟩ := hl j hj
    have e00 : ld' 0 = ld 0 := by
      rcases e0 with z | z
      · omega
      · exact z
    exact ⟨f, lnL_t hf hu fc (fr _ _ (by omega) (by omega)) (fr _ _ (by omega) (by omega)) e00 (e4 _ (by omega))⟩
  · rw [e4 5 (by omega)] at hj
    obtain ⟨f, hf⟩ := hw w hj
    have e00 : ld' 0 = ld 0 := by
      rcases e0 with z | z
      · omega
      · exact z
    exact ⟨f, lnW_t hf hu fc (fr _ _ (by omega) (by omega)) (fr _ _ (by omega) (by omega)) (fr _ _ (by omega) (by omega)) (fr _ _ (by omega) (by omega)) e00 (e4 _ (by omega)) (e4 _ (by omega)) (e4 _ (by omega)) el ek⟩
/-- what the reader's tokens leave -/
theorem cc_0 (h : cc_S tr u cs (fun k => I 19 k) b0 vg false I1 cs) : I1 11 3 = (u : Int) ∧ I1 11 7 = vg ∧ I1 11 5 = b0 ∧ ∀ k, k < u → I1 19 k = I 19 k := by
  obtain ⟨-, h2, h3, -, h5, h6⟩ := h
  rw [Nat.sub_self] at h2
  rw [List.drop_length] at h6
  exact ⟨h2, h5, h6, h3⟩
theorem ln_A (h : ln_S I R Y q u ld cs) (hF : cs_F I L I1 L1) (hcc : cc_S tr u cs (fun k => I 19 k) b0 0 false I1 cs) (f : ∀ p k, ¬ p = q → ¬ p = q + 4 → ¬ p = q + 5 → ¬ p = q + 6 → I2 p k = I1 p k) (hq : 20 ≤ q) (e0 : (ld 4 = 0 ∧ ld 5 = 0) ∨ ld' 0 = ld 0) (e4 : ∀ j, (4 ≤ j ∧ j ≤ 6) ∨ 21 ≤ j → ld' j = ld j) (el : ld 3 ≤ ld' 3) (ek : ∀ i : Nat, (i : Int) < ld 3 → ld' (11 + 2 * i) = ld (11 + 2 * i)) : ln_S I2 R Y q u ld' cs := by
  obtain ⟨c1, c2, -, c4⟩ := cc_0 hcc
  have z := ln_t (I' := I2) (R' := R) (Y' := Y) (y := []) (u' := u) h (Nat.le_refl _) ((f 11 3 (by omega) (by omega) (by omega) (by omega)).trans c1) ((f 11 7 (by omega) (by omega) (by omega) (by omega)).trans c2) (fun k hk => (f 19 k (by omega) (by omega) (by omega) (by omega)).trans (c4 k hk)) (fun p k a b => (f p k (by omega) (by omega) (by omega) (by omega)).trans (hF.1 p k (by omega) (by omega))) rfl ⟨Nat.le_refl _, fun _ _ => ⟨rfl, rfl⟩⟩ e0 e4 el ek
  rw [List.append_nil] at z
  exact z
/-- a law's line -/
theorem ln_law (h : ln_S I R Y q u ld cs) (hF : cs_F I L I1 L1) (hcc : cc_S (trF (ld 0).toNat 0) u cs (fun k => I 19 k) b0 0 false I1 c2) (hn : ld 4 = (n : Int)) (hn4 : n < 4) (h35 : ld 3 ≤ 5) (hq : 20 ≤ q) (e1 : I2 (q + 9) n = (u : Int)) (e2 : I2 (q + 10) n = ((u + (c2.length - cs.length) : Nat) : Int)) (f : ∀ p k, ¬ (p = q + 9 ∧ k = n) ∧ ¬ (p = q + 10 ∧ k = n) ∧ ¬ (p = q ∧ k = 18) → I2 p k = I1 p k) : ln_S I2 R Y q (u + (c2.length - cs.length)) (sp_up (sp_up ld (21 + (ld 4).toNat) cs.length) 4 ((sp_up ld (21 + (ld 4).toNat) cs.length) 4 + 1)) (c2 ++ [(0, 0)]) := by
  obtain ⟨⟨x, ex, hx⟩, k2, k3, k4, k5, -⟩ := hcc
  obtain ⟨s1, s2⟩ := sgm_new ex hx
  have elen : c2.length = cs.length + x.length := by rw [ex, List.length_append]
  have hnn : (ld 4).toNat = n := by omega
  rw [hnn]
  obtain ⟨ld', hld⟩ : ∃ ld', ld' = sp_up (sp_up ld (21 + n) cs.length) 4 ((sp_up ld (21 + n) cs.length) 4 + 1) := ⟨_, rfl⟩
  rw [← hld]
  have d0 : ∀ k, ¬ k = 4 → ¬ k = 21 + n → ld' k = ld k := fun k h1 h2 => by rw [hld, sp_up_n _ _ h1, sp_up_n _ _ h2]
  have d1 : ld' (21 + n) = (cs.length : Int) := by rw [hld, sp_up_n _ _ (by omega), sp_up_e]
  have d4 : ld' 4 = (n : Int) + 1 := by rw [hld, sp_up_e, sp_up_n _ _ (by omega), hn]
  have d25 : ∀ w : Nat, (w : Int) < ld 5 → ¬ 25 + 3 * w = 21 + n ∧ ¬ 26 + 3 * w = 21 + n ∧ ¬ 27 + 3 * w = 21 + n := fun w _ => by omega
  obtain ⟨-, hl, hw, hp⟩ := h
  have hp' := hp
  obtain ⟨pp, ⟨-, p2, p3, -⟩, -⟩ := hp'
  have hcs : c2 ++ [(0, 0)] = cs ++ (x ++ [(0, 0)]) := by rw [ex, List.append_assoc]
  have fc : ∀ k, k < u → I2 19 k = I 19 k := fun k hk => (f 19 k (by omega)).trans (k3 k hk)
  have fr : ∀ p k, q + 7 ≤ p → ¬ (p = q + 9 ∧ k = n) → ¬ (p = q + 10 ∧ k = n) → I2 p k = I p k := fun p k a b c => (f p k (by omega)).trans (hF.1 p k (by omega) (by omega))
  refine ⟨⟨(f 11 3 (by omega)).trans k2, (f 11 7 (by omega)).trans k5⟩, fun j hj => ?_, fun w hj => ?_, ?_⟩
  · rw [d4] at hj
    by_cases c : j = n
    · rw [c]
      refine ⟨u, ?_⟩
      have es : sl ld' (c2 ++ [(0, 0)]) n = x := by
        unfold sl
        rw [d1, Int.toNat_natCast]
        exact s1
      unfold ln_L
      rw [es, d1, Int.toNat_natCast, d0 0 (by omega) (by omega)]
      refine ⟨⟨e1, e2.trans ?_⟩, by omega, s2, fun k hk => ?_, fun k hk => absurd hk (Nat.not_lt_zero k)⟩
      · rw [elen, Nat.add_sub_cancel_left]
      · rw [f 19 _ (by omega), k4 k (by omega), ex, List.getD_eq_getElem?_getD, List.getD_eq_getElem?_getD, List.getElem?_append_right (Nat.le_add_right _ _), Nat.add_sub_cancel_left]
    · obtain ⟨fr0, hf⟩ := hl j (by omega)
      refine ⟨fr0, ?_⟩
      rw [hcs]
      exact lnL_t hf (by omega) fc (fr _ _ (by omega) (by omega) (by omega)) (fr _ _ (by omega) (by omega) (by omega)) (d0 0 (by omega) (by omega)) (d0 _ (by omega) (by omega))
  · rw [d0 5 (by omega) (by omega)] at hj
    obtain ⟨fr0, hf⟩ := hw w hj
    refine ⟨fr0, ?_⟩
    rw [hcs]
    exact lnW_t hf (by omega) fc (fr _ _ (by omega) (by omega) (by omega)) (fr _ _ (by omega) (by omega) (by omega)) (fr _ _ (by omega) (by omega) (by omega)) (fr _ _ (by omega) (by omega) (by omega)) (d0 0 (by omega) (by omega)) (d0 _ (by omega) (by omega)) (d0 _ (by omega) (by omega)) (d0 _ (by omega) (by omega)) (by rw [d0 3 (by omega) (by omega)]; exact Int.le_refl _) (fun i hi => d0 _ (by omega) (by omega))
  · rw [hcs]
    exact lnP_t hp (fun p k a b => fr p k (by omega) (by omega) (by omega)) rfl ⟨Nat.le_refl _, fun _ _ => ⟨rfl, rfl⟩⟩ (d0 6 (by omega) (by omega))
/-- codes put behind a formula's -/
def tl_S (u1 : Nat) (I1 I2 : Nat → Nat → Int) (t : List Nat) : Prop := I2 11 3 = ((u1 + t.length : Nat) : Int) ∧ I2 11 7 = I1 11 7 ∧ (∀ k, k < t.length → I2 19 (u1 + k) = ((t.getD k 0 : Nat) : Int)) ∧ ∀ k, k < u1 → I2 19 k = I1 19 k
theorem tl_0 (h : I1 11 3 = (u : Int)) : tl_S u I1 I1 [] := ⟨h, rfl, fun k hk => absurd hk (Nat.not_lt_zero k), fun _ _ => rfl⟩
theorem tl_p {t : List Nat} {e : Nat} (h : tl_S u I1 I2 t) (hE : cc_E I2 I' (u + t.length) (e : Int)) : tl_S u I1 I' (t ++ [e]) := by
  obtain ⟨a1, a2, a3, a4⟩ := h
  obtain ⟨b1, b2, b3⟩ := hE
  have hl : (t ++ [e]).length = t.length + 1 := by rw [List.length_append, List.length_singleton]
  refine ⟨by rw [b2, hl]; omega, (b3 11 7 (by omega) (by omega)).trans a2, fun k hk => ?_, fun k hk => (b3 19 k (by omega) (by omega)).trans (a4 k hk)⟩
  by_cases c : k = t.length
  · rw [c, b1, List.getD_eq_getElem?_getD, List.getElem?_append_right (Nat.le_refl _), Nat.sub_self]
    rfl
  · rw [b3 19 _ (by omega) (by omega), a3 k (by omega), List.getD_eq_getElem?_getD, List.getD_eq_getElem?_getD, List.getElem?_append_left (by omega)]
/-- marks of the reader that are set -/
theorem cc_n0 (h : cc_S tr u cs fx b0 vg false I cs) (e : I' 11 5 = b1) (f : ∀ p k, ¬ (p = 11 ∧ k = 5) → I' p k = I p k) : cc_S tr u cs fx b1 vg false I' cs := by
  obtain ⟨h1, h2, h3, h4, h5, -⟩ := h
  refine ⟨h1, (f 11 3 (by omega)).trans h2, fun k hk => (f 19 k (by omega)).trans (h3 k hk), fun k hk => (f 19 _ (by omega)).trans (h4 k hk), (f 11 7 (by omega)).trans h5, ?_⟩
  rw [List.drop_length]
  exact e
theorem cc_sf {nw : Bool} (h : cc_S tr u cb fx b0 vg nw I cs) (e : I' 11 7 = v2) (f : ∀ p k, ¬ (p = 11 ∧ k = 7) → I' p k = I p k) : cc_S tr u cb fx b0 v2 nw I' cs := by
  obtain ⟨h1, h2, h3, h4, -, h6⟩ := h
  exact ⟨h1, (f 11 3 (by omega)).trans h2, fun k hk => (f 19 k (by omega)).trans (h3 k hk), fun k hk => (f 19 _ (by omega)).trans (h4 k hk), e, (f 11 5 (by omega)).trans h6⟩
/-- another way to write the codes, none being there yet -/
theorem cc_tr {tr2 : Int × Int → Int} (h : cc_S tr u cs fx b0 vg false I cs) : cc_S tr2 u cs fx b0 vg false I cs := by
  obtain ⟨h1, h2, h3, -, h5, h6⟩ := h
  exact ⟨h1, h2, h3, fun k hk => absurd hk (by omega), h5, h6⟩
/-- a wish's line -/
theorem ln_wish {kd who cn fr0 : Int} {t : List Nat} {I3 : Nat → Nat → Int} (h : ln_S I R Y q u ld cs) (hF : cs_F I L I1 L1) (hF2 : cs_F I L I2 L2) (hkd : kd = ld (11 + 2 * who.toNat)) (hwho : 0 ≤ who ∧ who < ld 3 ∧ ld 3 ≤ 5) (h44 : ld 4 ≤ 4) (hcc : cc_S (trF (ld 0).toNat (wvg kd)) u cs (fun k => I 19 k) 0 0 false I1 c2) (ht : tl_S (u + (c2.length - cs.length)) I1 I2 t) (htl : t = wtl kd (decide (¬ I1 11 5 = 0))) (hn : ld 5 = (n : Int)) (hn6 : n < 6) (hq : 20 ≤ q) (hfr : fr0 = (u : Int)) (e1 : I3 (q + 7) n = who) (e2 : I3 (q + 8) n = cn) (e3 : I3 (q + 11) n = fr0) (e4 : I3 (q + 12) n = ((u + (c2.length - cs.length) + t.length : Nat) : Int)) (f : ∀ p k, ¬ (p = q + 7 ∧ k = n) ∧ ¬ (p = q + 8 ∧ k = n) ∧ ¬ (p = q + 11 ∧ k = n) ∧ ¬ (p = q + 12 ∧ k = n) ∧ ¬ (p = q ∧ k = 19) → I3 p k = I2 p k) {ld' : Nat → Int} (hld : ld' = sp_up (sp_up (sp_up (sp_up ld (25 + 3 * (ld 5).toNat) who) (26 + 3 * (ld 5).toNat) cn) (27 + 3 * (ld 5).toNat) cs.length) 5 ((sp_up (sp_up (sp_up ld (25 + 3 * (ld 5).toNat) who) (26 + 3 * (ld 5).toNat) cn) (27 + 3 * (ld 5).toNat) cs.length) 5 + 1)) : ln_S I3 R Y q (u + (c2.length - cs.length) + t.length) ld' (c2 ++ [(0, 0)]) := by
  obtain ⟨⟨x, ex, hx⟩, k2, k3, k4, k5, k6⟩ := hcc
  obtain ⟨t1, t2, t3, t4⟩ := ht
  obtain ⟨s1, s2⟩ := sgm_new ex hx
  have elen : c2.length = cs.length + x.length := by rw [ex, List.length_append]
  have exl : c2.length - cs.length = x.length := by omega
  have hnn : (ld 5).toNat = n := by omega
  rw [hnn] at hld
  have d0 : ∀ k, ¬ k = 5 → ¬ k = 25 + 3 * n → ¬ k = 26 + 3 * n → ¬ k = 27 + 3 * n → ld' k = ld k := fun k h1 h2 h3 h4 => by rw [hld, sp_up_n _ _ h1, sp_up_n _ _ h4, sp_up_n _ _ h3, sp_up_n _ _ h2]
  have d25 : ld' (25 + 3 * n) = who := by rw [hld, sp_up_n _ _ (by omega), sp_up_n _ _ (by omega), sp_up_n _ _ (by omega), sp_up_e]
  have d26 : ld' (26 + 3 * n) = cn := by rw [hld, sp_up_n _ _ (by omega), sp_up_n _ _ (by omega), sp_up_e]
  have d27 : ld' (27 + 3 * n) = (cs.length : Int) := by rw [hld, sp_up_n _ _ (by omega), sp_up_e]
  have d5 : ld' 5 = (n : Int) + 1 := by rw [hld, sp_up_e, sp_up_n _ _ (by omega), sp_up_n _ _ (by omega), sp_up_n _ _ (by omega), hn]
  obtain ⟨-, hl, hw, hp⟩ := h
  have hp' := hp
  obtain ⟨pp, ⟨-, p2, p3, -⟩, -⟩ := hp'
  have hcs : c2 ++ [(0, 0)] = cs ++ (x ++ [(0, 0)]) := by rw [ex, List.append_assoc]
  have fc : ∀ k, k < u → I3 19 k = I 19 k := fun k hk => (f 19 k (by omega)).trans ((t4 k (by omega)).trans (k3 k hk))
  have fr : ∀ p k, q + 7 ≤ p → ¬ (p = q + 7 ∧ k = n) → ¬ (p = q + 8 ∧ k = n) → ¬ (p = q + 11 ∧ k = n) → ¬ (p = q + 12 ∧ k = n) → I3 p k = I p k := fun p k a b c d e => (f p k (by omega)).trans (hF2.1 p k (by omega) (by omega))
  have hnm : decide (¬ I1 11 5 = 0) = x.any isnm := by
    rw [k6, ex, List.drop_left]
    cases z : x.any isnm with
    | true => rfl
    | false => rfl
  rw [hnm] at htl
  refine ⟨⟨(f 11 3 (by omega)).trans t1, (f 11 7 (by omega)).trans (t2.trans k5)⟩, fun j hj => ?_, fun w hj => ?_, ?_⟩
  · rw [d0 4 (by omega) (by omega) (by omega) (by omega)] at hj
    obtain ⟨fr1, hf⟩ := hl j hj
    refine ⟨fr1, ?_⟩
    rw [hcs]
    exact lnL_t hf (by omega) fc (fr _ _ (by omega) (by omega) (by omega) (by omega) (by omega)) (fr _ _ (by omega) (by omega) (by omega) (by omega) (by omega)) (d0 0 (by omega) (by omega) (by omega) (by omega)) (d0 _ (by omega) (by omega) (by omega) (by omega))
  · rw [d5] at hj
    by_cases c : w = n
    · rw [c]
      refine ⟨u, ?_⟩
      have es : sw ld' (c2 ++ [(0, 0)]) n = x := by
        unfold sw
        rw [d27, Int.toNat_natCast]
        exact s1
      have ekw : kw ld' n = kd := by
        unfold kw
        rw [d25, hkd]
        exact d0 _ (by omega) (by omega) (by omega) (by omega)
      have etw : wtw ld' (c2 ++ [(0, 0)]) n = t := by
        unfold wtw
        rw [es, ekw, htl]
      unfold ln_W
      rw [es, etw, ekw, d25, d26, d27, Int.toNat_natCast, d0 0 (by omega) (by omega) (by omega) (by omega), d0 3 (by omega) (by omega) (by omega) (by omega)]
      refine ⟨⟨e1, e2, hwho.1, hwho.2.1⟩, ⟨e3.trans hfr, e4.trans ?_⟩, by omega, s2, fun k hk => ?_, fun k hk => ?_⟩
      · rw [exl, Nat.add_assoc]
      · rw [f 19 _ (by omega), t4 _ (by omega), k4 k (by omega), ex, List.getD_eq_getElem?_getD, List.getD_eq_getElem?_getD, List.getElem?_append_right (Nat.le_add_right _ _), Nat.add_sub_cancel_left]
      · rw [f 19 _ (by omega), ← exl]
        exact t3 k hk
    · obtain ⟨fr1, hf⟩ := hw w (by omega)
      refine ⟨fr1, ?_⟩
      rw [hcs]
      exact lnW_t hf (by omega) fc (fr _ _ (by omega) (by omega) (by omega) (by omega) (by omega)) (fr _ _ (by omega) (by omega) (by omega) (by omega) (by omega)) (fr _ _ (by omega) (by omega) (by omega) (by omega) (by omega)) (fr _ _ (by omega) (by omega) (by omega) (by omega) (by omega)) (d0 0 (by omega) (by omega) (by omega) (by omega)) (d0 _ (by omega) (by omega) (by omega) (by omega)) (d0 _ (by omega) (by omega) (by omega) (by omega)) (d0 _ (by omega) (by omega) (by omega) (by omega)) (by rw [d0 3 (by omega) (by omega) (by omega) (by omega)]; exact Int.le_refl _) (fun i hi => d0 _ (by omega) (by omega) (by omega) (by omega))
  · rw [hcs]
    exact lnP_t hp (fun p k a b => fr p k (by omega) (by omega) (by omega) (by omega) (by omega)) rfl ⟨Nat.le_refl _, fun _ _ => ⟨rfl, rfl⟩⟩ (d0 6 (by omega) (by omega) (by omega) (by omega))
/-- a price's line -/
theorem ln_price {pp : Nat} (h : ln_S I R Y q u ld cs) (hF : cs_F I L I1 L1) (hcc : cc_S trP u cs (fun k => I 19 k) b0 0 false I1 c2) (hq : 20 ≤ q) (g1 : Y.2.2 ≤ pp ∧ pp < Y'.2.2 ∧ Y'.1 pp = 20 ∧ Y'.2.1 pp = c2.length - cs.length) (g2 : R' q 12 = some pp) (g3 : ∀ k, k < c2.length - cs.length → I2 pp k = I1 19 (u + k)) (g4 : ∀ x k, x < Y.2.2 → ¬ (x = q ∧ k = 13) → I2 x k = I1 x k) (hY : Y.2.2 ≤ Y'.2.2 ∧ ∀ p, p < Y.2.2 → Y'.2.1 p = Y.2.1 p ∧ Y'.1 p = Y.1 p) : ln_S I2 R' Y' q (u + (c2.length - cs.length)) (sp_up ld 6 (cs.length : Nat)) (c2 ++ [(0, 0)]) := by
  obtain ⟨⟨x, ex, hx⟩, k2, k3, k4, k5, -⟩ := hcc
  obtain ⟨s1, s2⟩ := sgm_new ex hx
  have elen : c2.length = cs.length + x.length := by rw [ex, List.length_append]
  have exl : c2.length - cs.length = x.length := by omega
  obtain ⟨-, hl, hw, hp⟩ := h
  obtain ⟨p0, ⟨-, p2, p3, -⟩, -⟩ := hp
  have hcs : c2 ++ [(0, 0)] = cs ++ (x ++ [(0, 0)]) := by rw [ex, List.append_assoc]
  have d0 : ∀ k, ¬ k = 6 → sp_up ld 6 (cs.length : Nat) k = ld k := fun k h1 => sp_up_n _ _ h1
  have fc : ∀ k, k < u → I2 19 k = I 19 k := fun k hk => (g4 19 k (by omega) (by omega)).trans (k3 k hk)
  have fr : ∀ p k, q + 7 ≤ p → p < Y.2.2 → I2 p k = I p k := fun p k a b => (g4 p k b (by omega)).trans (hF.1 p k (by omega) (by omega))
  refine ⟨⟨(g4 11 3 (by omega) (by omega)).trans k2, (g4 11 7 (by omega) (by omega)).trans k5⟩, fun j hj => ?_, fun w hj => ?_, pp, ⟨g2, by omega, g1.2.1, g1.2.2.1⟩, ?_⟩
  · rw [d0 4 (by omega)] at hj
    obtain ⟨fr0, hf⟩ := hl j hj
    refine ⟨fr0, ?_⟩
    rw [hcs]
    exact lnL_t hf (by omega) fc (fr _ _ (by omega) (by omega)) (fr _ _ (by omega) (by omega)) (d0 0 (by omega)) (d0 _ (by omega))
  · rw [d0 5 (by omega)] at hj
    obtain ⟨fr0, hf⟩ := hw w hj
    refine ⟨fr0, ?_⟩
    rw [hcs]
    exact lnW_t hf (by omega) fc (fr _ _ (by omega) (by omega)) (fr _ _ (by omega) (by omega)) (fr _ _ (by omega) (by omega)) (fr _ _ (by omega) (by omega)) (d0 0 (by omega)) (d0 _ (by omega)) (d0 _ (by omega)) (d0 _ (by omega)) (by rw [d0 3 (by omega)]; exact Int.le_refl _) (fun i _ => d0 _ (by omega))
  · right
    rw [sp_up_e, Int.toNat_natCast, s1]
    refine ⟨by omega, s2, g1.2.2.2.trans exl, fun k hk => ?_⟩
    rw [g3 k (by omega), k4 k (by omega), ex, List.getD_eq_getElem?_getD, List.getD_eq_getElem?_getD, List.getElem?_append_right (Nat.le_add_right _ _), Nat.add_sub_cancel_left]
end LNS
/-- what a line leaves, codes and all -/
def cs_QLC (I L : Nat → Nat → Int) (R : Nat → Nat → Option Nat) (Y : (Nat → Nat) × (Nat → Nat) × Nat) (K P V : Nat → Int) (te : Nat) (c : sp_C) (q a : Nat) (r : yi_R) : Prop := ∃ I' L' R' Y' n m, r = (none, (I', L', R', Y'), n, m) ∧ cs_H q I L R Y I' L' R' Y' ∧ ((∃ a' ld' nm' cs' u', sp_R K P V c (.inl (2, a', 0, [], ld', nm', cs')) ∧ a < a' ∧ I' 11 11 = 0 ∧ cs_A I' L' K te a' ∧ cs_W I' L' R' Y' K P V te q ld' nm' ∧ ln_S I' R' Y' q u' ld' cs' ∧ u' ≤ a') ∨ (∃ f, sp_R K P V c (.inr f) ∧ ¬ f = 0 ∧ I' 11 11 = f))
theorem p_setPriceI {d : Nat} {I L : Nat → Nat → Int} {R : Nat → Nat → Option Nat} {Y : (Nat → Nat) × (Nat → Nat) × Nat} {q fr m : Nat} {x y : Int} (hq : 20 ≤ q ∧ q < Y.2.2) (hN : 20 ≤ Y.2.2) (hY : Y.2.1 19 = 1002) (hm : fr + m ≤ 1002) (hx : x = (fr : Int)) (hy : y = ((fr + m : Nat) : Int)) : yi_P zi_Ms d 237 [.inr (.inr (some q)), .inr (.inr (some 19)), .inl x, .inl y] (I, L, R, Y) (fun r => ∃ I' L' R' Y' nc ns p, r = (none, (I', L', R', Y'), nc, ns) ∧ (Y.2.2 ≤ p ∧ p < Y'.2.2 ∧ Y'.1 p = 20 ∧ Y'.2.1 p = m) ∧ R' q 12 = some p ∧ (∀ k, k < m → I' p k = I 19 (fr + k)) ∧ (∀ x k, x < Y.2.2 → ¬ (x = q ∧ k = 13) → I' x k = I x k) ∧ (∀ x k, x < Y.2.2 → L' x k = L x k) ∧ I' q 13 = 1 ∧ (∀ x k, x < Y.2.2 → ¬ (x = q ∧ k = 12) → R' x k = R x k) ∧ Y.2.2 ≤ Y'.2.2 ∧ ∀ x, x < Y.2.2 → Y'.1 x = Y.1 x ∧ Y'.2.1 x = Y.2.1 x) := by
  subst hx hy
  exact p_setPriceE hq hN hY hm
theorem p_isProphetX {d : Nat} {I L : Nat → Nat → Int} {R : Nat → Nat → Option Nat} {Y : (Nat → Nat) × (Nat → Nat) × Nat} {x : Int} {K P V : Nat → Int} {te q : Nat} {ld : Nat → Int} {nm : Int → Int} (hW : cs_W I L R Y K P V te q ld nm) (hx : 0 ≤ x ∧ x < ld 3) : yi_P zi_Ms d 231 [.inr (.inr (some q)), .inl x] (I, L, R, Y) (fun r => r = (some (.inl 1), (I, L, R, Y), 0, 0)) := by
  refine yi_P_of (M := zi_m231) rfl (fun d k => ?_)
  obtain ⟨ly1, ly2, ly3, ly4⟩ := hW.2.2.1.2.2.2
  have lb := hW.2.2.2.2.1
  have hq0 := hW.2.2.1.1
  show yi_D zi_Ms d zi_m231 k (0, [(0, .inr (.inr (some q))), (1, .inl x)], [], (I, L, R, Y), 0, 0) _
  refine yi_D_run 1 (1, [(0, .inr (.inr (some q))), (1, .inl x)], [.inl x], (I, L, R, Y), 0, 0) (fun _ => rfl) ?_
  by_cases h1 : x < 0
  · refine yi_D_if1 true rfl (yi_lt_t h1) ?_
    refine yi_D_run 1 (22, [(0, .inr (.inr (some q))), (1, .inl x)], [.inl 0], (I, L, R, Y), 0, 0) (fun _ => rfl) ?_
    refine yi_D_reti rfl ?_
    first | rfl | (exfalso; omega)
  · refine yi_D_if1 false rfl (yi_lt_f h1) ?_
    refine yi_D_run 2 (6, [(0, .inr (.inr (some q))), (1, .inl x)], [.inr (.inr (some q)), .inl x], (I, L, R, Y), 0, 0) (fun _ => rfl) ?_
    refine yi_D_gi (v := ld 3) rfl rfl (Nat.ble_eq_true_of_le (by omega)) hW.2.2.2.1.2.2.2.1 (fun _ => ?_)
    by_cases h2 : (ld 3) ≤ x
    · refine yi_D_if2 true rfl (yi_ge_t h2) ?_
      refine yi_D_run 1 (22, [(0, .inr (.inr (some q))), (1, .inl x)], [.inl 0], (I, L, R, Y), 0, 0) (fun _ => rfl) ?_
      refine yi_D_reti rfl ?_
      first | rfl | (exfalso; omega)
    · refine yi_D_if2 false rfl (yi_ge_f h2) ?_
      refine yi_D_run 2 (14, [(0, .inr (.inr (some q))), (1, .inl x)], [.inl 5, .inl x], (I, L, R, Y), 0, 0) (fun _ => rfl) ?_
      by_cases h3 : 5 ≤ x
      · refine yi_D_if2 true rfl (yi_ge_t h3) ?_
        refine yi_D_run 1 (22, [(0, .inr (.inr (some q))), (1, .inl x)], [.inl 0], (I, L, R, Y), 0, 0) (fun _ => rfl) ?_
        refine yi_D_reti rfl ?_
        first | rfl | (exfalso; omega)
      · refine yi_D_if2 false rfl (yi_ge_f h3) ?_
        refine yi_D_run 2 (22, [(0, .inr (.inr (some q))), (1, .inl x)], [.inl 1], (I, L, R, Y), 0, 0) (fun _ => rfl) ?_
        refine yi_D_reti rfl ?_
        first | rfl | (exfalso; omega)
theorem p_kindOfX {d : Nat} {I L : Nat → Nat → Int} {R : Nat → Nat → Option Nat} {Y : (Nat → Nat) × (Nat → Nat) × Nat} {x : Int} {K P V : Nat → Int} {te q : Nat} {ld : Nat → Int} {nm : Int → Int} (hW : cs_W I L R Y K P V te q ld nm) (hx : 0 ≤ x ∧ x < ld 3) : yi_P zi_Ms d 234 [.inr (.inr (some q)), .inl x] (I, L, R, Y) (fun r => ∃ z, r = (some (.inl z), (I, L, R, Y), 0, 0) ∧ z = ld (11 + 2 * x.toNat)) := by
  refine yi_P_of (M := zi_m234) rfl (fun d k => ?_)
  obtain ⟨ly1, ly2, ly3, ly4⟩ := hW.2.2.1.2.2.2
  have lb := hW.2.2.2.2.1
  have hq0 := hW.2.2.1.1
  show yi_D zi_Ms d zi_m234 k (0, [(0, .inr (.inr (some q))), (1, .inl x)], [], (I, L, R, Y), 0, 0) _
  refine yi_D_run 2 (2, [(0, .inr (.inr (some q))), (1, .inl x)], [.inl x, .inr (.inr (some q))], (I, L, R, Y), 0, 0) (fun _ => rfl) ?_
  refine yi_D_callv rfl (p_isProphetX hW hx) ?_
  rintro _ rfl
  show yi_D zi_Ms d zi_m234 k (5, [(0, .inr (.inr (some q))), (1, .inl x)], [.inl 1], (I, L, R, Y), 0, 0) _
  refine yi_D_if1 false rfl (by decide) ?_
  refine yi_D_run 1 (9, [(0, .inr (.inr (some q))), (1, .inl x)], [.inr (.inr (some q))], (I, L, R, Y), 0, 0) (fun _ => rfl) ?_
  refine yi_D_gr (v := some (q + 5)) rfl rfl (Nat.ble_eq_true_of_le (by omega)) (hW.2.2.1.2.2.1 4 (by omega)) (fun _ => ?_)
  refine yi_D_run 1 (13, [(0, .inr (.inr (some q))), (1, .inl x)], [.inl x, .inr (.inr (some (q + 5)))], (I, L, R, Y), 0, 0) (fun _ => rfl) ?_
  refine yi_D_il (v := I (q + 5) (x.toNat)) rfl (Nat.ble_eq_true_of_le (by omega)) rfl (fun _ _ => ?_)
  refine yi_D_run 1 (18, [(0, .inr (.inr (some q))), (1, .inl x)], [.inl (I (q + 5) (x.toNat))], (I, L, R, Y), 0, 0) (fun _ => rfl) ?_
  refine yi_D_reti rfl ?_
  exact ⟨_, rfl, (hW.2.2.2.2.2.2.2.2.2 x.toNat (by omega)).1⟩
theorem p_readPersonC {d : Nat} {I L : Nat → Nat → Int} {R : Nat → Nat → Option Nat} {Y : (Nat → Nat) × (Nat → Nat) × Nat} {K P V : Nat → Int} {te q a : Nat} {ld : Nat → Int} {nm : Int → Int} (hW : cs_W I L R Y K P V te q ld nm) (hf : I 11 11 = 0) (hA : cs_A I L K te a) (cs : List (Int × Int)) (hk : K a = 5) {u : Nat} (hln : ln_S I R Y q u ld cs) (hua : u ≤ a) : yi_P zi_Ms d 262 [.inr (.inr (some 11))] (I, L, R, Y) (cs_QLC I L R Y K P V te (2, a, 0, [], ld, nm, cs) q a) := by
  refine yi_P_of (M := zi_m262) rfl (fun d k => ?_)
  obtain ⟨ly1, ly2, ly3, ly4⟩ := hW.2.2.1.2.2.2
  have lb := hW.2.2.2.2.1
  have hq0 := hW.2.2.1.1
  have hcc := cc_S_0 (tr := trP) (cs := cs) hln.1.1 hln.1.2
  have hle0 := hA.2.1
  have hte0 := hW.2.1.1
  show yi_D zi_Ms d zi_m262 k (0, [(0, .inr (.inr (some 11)))], [], (I, L, R, Y), 0, 0) _
  refine yi_D_run 1 (1, [(0, .inr (.inr (some 11)))], [.inr (.inr (some 11))], (I, L, R, Y), 0, 0) (fun _ => rfl) ?_
  refine yi_D_gr (v := some q) rfl rfl rfl hW.2.2.1.2.1 (fun _ => ?_)
  refine yi_D_gi (v := ld 1) rfl rfl (Nat.ble_eq_true_of_le (by omega)) hW.2.2.2.1.2.1 (fun _ => ?_)
  refine yi_D_run 1 (8, [(0, .inr (.inr (some 11)))], [.inl 4, .inl (ld 1)], (I, L, R, Y), 0, 0) (fun _ => rfl) ?_
  by_cases h1 : 4 ≤ (ld 1)
  · refine yi_D_if2 true rfl (yi_ge_t h1) ?_
    refine yi_D_run 2 (41, [(0, .inr (.inr (some 11)))], [.inl 5, .inr (.inr (some 11))], (I, L, R, Y), 0, 0) (fun _ => rfl) ?_
    refine yi_D_callv rfl (p_wrong_z ⟨by omega, by omega⟩ hW hf hA) ?_
    rintro _ ⟨I2, rfl, hg3, he4⟩
    have hGw5 : cs_G I L I2 L := ⟨fun p k hp => hg3 p k (by omega), fun _ _ _ => rfl⟩
    have hW6 := cs_W_t hW (cs_G_F hGw5)
    have hF7 := (cs_G_F hGw5)
    have hG8 := hGw5
    have hz9 : ¬ sp_f P a 5 = 0 := sp_f_ne hW hA.2.1 (by omega)
    have hn10 : ¬ I2 11 11 = 0 := by rw [he4]; exact hz9
    have hx11 : sp_R K P V (2, a, 0, [], ld, nm, cs) (.inr (sp_f P a 5)) := sp_R_1 (by
      show sp_line K P V a ld nm cs = _
      first
      | (exfalso; omega)
      | (unfold sp_line; repeat (first | rw [if_pos (by omega)] | rw [if_neg (by omega)]); unfold sp_person; repeat (first | rw [if_pos (by omega)] | rw [if_neg (by omega)])))
    show yi_D zi_Ms d zi_m262 k (44, [(0, .inr (.inr (some 11)))], [], (I2, L, R, Y), 0, 0) _
    refine yi_D_run 2 (46, [(0, .inr (.inr (some 11)))], [.inl 5, .inr (.inr (some 11))], (I2, L, R, Y), 0, 0) (fun _ => rfl) ?_
    refine yi_D_callv rfl (p_takeKind_f hW6 hn10) ?_
    rintro _ rfl
    show yi_D zi_Ms d zi_m262 k (49, [(0, .inr (.inr (some 11)))], [], (I2, L, R, Y), 0, 0) _
    refine yi_D_run 1 (50, [(0, .inr (.inr (some 11)))], [.inr (.inr (some 11))], (I2, L, R, Y), 0, 0) (fun _ => rfl) ?_
    refine yi_D_callv rfl (p_takeNewName_f hW6 hn10) ?_
    rintro _ ⟨z12, rfl⟩
    show yi_D zi_Ms d zi_m262 k (53, [(0, .inr (.inr (some 11)))], [.inr (.inl z12)], (I2, L, R, Y), 0, 0) _
    refine yi_D_run 3 (57, [(1, .inr (.inl z12)), (0, .inr (.inr (some 11)))], [.inl 6, .inr (.inr (some 11))], (I2, L, R, Y), 0, 0) (fun _ => rfl) ?_
    refine yi_D_callv rfl (p_takeKind_f hW6 hn10) ?_
    rintro _ rfl
    show yi_D zi_Ms d zi_m262 k (60, [(1, .inr (.inl z12)), (0, .inr (.inr (some 11)))], [], (I2, L, R, Y), 0, 0) _
    refine yi_D_run 3 (64, [(1, .inr (.inl z12)), (0, .inr (.inr (some 11)))], [.inl 99, .inl 0, .inr (.inr (some 11))], (I2, L, R, Y), 0, 0) (fun _ => rfl) ?_
    refine yi_D_callv rfl (p_takeNumber_f hW6 hn10) ?_
    rintro _ ⟨z13, rfl⟩
    show yi_D zi_Ms d zi_m262 k (67, [(1, .inr (.inl z12)), (0, .inr (.inr (some 11)))], [.inl z13], (I2, L, R, Y), 0, 0) _
    refine yi_D_run 3 (71, [(3, .inl z13), (1, .inr (.inl z12)), (0, .inr (.inr (some 11)))], [.inl 59, .inr (.inr (some 11))], (I2, L, R, Y), 0, 0) (fun _ => rfl) ?_
    
    refine yi_D_callv rfl (p_takeKind_f hW6 hn10) ?_
    rintro _ rfl
    show yi_D zi_Ms d zi_m262 k (74, [(3, .inl z13), (1, .inr (.inl z12)), (0, .inr (.inr (some 11)))], [], (I2, L, R, Y), 0, 0) _
    refine yi_D_run 1 (75, [(3, .inl z13), (1, .inr (.inl z12)), (0, .inr (.inr (some 11)))], [.inr (.inr (some 11))], (I2, L, R, Y), 0, 0) (fun _ => rfl) ?_
    refine yi_D_gi (v := I2 11 11) rfl rfl rfl rfl (fun _ => ?_)
    have h14 : ¬ ((I2 11 11) = 0) := by omega
    refine yi_D_if1 true rfl (yi_ne_t h14) ?_
    refine yi_D_retv rfl ?_
    exact ⟨_, _, _, _, _, _, rfl, cs_H_F hF7, Or.inr ⟨_, hx11, hz9, he4⟩⟩
  · refine yi_D_if2 false rfl (yi_ge_f h1) ?_
    refine yi_D_run 1 (12, [(0, .inr (.inr (some 11)))], [.inr (.inr (some 11))], (I, L, R, Y), 0, 0) (fun _ => rfl) ?_
    refine yi_D_gr (v := some q) rfl rfl rfl hW.2.2.1.2.1 (fun _ => ?_)
    refine yi_D_run 1 (16, [(0, .inr (.inr (some 11)))], [.inr (.inr (some 11)), .inr (.inr (some q))], (I, L, R, Y), 0, 0) (fun _ => rfl) ?_
    refine yi_D_gr (v := some q) rfl rfl rfl hW.2.2.1.2.1 (fun _ => ?_)
    refine yi_D_gi (v := ld 1) rfl rfl (Nat.ble_eq_true_of_le (by omega)) hW.2.2.2.1.2.1 (fun _ => ?_)
    refine yi_D_run 1 (23, [(0, .inr (.inr (some 11)))], [.inl 1, .inl (ld 1), .inr (.inr (some q))], (I, L, R, Y), 0, 0) (fun _ => rfl) ?_
    refine yi_D_iadd rfl ((ld 1) + 1) (yi_wn (by omega) (by omega)) ?_
    refine yi_D_run 1 (25, [(0, .inr (.inr (some 11)))], [.inr (.inr (some 11)), .inl ((ld 1) + 1), .inr (.inr (some q))], (I, L, R, Y), 0, 0) (fun _ => rfl) ?_
    refine yi_D_gr (v := some q) rfl rfl rfl hW.2.2.1.2.1 (fun _ => ?_)
    refine yi_D_gi (v := ld 2) rfl rfl (Nat.ble_eq_true_of_le (by omega)) hW.2.2.2.1.2.2.1 (fun _ => ?_)
    refine yi_D_callv rfl (p_futuresWith hW ⟨by omega, by omega⟩ ⟨by omega, by omega⟩) ?_
    rintro _ ⟨z15, rfl, hz16⟩
    show yi_D zi_Ms d zi_m262 k (34, [(0, .inr (.inr (some 11)))], [.inl z15], (I, L, R, Y), 0, 0) _
    refine yi_D_ldc (32768) rfl (by decide +kernel) ?_
    by_cases h17 : z15 ≤ 32768
    · refine yi_D_if2 true rfl (yi_le_t h17) ?_
      refine yi_D_run 2 (46, [(0, .inr (.inr (some 11)))], [.inl 5, .inr (.inr (some 11))], (I, L, R, Y), 0, 0) (fun _ => rfl) ?_
      refine yi_D_callv rfl (p_takeKind_z (by omega) hW hf hA) ?_
      rintro _ (⟨c18, I19, L20, rfl, hGa21, hf22, hA23⟩ | ⟨c24, I25, L26, rfl, hGa27, he28⟩)
      · have hA23 : cs_A I19 L20 K te (a + 1) := hA23
        have hW29 := cs_W_t hW (cs_G_F hGa21)
        have hF30 := (cs_G_F hGa21)
        have hG31 := hGa21
        have hcc32 := cc_G hcc hGa21
        show yi_D zi_Ms d zi_m262 k (49, [(0, .inr (.inr (some 11)))], [], (I19, L20, R, Y), 0, 0) _
        refine yi_D_run 1 (50, [(0, .inr (.inr (some 11)))], [.inr (.inr (some 11))], (I19, L20, R, Y), 0, 0) (fun _ => rfl) ?_
        refine yi_D_callv rfl (p_takeNewName_z hW29 hf22 hA23) ?_
        rintro _ (⟨c33, c34, I35, L36, rfl, hGa37, hf38, hA39⟩ | ⟨c40, z45, I41, L42, rfl, hGa43, he44⟩ | ⟨c46, z51, I47, L48, rfl, hGa49, he50⟩)
        · have hA39 : cs_A I35 L36 K te (a + 2) := hA39
          have hW52 := cs_W_t hW29 (cs_G_F hGa37)
          have hF53 := cs_F_t hF30 (cs_G_F hGa37)
          have hG54 := cs_G_t hG31 hGa37
          have hcc55 := cc_G hcc32 hGa37
          have hwr : sp_WR (L20 16 (a + 1)) (V (a + 1)) := by
            rw [hF30.2 16 (a + 1) (by omega)]
            exact (hW.2.1.2.2.1 (a + 1) hA23.2.1).2.2.2.2.1 (by omega)
          show yi_D zi_Ms d zi_m262 k (53, [(0, .inr (.inr (some 11)))], [.inr (.inl (L20 16 (a + 1)))], (I35, L36, R, Y), 0, 0) _
          refine yi_D_run 3 (57, [(1, .inr (.inl (L20 16 (a + 1)))), (0, .inr (.inr (some 11)))], [.inl 6, .inr (.inr (some 11))], (I35, L36, R, Y), 0, 0) (fun _ => rfl) ?_
          refine yi_D_callv rfl (p_takeKind_z (by omega) hW52 hf38 hA39) ?_
          rintro _ (⟨c56, I57, L58, rfl, hGa59, hf60, hA61⟩ | ⟨c62, I63, L64, rfl, hGa65, he66⟩)
          · have hA61 : cs_A I57 L58 K te (a + 3) := hA61
            have hW67 := cs_W_t hW52 (cs_G_F hGa59)
            have hF68 := cs_F_t hF53 (cs_G_F hGa59)
            have hG69 := cs_G_t hG54 hGa59
            have hcc70 := cc_G hcc55 hGa59
            show yi_D zi_Ms d zi_m262 k (60, [(1, .inr (.inl (L20 16 (a + 1)))), (0, .inr (.inr (some 11)))], [], (I57, L58, R, Y), 0, 0) _
            refine yi_D_run 3 (64, [(1, .inr (.inl (L20 16 (a + 1)))), (0, .inr (.inr (some 11)))], [.inl 99, .inl 0, .inr (.inr (some 11))], (I57, L58, R, Y), 0, 0) (fun _ => rfl) ?_
            refine yi_D_callv rfl (p_takeNumber_z (lo := 0) (hi := 99) hW67 hf60 hA61) ?_
            rintro _ (⟨c71, c72, I73, L74, rfl, hGa75, hf76, hA77⟩ | ⟨c78, z83, I79, L80, rfl, hGa81, he82⟩ | ⟨c84, z89, I85, L86, rfl, hGa87, he88⟩)
            · have hA77 : cs_A I73 L74 K te (a + 4) := hA77
              have hW90 := cs_W_t hW67 (cs_G_F hGa75)
              have hF91 := cs_F_t hF68 (cs_G_F hGa75)
              have hG92 := cs_G_t hG69 hGa75
              have hcc93 := cc_G hcc70 hGa75
              show yi_D zi_Ms d zi_m262 k (67, [(1, .inr (.inl (L20 16 (a + 1)))), (0, .inr (.inr (some 11)))], [.inl (V (a + 3))], (I73, L74, R, Y), 0, 0) _
              refine yi_D_run 3 (71, [(3, .inl (V (a + 3))), (1, .inr (.inl (L20 16 (a + 1)))), (0, .inr (.inr (some 11)))], [.inl 59, .inr (.inr (some 11))], (I73, L74, R, Y), 0, 0) (fun _ => rfl) ?_
              have hR94 : sp_R K P V (2, a, 0, [], ld, nm, cs) (.inl (1, a + 4, 0, [], sp_up (sp_up ld (7 + (ld 1).toNat) (V (a + 3))) 1 (ld 1 + 1), sp_un nm (V (a + 1)) (ld 1), cs)) := sp_R_1 (by
                show sp_line K P V a ld nm cs = _
                unfold sp_line
                repeat (first | rw [if_pos (by omega)] | rw [if_neg (by omega)])
                unfold sp_person
                repeat (first | rw [if_pos (by omega)] | rw [if_neg (by omega)]))
              refine yi_D_callv rfl (p_takeKind_z (by omega) hW90 hf76 hA77) ?_
              rintro _ (⟨c95, I96, L97, rfl, hGa98, hf99, hA100⟩ | ⟨c101, I102, L103, rfl, hGa104, he105⟩)
              · have hA100 : cs_A I96 L97 K te (a + 5) := hA100
                have hW106 := cs_W_t hW90 (cs_G_F hGa98)
                have hF107 := cs_F_t hF91 (cs_G_F hGa98)
                have hG108 := cs_G_t hG92 hGa98
                have hcc109 := cc_G hcc93 hGa98
                have hR110 : sp_R K P V (2, a, 0, [], ld, nm, cs) (.inl (2, (a + 4) + 1, 0, [], sp_up (sp_up ld (7 + (ld 1).toNat) (V (a + 3))) 1 (ld 1 + 1), sp_un nm (V (a + 1)) (ld 1), cs)) := sp_R_s hR94 (by
                  show (if K _ = 59 then _ else _) = _
                  rw [if_pos (by omega)])
                show yi_D zi_Ms d zi_m262 k (74, [(3, .inl (V (a + 3))), (1, .inr (.inl (L20 16 (a + 1)))), (0, .inr (.inr (some 11)))], [], (I96, L97, R, Y), 0, 0) _
                refine yi_D_run 1 (75, [(3, .inl (V (a + 3))), (1, .inr (.inl (L20 16 (a + 1)))), (0, .inr (.inr (some 11)))], [.inr (.inr (some 11))], (I96, L97, R, Y), 0, 0) (fun _ => rfl) ?_
                refine yi_D_gi (v := 0) rfl rfl rfl hf99 (fun _ => ?_)
                refine yi_D_if1 false rfl (by decide) ?_
                refine yi_D_run 1 (82, [(3, .inl (V (a + 3))), (1, .inr (.inl (L20 16 (a + 1)))), (0, .inr (.inr (some 11)))], [.inr (.inr (some 11))], (I96, L97, R, Y), 0, 0) (fun _ => rfl) ?_
                refine yi_D_gr (v := some q) rfl rfl rfl hW.2.2.1.2.1 (fun _ => ?_)
                refine yi_D_run 2 (87, [(3, .inl (V (a + 3))), (1, .inr (.inl (L20 16 (a + 1)))), (0, .inr (.inr (some 11)))], [.inl (V (a + 3)), .inr (.inl (L20 16 (a + 1))), .inr (.inr (some q))], (I96, L97, R, Y), 0, 0) (fun _ => rfl) ?_
                refine yi_D_callv rfl (p_addPerson hW106 (by omega)) ?_
                rintro _ ⟨I111, L112, rfl, ho113, e114, e115, e116, e117, e118⟩
                show yi_D zi_Ms d zi_m262 k (90, [(3, .inl (V (a + 3))), (1, .inr (.inl (L20 16 (a + 1)))), (0, .inr (.inr (some 11)))], [], (I111, L112, R, Y), 0, 0) _
                refine yi_D_retv rfl ?_
                have hfin := cs_fin hF107 hW106 hf99 hA100 (fun p k _ h => ho113 p k h) (fun _ _ _ => rfl) ⟨Nat.le_refl _, fun _ _ => ⟨rfl, rfl⟩⟩ (cs_Ld_person hW106.2.2 hwr (by omega) (by omega) e114 e115 e116 e117 e118)
                have hln2 : ln_S I111 R Y q u (sp_up (sp_up ld (7 + (ld 1).toNat) (V (a + 3))) 1 (ld 1 + 1)) cs := ln_A hln hF107 hcc109 (fun p k _ _ _ _ => e117 p k (by omega)) hq0 (Or.inr (by (repeat rw [sp_up_n _ _ (by omega)]))) (fun j hj => by (repeat rw [sp_up_n _ _ (by omega)])) (by first | (rw [sp_up_e]; omega) | (((repeat rw [sp_up_n _ _ (by omega)])); exact Int.le_refl _)) (fun i hi => by (repeat rw [sp_up_n _ _ (by omega)]))
                exact ⟨_, _, _, _, _, _, rfl, hfin.1, Or.inl ⟨_, _, _, _, _, hR110, by omega, hfin.2.1, hfin.2.2.1, hfin.2.2.2, hln2, by omega⟩⟩
              · have hW119 := cs_W_t hW90 (cs_G_F hGa104)
                have hF120 := cs_F_t hF91 (cs_G_F hGa104)
                have hG121 := cs_G_t hG92 hGa104
                have hz122 : ¬ sp_f P (a + 4) 1 = 0 := sp_f_ne hW90 hA77.2.1 (by omega)
                have hn123 : ¬ I102 11 11 = 0 := by rw [he105]; exact hz122
                have hx124 : sp_R K P V (2, a, 0, [], ld, nm, cs) (.inr (sp_f P (a + 4) 1)) := sp_R_s hR94 (by
                  show (if K _ = 59 then _ else _) = _
                  rw [if_neg (by omega)])
                show yi_D zi_Ms d zi_m262 k (74, [(3, .inl (V (a + 3))), (1, .inr (.inl (L20 16 (a + 1)))), (0, .inr (.inr (some 11)))], [], (I102, L103, R, Y), 0, 0) _
                refine yi_D_run 1 (75, [(3, .inl (V (a + 3))), (1, .inr (.inl (L20 16 (a + 1)))), (0, .inr (.inr (some 11)))], [.inr (.inr (some 11))], (I102, L103, R, Y), 0, 0) (fun _ => rfl) ?_
                refine yi_D_gi (v := I102 11 11) rfl rfl rfl rfl (fun _ => ?_)
                have h125 : ¬ ((I102 11 11) = 0) := by omega
                refine yi_D_if1 true rfl (yi_ne_t h125) ?_
                refine yi_D_retv rfl ?_
                exact ⟨_, _, _, _, _, _, rfl, cs_H_F hF120, Or.inr ⟨_, hx124, hz122, he105⟩⟩
            · have hW126 := cs_W_t hW67 (cs_G_F hGa81)
              have hF127 := cs_F_t hF68 (cs_G_F hGa81)
              have hG128 := cs_G_t hG69 hGa81
              have hz129 : ¬ sp_f P (a + 3) 1 = 0 := sp_f_ne hW67 hA61.2.1 (by omega)
              have hn130 : ¬ I79 11 11 = 0 := by rw [he82]; exact hz129
              have hx131 : sp_R K P V (2, a, 0, [], ld, nm, cs) (.inr (sp_f P (a + 3) 1)) := sp_R_1 (by
                show sp_line K P V a ld nm cs = _
                first
                | (exfalso; omega)
                | (unfold sp_line; repeat (first | rw [if_pos (by omega)] | rw [if_neg (by omega)]); unfold sp_person; repeat (first | rw [if_pos (by omega)] | rw [if_neg (by omega)])))
              show yi_D zi_Ms d zi_m262 k (67, [(1, .inr (.inl (L20 16 (a + 1)))), (0, .inr (.inr (some 11)))], [.inl z83], (I79, L80, R, Y), 0, 0) _
              refine yi_D_run 3 (71, [(3, .inl z83), (1, .inr (.inl (L20 16 (a + 1)))), (0, .inr (.inr (some 11)))], [.inl 59, .inr (.inr (some 11))], (I79, L80, R, Y), 0, 0) (fun _ => rfl) ?_
              
              refine yi_D_callv rfl (p_takeKind_f hW126 hn130) ?_
              rintro _ rfl
              show yi_D zi_Ms d zi_m262 k (74, [(3, .inl z83), (1, .inr (.inl (L20 16 (a + 1)))), (0, .inr (.inr (some 11)))], [], (I79, L80, R, Y), 0, 0) _
              refine yi_D_run 1 (75, [(3, .inl z83), (1, .inr (.inl (L20 16 (a + 1)))), (0, .inr (.inr (some 11)))], [.inr (.inr (some 11))], (I79, L80, R, Y), 0, 0) (fun _ => rfl) ?_
              refine yi_D_gi (v := I79 11 11) rfl rfl rfl rfl (fun _ => ?_)
              have h132 : ¬ ((I79 11 11) = 0) := by omega
              refine yi_D_if1 true rfl (yi_ne_t h132) ?_
              refine yi_D_retv rfl ?_
              exact ⟨_, _, _, _, _, _, rfl, cs_H_F hF127, Or.inr ⟨_, hx131, hz129, he82⟩⟩
            · have hW133 := cs_W_t hW67 (cs_G_F hGa87)
              have hF134 := cs_F_t hF68 (cs_G_F hGa87)
              have hG135 := cs_G_t hG69 hGa87
              have hz136 : ¬ sp_f P (a + 3) 4 = 0 := sp_f_ne hW67 hA61.2.1 (by omega)
              have hn137 : ¬ I85 11 11 = 0 := by rw [he88]; exact hz136
              have hx138 : sp_R K P V (2, a, 0, [], ld, nm, cs) (.inr (sp_f P (a + 3) 4)) := sp_R_1 (by
                show sp_line K P V a ld nm cs = _
                first
                | (exfalso; omega)
                | (unfold sp_line; repeat (first | rw [if_pos (by omega)] | rw [if_neg (by omega)]); unfold sp_person; repeat (first | rw [if_pos (by omega)] | rw [if_neg (by omega)])))
              show yi_D zi_Ms d zi_m262 k (67, [(1, .inr (.inl (L20 16 (a + 1)))), (0, .inr (.inr (some 11)))], [.inl z89], (I85, L86, R, Y), 0, 0) _
              refine yi_D_run 3 (71, [(3, .inl z89), (1, .inr (.inl (L20 16 (a + 1)))), (0, .inr (.inr (some 11)))], [.inl 59, .inr (.inr (some 11))], (I85, L86, R, Y), 0, 0) (fun _ => rfl) ?_
              
              refine yi_D_callv rfl (p_takeKind_f hW133 hn137) ?_
              rintro _ rfl
              show yi_D zi_Ms d zi_m262 k (74, [(3, .inl z89), (1, .inr (.inl (L20 16 (a + 1)))), (0, .inr (.inr (some 11)))], [], (I85, L86, R, Y), 0, 0) _
              refine yi_D_run 1 (75, [(3, .inl z89), (1, .inr (.inl (L20 16 (a + 1)))), (0, .inr (.inr (some 11)))], [.inr (.inr (some 11))], (I85, L86, R, Y), 0, 0) (fun _ => rfl) ?_
              refine yi_D_gi (v := I85 11 11) rfl rfl rfl rfl (fun _ => ?_)
              have h139 : ¬ ((I85 11 11) = 0) := by omega
              refine yi_D_if1 true rfl (yi_ne_t h139) ?_
              refine yi_D_retv rfl ?_
              exact ⟨_, _, _, _, _, _, rfl, cs_H_F hF134, Or.inr ⟨_, hx138, hz136, he88⟩⟩
          · have hW140 := cs_W_t hW52 (cs_G_F hGa65)
            have hF141 := cs_F_t hF53 (cs_G_F hGa65)
            have hG142 := cs_G_t hG54 hGa65
            have hz143 : ¬ sp_f P (a + 2) 1 = 0 := sp_f_ne hW52 hA39.2.1 (by omega)
            have hn144 : ¬ I63 11 11 = 0 := by rw [he66]; exact hz143
            have hx145 : sp_R K P V (2, a, 0, [], ld, nm, cs) (.inr (sp_f P (a + 2) 1)) := sp_R_1 (by
              show sp_line K P V a ld nm cs = _
              first
              | (exfalso; omega)
              | (unfold sp_line; repeat (first | rw [if_pos (by omega)] | rw [if_neg (by omega)]); unfold sp_person; repeat (first | rw [if_pos (by omega)] | rw [if_neg (by omega)])))
            show yi_D zi_Ms d zi_m262 k (60, [(1, .inr (.inl (L20 16 (a + 1)))), (0, .inr (.inr (some 11)))], [], (I63, L64, R, Y), 0, 0) _
            refine yi_D_run 3 (64, [(1, .inr (.inl (L20 16 (a + 1)))), (0, .inr (.inr (some 11)))], [.inl 99, .inl 0, .inr (.inr (some 11))], (I63, L64, R, Y), 0, 0) (fun _ => rfl) ?_
            refine yi_D_callv rfl (p_takeNumber_f hW140 hn144) ?_
            rintro _ ⟨z146, rfl⟩
            show yi_D zi_Ms d zi_m262 k (67, [(1, .inr (.inl (L20 16 (a + 1)))), (0, .inr (.inr (some 11)))], [.inl z146], (I63, L64, R, Y), 0, 0) _
            refine yi_D_run 3 (71, [(3, .inl z146), (1, .inr (.inl (L20 16 (a + 1)))), (0, .inr (.inr (some 11)))], [.inl 59, .inr (.inr (some 11))], (I63, L64, R, Y), 0, 0) (fun _ => rfl) ?_
            
            refine yi_D_callv rfl (p_takeKind_f hW140 hn144) ?_
            rintro _ rfl
            show yi_D zi_Ms d zi_m262 k (74, [(3, .inl z146), (1, .inr (.inl (L20 16 (a + 1)))), (0, .inr (.inr (some 11)))], [], (I63, L64, R, Y), 0, 0) _
            refine yi_D_run 1 (75, [(3, .inl z146), (1, .inr (.inl (L20 16 (a + 1)))), (0, .inr (.inr (some 11)))], [.inr (.inr (some 11))], (I63, L64, R, Y), 0, 0) (fun _ => rfl) ?_
            refine yi_D_gi (v := I63 11 11) rfl rfl rfl rfl (fun _ => ?_)
            have h147 : ¬ ((I63 11 11) = 0) := by omega
            refine yi_D_if1 true rfl (yi_ne_t h147) ?_
            refine yi_D_retv rfl ?_
            exact ⟨_, _, _, _, _, _, rfl, cs_H_F hF141, Or.inr ⟨_, hx145, hz143, he66⟩⟩
        · have hW148 := cs_W_t hW29 (cs_G_F hGa43)
          have hF149 := cs_F_t hF30 (cs_G_F hGa43)
          have hG150 := cs_G_t hG31 hGa43
          have hz151 : ¬ sp_f P (a + 1) 1 = 0 := sp_f_ne hW29 hA23.2.1 (by omega)
          have hn152 : ¬ I41 11 11 = 0 := by rw [he44]; exact hz151
          have hx153 : sp_R K P V (2, a, 0, [], ld, nm, cs) (.inr (sp_f P (a + 1) 1)) := sp_R_1 (by
            show sp_line K P V a ld nm cs = _
            first
            | (exfalso; omega)
            | (unfold sp_line; repeat (first | rw [if_pos (by omega)] | rw [if_neg (by omega)]); unfold sp_person; repeat (first | rw [if_pos (by omega)] | rw [if_neg (by omega)])))
          show yi_D zi_Ms d zi_m262 k (53, [(0, .inr (.inr (some 11)))], [.inr (.inl z45)], (I41, L42, R, Y), 0, 0) _
          refine yi_D_run 3 (57, [(1, .inr (.inl z45)), (0, .inr (.inr (some 11)))], [.inl 6, .inr (.inr (some 11))], (I41, L42, R, Y), 0, 0) (fun _ => rfl) ?_
          refine yi_D_callv rfl (p_takeKind_f hW148 hn152) ?_
          rintro _ rfl
          show yi_D zi_Ms d zi_m262 k (60, [(1, .inr (.inl z45)), (0, .inr (.inr (some 11)))], [], (I41, L42, R, Y), 0, 0) _
          refine yi_D_run 3 (64, [(1, .inr (.inl z45)), (0, .inr (.inr (some 11)))], [.inl 99, .inl 0, .inr (.inr (some 11))], (I41, L42, R, Y), 0, 0) (fun _ => rfl) ?_
          refine yi_D_callv rfl (p_takeNumber_f hW148 hn152) ?_
          rintro _ ⟨z154, rfl⟩
          show yi_D zi_Ms d zi_m262 k (67, [(1, .inr (.inl z45)), (0, .inr (.inr (some 11)))], [.inl z154], (I41, L42, R, Y), 0, 0) _
          refine yi_D_run 3 (71, [(3, .inl z154), (1, .inr (.inl z45)), (0, .inr (.inr (some 11)))], [.inl 59, .inr (.inr (some 11))], (I41, L42, R, Y), 0, 0) (fun _ => rfl) ?_
          
          refine yi_D_callv rfl (p_takeKind_f hW148 hn152) ?_
          rintro _ rfl
          show yi_D zi_Ms d zi_m262 k (74, [(3, .inl z154), (1, .inr (.inl z45)), (0, .inr (.inr (some 11)))], [], (I41, L42, R, Y), 0, 0) _
          refine yi_D_run 1 (75, [(3, .inl z154), (1, .inr (.inl z45)), (0, .inr (.inr (some 11)))], [.inr (.inr (some 11))], (I41, L42, R, Y), 0, 0) (fun _ => rfl) ?_
          refine yi_D_gi (v := I41 11 11) rfl rfl rfl rfl (fun _ => ?_)
          have h155 : ¬ ((I41 11 11) = 0) := by omega
          refine yi_D_if1 true rfl (yi_ne_t h155) ?_
          refine yi_D_retv rfl ?_
          exact ⟨_, _, _, _, _, _, rfl, cs_H_F hF149, Or.inr ⟨_, hx153, hz151, he44⟩⟩
        · have hW156 := cs_W_t hW29 (cs_G_F hGa49)
          have hF157 := cs_F_t hF30 (cs_G_F hGa49)
          have hG158 := cs_G_t hG31 hGa49
          have hz159 : ¬ sp_f P (a + 1) 3 = 0 := sp_f_ne hW29 hA23.2.1 (by omega)
          have hn160 : ¬ I47 11 11 = 0 := by rw [he50]; exact hz159
          have hx161 : sp_R K P V (2, a, 0, [], ld, nm, cs) (.inr (sp_f P (a + 1) 3)) := sp_R_1 (by
            show sp_line K P V a ld nm cs = _
            first
            | (exfalso; omega)
            | (unfold sp_line; repeat (first | rw [if_pos (by omega)] | rw [if_neg (by omega)]); unfold sp_person; repeat (first | rw [if_pos (by omega)] | rw [if_neg (by omega)])))
          show yi_D zi_Ms d zi_m262 k (53, [(0, .inr (.inr (some 11)))], [.inr (.inl z51)], (I47, L48, R, Y), 0, 0) _
          refine yi_D_run 3 (57, [(1, .inr (.inl z51)), (0, .inr (.inr (some 11)))], [.inl 6, .inr (.inr (some 11))], (I47, L48, R, Y), 0, 0) (fun _ => rfl) ?_
          refine yi_D_callv rfl (p_takeKind_f hW156 hn160) ?_
          rintro _ rfl
          show yi_D zi_Ms d zi_m262 k (60, [(1, .inr (.inl z51)), (0, .inr (.inr (some 11)))], [], (I47, L48, R, Y), 0, 0) _
          refine yi_D_run 3 (64, [(1, .inr (.inl z51)), (0, .inr (.inr (some 11)))], [.inl 99, .inl 0, .inr (.inr (some 11))], (I47, L48, R, Y), 0, 0) (fun _ => rfl) ?_
          refine yi_D_callv rfl (p_takeNumber_f hW156 hn160) ?_
          rintro _ ⟨z162, rfl⟩
          show yi_D zi_Ms d zi_m262 k (67, [(1, .inr (.inl z51)), (0, .inr (.inr (some 11)))], [.inl z162], (I47, L48, R, Y), 0, 0) _
          refine yi_D_run 3 (71, [(3, .inl z162), (1, .inr (.inl z51)), (0, .inr (.inr (some 11)))], [.inl 59, .inr (.inr (some 11))], (I47, L48, R, Y), 0, 0) (fun _ => rfl) ?_
          
          refine yi_D_callv rfl (p_takeKind_f hW156 hn160) ?_
          rintro _ rfl
          show yi_D zi_Ms d zi_m262 k (74, [(3, .inl z162), (1, .inr (.inl z51)), (0, .inr (.inr (some 11)))], [], (I47, L48, R, Y), 0, 0) _
          refine yi_D_run 1 (75, [(3, .inl z162), (1, .inr (.inl z51)), (0, .inr (.inr (some 11)))], [.inr (.inr (some 11))], (I47, L48, R, Y), 0, 0) (fun _ => rfl) ?_
          refine yi_D_gi (v := I47 11 11) rfl rfl rfl rfl (fun _ => ?_)
          have h163 : ¬ ((I47 11 11) = 0) := by omega
          refine yi_D_if1 true rfl (yi_ne_t h163) ?_
          refine yi_D_retv rfl ?_
          exact ⟨_, _, _, _, _, _, rfl, cs_H_F hF157, Or.inr ⟨_, hx161, hz159, he50⟩⟩
      · exfalso; omega
    · refine yi_D_if2 false rfl (yi_le_f h17) ?_
      refine yi_D_run 2 (41, [(0, .inr (.inr (some 11)))], [.inl 5, .inr (.inr (some 11))], (I, L, R, Y), 0, 0) (fun _ => rfl) ?_
      refine yi_D_callv rfl (p_wrong_z ⟨by omega, by omega⟩ hW hf hA) ?_
      rintro _ ⟨I164, rfl, hg165, he166⟩
      have hGw167 : cs_G I L I164 L := ⟨fun p k hp => hg165 p k (by omega), fun _ _ _ => rfl⟩
      have hW168 := cs_W_t hW (cs_G_F hGw167)
      have hF169 := (cs_G_F hGw167)
      have hG170 := hGw167
      have hz171 : ¬ sp_f P a 5 = 0 := sp_f_ne hW hA.2.1 (by omega)
      have hn172 : ¬ I164 11 11 = 0 := by rw [he166]; exact hz171
      have hx173 : sp_R K P V (2, a, 0, [], ld, nm, cs) (.inr (sp_f P a 5)) := sp_R_1 (by
        show sp_line K P V a ld nm cs = _
        first
        | (exfalso; omega)
        | (unfold sp_line; repeat (first | rw [if_pos (by omega)] | rw [if_neg (by omega)]); unfold sp_person; repeat (first | rw [if_pos (by omega)] | rw [if_neg (by omega)])))
      show yi_D zi_Ms d zi_m262 k (44, [(0, .inr (.inr (some 11)))], [], (I164, L, R, Y), 0, 0) _
      refine yi_D_run 2 (46, [(0, .inr (.inr (some 11)))], [.inl 5, .inr (.inr (some 11))], (I164, L, R, Y), 0, 0) (fun _ => rfl) ?_
      refine yi_D_callv rfl (p_takeKind_f hW168 hn172) ?_
      rintro _ rfl
      show yi_D zi_Ms d zi_m262 k (49, [(0, .inr (.inr (some 11)))], [], (I164, L, R, Y), 0, 0) _
      refine yi_D_run 1 (50, [(0, .inr (.inr (some 11)))], [.inr (.inr (some 11))], (I164, L, R, Y), 0, 0) (fun _ => rfl) ?_
      refine yi_D_callv rfl (p_takeNewName_f hW168 hn172) ?_
      rintro _ ⟨z174, rfl⟩
      show yi_D zi_Ms d zi_m262 k (53, [(0, .inr (.inr (some 11)))], [.inr (.inl z174)], (I164, L, R, Y), 0, 0) _
      refine yi_D_run 3 (57, [(1, .inr (.inl z174)), (0, .inr (.inr (some 11)))], [.inl 6, .inr (.inr (some 11))], (I164, L, R, Y), 0, 0) (fun _ => rfl) ?_
      refine yi_D_callv rfl (p_takeKind_f hW168 hn172) ?_
      rintro _ rfl
      show yi_D zi_Ms d zi_m262 k (60, [(1, .inr (.inl z174)), (0, .inr (.inr (some 11)))], [], (I164, L, R, Y), 0, 0) _
      refine yi_D_run 3 (64, [(1, .inr (.inl z174)), (0, .inr (.inr (some 11)))], [.inl 99, .inl 0, .inr (.inr (some 11))], (I164, L, R, Y), 0, 0) (fun _ => rfl) ?_
      refine yi_D_callv rfl (p_takeNumber_f hW168 hn172) ?_
      rintro _ ⟨z175, rfl⟩
      show yi_D zi_Ms d zi_m262 k (67, [(1, .inr (.inl z174)), (0, .inr (.inr (some 11)))], [.inl z175], (I164, L, R, Y), 0, 0) _
      refine yi_D_run 3 (71, [(3, .inl z175), (1, .inr (.inl z174)), (0, .inr (.inr (some 11)))], [.inl 59, .inr (.inr (some 11))], (I164, L, R, Y), 0, 0) (fun _ => rfl) ?_
      
      refine yi_D_callv rfl (p_takeKind_f hW168 hn172) ?_
      rintro _ rfl
      show yi_D zi_Ms d zi_m262 k (74, [(3, .inl z175), (1, .inr (.inl z174)), (0, .inr (.inr (some 11)))], [], (I164, L, R, Y), 0, 0) _
      refine yi_D_run 1 (75, [(3, .inl z175), (1, .inr (.inl z174)), (0, .inr (.inr (some 11)))], [.inr (.inr (some 11))], (I164, L, R, Y), 0, 0) (fun _ => rfl) ?_
      refine yi_D_gi (v := I164 11 11) rfl rfl rfl rfl (fun _ => ?_)
      have h176 : ¬ ((I164 11 11) = 0) := by omega
      refine yi_D_if1 true rfl (yi_ne_t h176) ?_
      refine yi_D_retv rfl ?_
      exact ⟨_, _, _, _, _, _, rfl, cs_H_F hF169, Or.inr ⟨_, hx173, hz171, he166⟩⟩
theorem p_readEventC {d : Nat} {I L : Nat → Nat → Int} {R : Nat → Nat → Option Nat} {Y : (Nat → Nat) × (Nat → Nat) × Nat} {K P V : Nat → Int} {te q a : Nat} {ld : Nat → Int} {nm : Int → Int} (hW : cs_W I L R Y K P V te q ld nm) (hf : I 11 11 = 0) (hA : cs_A I L K te a) (cs : List (Int × Int)) (hk : K a = 7) {u : Nat} (hln : ln_S I R Y q u ld cs) (hua : u ≤ a) : yi_P zi_Ms d 254 [.inr (.inr (some 11))] (I, L, R, Y) (cs_QLC I L R Y K P V te (2, a, 0, [], ld, nm, cs) q a) := by
  refine yi_P_of (M := zi_m254) rfl (fun d k => ?_)
  obtain ⟨ly1, ly2, ly3, ly4⟩ := hW.2.2.1.2.2.2
  have lb := hW.2.2.2.2.1
  have hq0 := hW.2.2.1.1
  have hcc := cc_S_0 (tr := trP) (cs := cs) hln.1.1 hln.1.2
  have hle0 := hA.2.1
  have hte0 := hW.2.1.1
  show yi_D zi_Ms d zi_m254 k (0, [(0, .inr (.inr (some 11)))], [], (I, L, R, Y), 0, 0) _
  refine yi_D_run 1 (1, [(0, .inr (.inr (some 11)))], [.inr (.inr (some 11))], (I, L, R, Y), 0, 0) (fun _ => rfl) ?_
  refine yi_D_gr (v := some q) rfl rfl rfl hW.2.2.1.2.1 (fun _ => ?_)
  refine yi_D_gi (v := ld 2) rfl rfl (Nat.ble_eq_true_of_le (by omega)) hW.2.2.2.1.2.2.1 (fun _ => ?_)
  refine yi_D_run 1 (8, [(0, .inr (.inr (some 11)))], [.inl 4, .inl (ld 2)], (I, L, R, Y), 0, 0) (fun _ => rfl) ?_
  by_cases h1 : 4 ≤ (ld 2)
  · refine yi_D_if2 true rfl (yi_ge_t h1) ?_
    refine yi_D_run 2 (41, [(0, .inr (.inr (some 11)))], [.inl 5, .inr (.inr (some 11))], (I, L, R, Y), 0, 0) (fun _ => rfl) ?_
    refine yi_D_callv rfl (p_wrong_z ⟨by omega, by omega⟩ hW hf hA) ?_
    rintro _ ⟨I2, rfl, hg3, he4⟩
    have hGw5 : cs_G I L I2 L := ⟨fun p k hp => hg3 p k (by omega), fun _ _ _ => rfl⟩
    have hW6 := cs_W_t hW (cs_G_F hGw5)
    have hF7 := (cs_G_F hGw5)
    have hG8 := hGw5
    have hz9 : ¬ sp_f P a 5 = 0 := sp_f_ne hW hA.2.1 (by omega)
    have hn10 : ¬ I2 11 11 = 0 := by rw [he4]; exact hz9
    have hx11 : sp_R K P V (2, a, 0, [], ld, nm, cs) (.inr (sp_f P a 5)) := sp_R_1 (by
      show sp_line K P V a ld nm cs = _
      first
      | (exfalso; omega)
      | (unfold sp_line; repeat (first | rw [if_pos (by omega)] | rw [if_neg (by omega)]); unfold sp_event; repeat (first | rw [if_pos (by omega)] | rw [if_neg (by omega)])))
    show yi_D zi_Ms d zi_m254 k (44, [(0, .inr (.inr (some 11)))], [], (I2, L, R, Y), 0, 0) _
    refine yi_D_run 2 (47, [(0, .inr (.inr (some 11)))], [.inl 7, .inr (.inr (some 11))], (I2, L, R, Y), 0, 0) (fun _ => rfl) ?_
    refine yi_D_callv rfl (p_takeKind_f hW6 hn10) ?_
    rintro _ rfl
    show yi_D zi_Ms d zi_m254 k (50, [(0, .inr (.inr (some 11)))], [], (I2, L, R, Y), 0, 0) _
    refine yi_D_run 1 (51, [(0, .inr (.inr (some 11)))], [.inr (.inr (some 11))], (I2, L, R, Y), 0, 0) (fun _ => rfl) ?_
    refine yi_D_callv rfl (p_takeNewName_f hW6 hn10) ?_
    rintro _ ⟨z12, rfl⟩
    show yi_D zi_Ms d zi_m254 k (54, [(0, .inr (.inr (some 11)))], [.inr (.inl z12)], (I2, L, R, Y), 0, 0) _
    refine yi_D_run 3 (58, [(1, .inr (.inl z12)), (0, .inr (.inr (some 11)))], [.inl 59, .inr (.inr (some 11))], (I2, L, R, Y), 0, 0) (fun _ => rfl) ?_
    
    refine yi_D_callv rfl (p_takeKind_f hW6 hn10) ?_
    rintro _ rfl
    show yi_D zi_Ms d zi_m254 k (61, [(1, .inr (.inl z12)), (0, .inr (.inr (some 11)))], [], (I2, L, R, Y), 0, 0) _
    refine yi_D_run 1 (62, [(1, .inr (.inl z12)), (0, .inr (.inr (some 11)))], [.inr (.inr (some 11))], (I2, L, R, Y), 0, 0) (fun _ => rfl) ?_
    refine yi_D_gi (v := I2 11 11) rfl rfl rfl rfl (fun _ => ?_)
    have h13 : ¬ ((I2 11 11) = 0) := by omega
    refine yi_D_if1 true rfl (yi_ne_t h13) ?_
    refine yi_D_retv rfl ?_
    exact ⟨_, _, _, _, _, _, rfl, cs_H_F hF7, Or.inr ⟨_, hx11, hz9, he4⟩⟩
  · refine yi_D_if2 false rfl (yi_ge_f h1) ?_
    refine yi_D_run 1 (12, [(0, .inr (.inr (some 11)))], [.inr (.inr (some 11))], (I, L, R, Y), 0, 0) (fun _ => rfl) ?_
    refine yi_D_gr (v := some q) rfl rfl rfl hW.2.2.1.2.1 (fun _ => ?_)
    refine yi_D_run 1 (16, [(0, .inr (.inr (some 11)))], [.inr (.inr (some 11)), .inr (.inr (some q))], (I, L, R, Y), 0, 0) (fun _ => rfl) ?_
    refine yi_D_gr (v := some q) rfl rfl rfl hW.2.2.1.2.1 (fun _ => ?_)
    refine yi_D_gi (v := ld 1) rfl rfl (Nat.ble_eq_true_of_le (by omega)) hW.2.2.2.1.2.1 (fun _ => ?_)
    refine yi_D_run 1 (23, [(0, .inr (.inr (some 11)))], [.inr (.inr (some 11)), .inl (ld 1), .inr (.inr (some q))], (I, L, R, Y), 0, 0) (fun _ => rfl) ?_
    refine yi_D_gr (v := some q) rfl rfl rfl hW.2.2.1.2.1 (fun _ => ?_)
    refine yi_D_gi (v := ld 2) rfl rfl (Nat.ble_eq_true_of_le (by omega)) hW.2.2.2.1.2.2.1 (fun _ => ?_)
    refine yi_D_run 1 (30, [(0, .inr (.inr (some 11)))], [.inl 1, .inl (ld 2), .inl (ld 1), .inr (.inr (some q))], (I, L, R, Y), 0, 0) (fun _ => rfl) ?_
    refine yi_D_iadd rfl ((ld 2) + 1) (yi_wn (by omega) (by omega)) ?_
    refine yi_D_callv rfl (p_futuresWith hW ⟨by omega, by omega⟩ ⟨by omega, by omega⟩) ?_
    rintro _ ⟨z14, rfl, hz15⟩
    show yi_D zi_Ms d zi_m254 k (34, [(0, .inr (.inr (some 11)))], [.inl z14], (I, L, R, Y), 0, 0) _
    refine yi_D_ldc (32768) rfl (by decide +kernel) ?_
    by_cases h16 : z14 ≤ 32768
    · refine yi_D_if2 true rfl (yi_le_t h16) ?_
      refine yi_D_run 2 (47, [(0, .inr (.inr (some 11)))], [.inl 7, .inr (.inr (some 11))], (I, L, R, Y), 0, 0) (fun _ => rfl) ?_
      refine yi_D_callv rfl (p_takeKind_z (by omega) hW hf hA) ?_
      rintro _ (⟨c17, I18, L19, rfl, hGa20, hf21, hA22⟩ | ⟨c23, I24, L25, rfl, hGa26, he27⟩)
      · have hA22 : cs_A I18 L19 K te (a + 1) := hA22
        have hW28 := cs_W_t hW (cs_G_F hGa20)
        have hF29 := (cs_G_F hGa20)
        have hG30 := hGa20
        have hcc31 := cc_G hcc hGa20
        show yi_D zi_Ms d zi_m254 k (50, [(0, .inr (.inr (some 11)))], [], (I18, L19, R, Y), 0, 0) _
        refine yi_D_run 1 (51, [(0, .inr (.inr (some 11)))], [.inr (.inr (some 11))], (I18, L19, R, Y), 0, 0) (fun _ => rfl) ?_
        refine yi_D_callv rfl (p_takeNewName_z hW28 hf21 hA22) ?_
        rintro _ (⟨c32, c33, I34, L35, rfl, hGa36, hf37, hA38⟩ | ⟨c39, z44, I40, L41, rfl, hGa42, he43⟩ | ⟨c45, z50, I46, L47, rfl, hGa48, he49⟩)
        · have hA38 : cs_A I34 L35 K te (a + 2) := hA38
          have hW51 := cs_W_t hW28 (cs_G_F hGa36)
          have hF52 := cs_F_t hF29 (cs_G_F hGa36)
          have hG53 := cs_G_t hG30 hGa36
          have hcc54 := cc_G hcc31 hGa36
          have hwr : sp_WR (L19 16 (a + 1)) (V (a + 1)) := by
            rw [hF29.2 16 (a + 1) (by omega)]
            exact (hW.2.1.2.2.1 (a + 1) hA22.2.1).2.2.2.2.1 (by omega)
          show yi_D zi_Ms d zi_m254 k (54, [(0, .inr (.inr (some 11)))], [.inr (.inl (L19 16 (a + 1)))], (I34, L35, R, Y), 0, 0) _
          refine yi_D_run 3 (58, [(1, .inr (.inl (L19 16 (a + 1)))), (0, .inr (.inr (some 11)))], [.inl 59, .inr (.inr (some 11))], (I34, L35, R, Y), 0, 0) (fun _ => rfl) ?_
          have hR55 : sp_R K P V (2, a, 0, [], ld, nm, cs) (.inl (1, a + 2, 0, [], sp_up ld 2 (ld 2 + 1), sp_un nm (V (a + 1)) (4 + ld 2), cs)) := sp_R_1 (by
            show sp_line K P V a ld nm cs = _
            unfold sp_line
            repeat (first | rw [if_pos (by omega)] | rw [if_neg (by omega)])
            unfold sp_event
            repeat (first | rw [if_pos (by omega)] | rw [if_neg (by omega)]))
          refine yi_D_callv rfl (p_takeKind_z (by omega) hW51 hf37 hA38) ?_
          rintro _ (⟨c56, I57, L58, rfl, hGa59, hf60, hA61⟩ | ⟨c62, I63, L64, rfl, hGa65, he66⟩)
          · have hA61 : cs_A I57 L58 K te (a + 3) := hA61
            have hW67 := cs_W_t hW51 (cs_G_F hGa59)
            have hF68 := cs_F_t hF52 (cs_G_F hGa59)
            have hG69 := cs_G_t hG53 hGa59
            have hcc70 := cc_G hcc54 hGa59
            have hR71 : sp_R K P V (2, a, 0, [], ld, nm, cs) (.inl (2, (a + 2) + 1, 0, [], sp_up ld 2 (ld 2 + 1), sp_un nm (V (a + 1)) (4 + ld 2), cs)) := sp_R_s hR55 (by
              show (if K _ = 59 then _ else _) = _
              rw [if_pos (by omega)])
            show yi_D zi_Ms d zi_m254 k (61, [(1, .inr (.inl (L19 16 (a + 1)))), (0, .inr (.inr (some 11)))], [], (I57, L58, R, Y), 0, 0) _
            refine yi_D_run 1 (62, [(1, .inr (.inl (L19 16 (a + 1)))), (0, .inr (.inr (some 11)))], [.inr (.inr (some 11))], (I57, L58, R, Y), 0, 0) (fun _ => rfl) ?_
            refine yi_D_gi (v := 0) rfl rfl rfl hf60 (fun _ => ?_)
            refine yi_D_if1 false rfl (by decide) ?_
            refine yi_D_run 1 (69, [(1, .inr (.inl (L19 16 (a + 1)))), (0, .inr (.inr (some 11)))], [.inr (.inr (some 11))], (I57, L58, R, Y), 0, 0) (fun _ => rfl) ?_
            refine yi_D_gr (v := some q) rfl rfl rfl hW.2.2.1.2.1 (fun _ => ?_)
            refine yi_D_run 1 (73, [(1, .inr (.inl (L19 16 (a + 1)))), (0, .inr (.inr (some 11)))], [.inr (.inl (L19 16 (a + 1))), .inr (.inr (some q))], (I57, L58, R, Y), 0, 0) (fun _ => rfl) ?_
            refine yi_D_callv rfl (p_addEvent hW67 (by omega)) ?_
            rintro _ ⟨I72, L73, rfl, ho74, e75, e76, e77, e78⟩
            show yi_D zi_Ms d zi_m254 k (76, [(1, .inr (.inl (L19 16 (a + 1)))), (0, .inr (.inr (some 11)))], [], (I72, L73, R, Y), 0, 0) _
            refine yi_D_retv rfl ?_
            have hfin := cs_fin hF68 hW67 hf60 hA61 (fun p k _ h => ho74 p k h) (fun _ _ _ => rfl) ⟨Nat.le_refl _, fun _ _ => ⟨rfl, rfl⟩⟩ (cs_Ld_event hW67.2.2 hwr (by omega) (by omega) e75 e76 e77 e78)
            have hln2 : ln_S I72 R Y q u (sp_up ld 2 (ld 2 + 1)) cs := ln_A hln hF68 hcc70 (fun p k _ _ _ _ => e77 p k (by omega)) hq0 (Or.inr (by (repeat rw [sp_up_n _ _ (by omega)]))) (fun j hj => by (repeat rw [sp_up_n _ _ (by omega)])) (by first | (rw [sp_up_e]; omega) | (((repeat rw [sp_up_n _ _ (by omega)])); exact Int.le_refl _)) (fun i hi => by (repeat rw [sp_up_n _ _ (by omega)]))
            exact ⟨_, _, _, _, _, _, rfl, hfin.1, Or.inl ⟨_, _, _, _, _, hR71, by omega, hfin.2.1, hfin.2.2.1, hfin.2.2.2, hln2, by omega⟩⟩
          · have hW79 := cs_W_t hW51 (cs_G_F hGa65)
            have hF80 := cs_F_t hF52 (cs_G_F hGa65)
            have hG81 := cs_G_t hG53 hGa65
            have hz82 : ¬ sp_f P (a + 2) 1 = 0 := sp_f_ne hW51 hA38.2.1 (by omega)
            have hn83 : ¬ I63 11 11 = 0 := by rw [he66]; exact hz82
            have hx84 : sp_R K P V (2, a, 0, [], ld, nm, cs) (.inr (sp_f P (a + 2) 1)) := sp_R_s hR55 (by
              show (if K _ = 59 then _ else _) = _
              rw [if_neg (by omega)])
            show yi_D zi_Ms d zi_m254 k (61, [(1, .inr (.inl (L19 16 (a + 1)))), (0, .inr (.inr (some 11)))], [], (I63, L64, R, Y), 0, 0) _
            refine yi_D_run 1 (62, [(1, .inr (.inl (L19 16 (a + 1)))), (0, .inr (.inr (some 11)))], [.inr (.inr (some 11))], (I63, L64, R, Y), 0, 0) (fun _ => rfl) ?_
            refine yi_D_gi (v := I63 11 11) rfl rfl rfl rfl (fun _ => ?_)
            have h85 : ¬ ((I63 11 11) = 0) := by omega
            refine yi_D_if1 true rfl (yi_ne_t h85) ?_
            refine yi_D_retv rfl ?_
            exact ⟨_, _, _, _, _, _, rfl, cs_H_F hF80, Or.inr ⟨_, hx84, hz82, he66⟩⟩
        · have hW86 := cs_W_t hW28 (cs_G_F hGa42)
          have hF87 := cs_F_t hF29 (cs_G_F hGa42)
          have hG88 := cs_G_t hG30 hGa42
          have hz89 : ¬ sp_f P (a + 1) 1 = 0 := sp_f_ne hW28 hA22.2.1 (by omega)
          have hn90 : ¬ I40 11 11 = 0 := by rw [he43]; exact hz89
          have hx91 : sp_R K P V (2, a, 0, [], ld, nm, cs) (.inr (sp_f P (a + 1) 1)) := sp_R_1 (by
            show sp_line K P V a ld nm cs = _
            first
            | (exfalso; omega)
            | (unfold sp_line; repeat (first | rw [if_pos (by omega)] | rw [if_neg (by omega)]); unfold sp_event; repeat (first | rw [if_pos (by omega)] | rw [if_neg (by omega)])))
          show yi_D zi_Ms d zi_m254 k (54, [(0, .inr (.inr (some 11)))], [.inr (.inl z44)], (I40, L41, R, Y), 0, 0) _
          refine yi_D_run 3 (58, [(1, .inr (.inl z44)), (0, .inr (.inr (some 11)))], [.inl 59, .inr (.inr (some 11))], (I40, L41, R, Y), 0, 0) (fun _ => rfl) ?_
          
          refine yi_D_callv rfl (p_takeKind_f hW86 hn90) ?_
          rintro _ rfl
          show yi_D zi_Ms d zi_m254 k (61, [(1, .inr (.inl z44)), (0, .inr (.inr (some 11)))], [], (I40, L41, R, Y), 0, 0) _
          refine yi_D_run 1 (62, [(1, .inr (.inl z44)), (0, .inr (.inr (some 11)))], [.inr (.inr (some 11))], (I40, L41, R, Y), 0, 0) (fun _ => rfl) ?_
          refine yi_D_gi (v := I40 11 11) rfl rfl rfl rfl (fun _ => ?_)
          have h92 : ¬ ((I40 11 11) = 0) := by omega
          refine yi_D_if1 true rfl (yi_ne_t h92) ?_
          refine yi_D_retv rfl ?_
          exact ⟨_, _, _, _, _, _, rfl, cs_H_F hF87, Or.inr ⟨_, hx91, hz89, he43⟩⟩
        · have hW93 := cs_W_t hW28 (cs_G_F hGa48)
          have hF94 := cs_F_t hF29 (cs_G_F hGa48)
          have hG95 := cs_G_t hG30 hGa48
          have hz96 : ¬ sp_f P (a + 1) 3 = 0 := sp_f_ne hW28 hA22.2.1 (by omega)
          have hn97 : ¬ I46 11 11 = 0 := by rw [he49]; exact hz96
          have hx98 : sp_R K P V (2, a, 0, [], ld, nm, cs) (.inr (sp_f P (a + 1) 3)) := sp_R_1 (by
            show sp_line K P V a ld nm cs = _
            first
            | (exfalso; omega)
            | (unfold sp_line; repeat (first | rw [if_pos (by omega)] | rw [if_neg (by omega)]); unfold sp_event; repeat (first | rw [if_pos (by omega)] | rw [if_neg (by omega)])))
          show yi_D zi_Ms d zi_m254 k (54, [(0, .inr (.inr (some 11)))], [.inr (.inl z50)], (I46, L47, R, Y), 0, 0) _
          refine yi_D_run 3 (58, [(1, .inr (.inl z50)), (0, .inr (.inr (some 11)))], [.inl 59, .inr (.inr (some 11))], (I46, L47, R, Y), 0, 0) (fun _ => rfl) ?_
          
          refine yi_D_callv rfl (p_takeKind_f hW93 hn97) ?_
          rintro _ rfl
          show yi_D zi_Ms d zi_m254 k (61, [(1, .inr (.inl z50)), (0, .inr (.inr (some 11)))], [], (I46, L47, R, Y), 0, 0) _
          refine yi_D_run 1 (62, [(1, .inr (.inl z50)), (0, .inr (.inr (some 11)))], [.inr (.inr (some 11))], (I46, L47, R, Y), 0, 0) (fun _ => rfl) ?_
          refine yi_D_gi (v := I46 11 11) rfl rfl rfl rfl (fun _ => ?_)
          have h99 : ¬ ((I46 11 11) = 0) := by omega
          refine yi_D_if1 true rfl (yi_ne_t h99) ?_
          refine yi_D_retv rfl ?_
          exact ⟨_, _, _, _, _, _, rfl, cs_H_F hF94, Or.inr ⟨_, hx98, hz96, he49⟩⟩
      · exfalso; omega
    · refine yi_D_if2 false rfl (yi_le_f h16) ?_
      refine yi_D_run 2 (41, [(0, .inr (.inr (some 11)))], [.inl 5, .inr (.inr (some 11))], (I, L, R, Y), 0, 0) (fun _ => rfl) ?_
      refine yi_D_callv rfl (p_wrong_z ⟨by omega, by omega⟩ hW hf hA) ?_
      rintro _ ⟨I100, rfl, hg101, he102⟩
      have hGw103 : cs_G I L I100 L := ⟨fun p k hp => hg101 p k (by omega), fun _ _ _ => rfl⟩
      have hW104 := cs_W_t hW (cs_G_F hGw103)
      have hF105 := (cs_G_F hGw103)
      have hG106 := hGw103
      have hz107 : ¬ sp_f P a 5 = 0 := sp_f_ne hW hA.2.1 (by omega)
      have hn108 : ¬ I100 11 11 = 0 := by rw [he102]; exact hz107
      have hx109 : sp_R K P V (2, a, 0, [], ld, nm, cs) (.inr (sp_f P a 5)) := sp_R_1 (by
        show sp_line K P V a ld nm cs = _
        first
        | (exfalso; omega)
        | (unfold sp_line; repeat (first | rw [if_pos (by omega)] | rw [if_neg (by omega)]); unfold sp_event; repeat (first | rw [if_pos (by omega)] | rw [if_neg (by omega)])))
      show yi_D zi_Ms d zi_m254 k (44, [(0, .inr (.inr (some 11)))], [], (I100, L, R, Y), 0, 0) _
      refine yi_D_run 2 (47, [(0, .inr (.inr (some 11)))], [.inl 7, .inr (.inr (some 11))], (I100, L, R, Y), 0, 0) (fun _ => rfl) ?_
      refine yi_D_callv rfl (p_takeKind_f hW104 hn108) ?_
      rintro _ rfl
      show yi_D zi_Ms d zi_m254 k (50, [(0, .inr (.inr (some 11)))], [], (I100, L, R, Y), 0, 0) _
      refine yi_D_run 1 (51, [(0, .inr (.inr (some 11)))], [.inr (.inr (some 11))], (I100, L, R, Y), 0, 0) (fun _ => rfl) ?_
      refine yi_D_callv rfl (p_takeNewName_f hW104 hn108) ?_
      rintro _ ⟨z110, rfl⟩
      show yi_D zi_Ms d zi_m254 k (54, [(0, .inr (.inr (some 11)))], [.inr (.inl z110)], (I100, L, R, Y), 0, 0) _
      refine yi_D_run 3 (58, [(1, .inr (.inl z110)), (0, .inr (.inr (some 11)))], [.inl 59, .inr (.inr (some 11))], (I100, L, R, Y), 0, 0) (fun _ => rfl) ?_
      
      refine yi_D_callv rfl (p_takeKind_f hW104 hn108) ?_
      rintro _ rfl
      show yi_D zi_Ms d zi_m254 k (61, [(1, .inr (.inl z110)), (0, .inr (.inr (some 11)))], [], (I100, L, R, Y), 0, 0) _
      refine yi_D_run 1 (62, [(1, .inr (.inl z110)), (0, .inr (.inr (some 11)))], [.inr (.inr (some 11))], (I100, L, R, Y), 0, 0) (fun _ => rfl) ?_
      refine yi_D_gi (v := I100 11 11) rfl rfl rfl rfl (fun _ => ?_)
      have h111 : ¬ ((I100 11 11) = 0) := by omega
      refine yi_D_if1 true rfl (yi_ne_t h111) ?_
      refine yi_D_retv rfl ?_
      exact ⟨_, _, _, _, _, _, rfl, cs_H_F hF105, Or.inr ⟨_, hx109, hz107, he102⟩⟩
theorem p_readProphetC {d : Nat} {I L : Nat → Nat → Int} {R : Nat → Nat → Option Nat} {Y : (Nat → Nat) × (Nat → Nat) × Nat} {K P V : Nat → Int} {te q a : Nat} {ld : Nat → Int} {nm : Int → Int} (hW : cs_W I L R Y K P V te q ld nm) (hf : I 11 11 = 0) (hA : cs_A I L K te a) (cs : List (Int × Int)) (hk : K a = 8) {u : Nat} (hln : ln_S I R Y q u ld cs) (hua : u ≤ a) : yi_P zi_Ms d 264 [.inr (.inr (some 11))] (I, L, R, Y) (cs_QLC I L R Y K P V te (2, a, 0, [], ld, nm, cs) q a) := by
  refine yi_P_of (M := zi_m264) rfl (fun d k => ?_)
  obtain ⟨ly1, ly2, ly3, ly4⟩ := hW.2.2.1.2.2.2
  have lb := hW.2.2.2.2.1
  have hq0 := hW.2.2.1.1
  have hcc := cc_S_0 (tr := trP) (cs := cs) hln.1.1 hln.1.2
  have hle0 := hA.2.1
  have hte0 := hW.2.1.1
  show yi_D zi_Ms d zi_m264 k (0, [(0, .inr (.inr (some 11)))], [], (I, L, R, Y), 0, 0) _
  refine yi_D_run 1 (1, [(0, .inr (.inr (some 11)))], [.inr (.inr (some 11))], (I, L, R, Y), 0, 0) (fun _ => rfl) ?_
  refine yi_D_gr (v := some q) rfl rfl rfl hW.2.2.1.2.1 (fun _ => ?_)
  refine yi_D_gi (v := ld 3) rfl rfl (Nat.ble_eq_true_of_le (by omega)) hW.2.2.2.1.2.2.2.1 (fun _ => ?_)
  refine yi_D_run 1 (8, [(0, .inr (.inr (some 11)))], [.inl 5, .inl (ld 3)], (I, L, R, Y), 0, 0) (fun _ => rfl) ?_
  by_cases h1 : (ld 3) < 5
  · refine yi_D_if2 true rfl (yi_lt_t h1) ?_
    refine yi_D_run 2 (19, [(0, .inr (.inr (some 11)))], [.inl 8, .inr (.inr (some 11))], (I, L, R, Y), 0, 0) (fun _ => rfl) ?_
    refine yi_D_callv rfl (p_takeKind_z (by omega) hW hf hA) ?_
    rintro _ (⟨c2, I3, L4, rfl, hGa5, hf6, hA7⟩ | ⟨c8, I9, L10, rfl, hGa11, he12⟩)
    · have hA7 : cs_A I3 L4 K te (a + 1) := hA7
      have hW13 := cs_W_t hW (cs_G_F hGa5)
      have hF14 := (cs_G_F hGa5)
      have hG15 := hGa5
      have hcc16 := cc_G hcc hGa5
      show yi_D zi_Ms d zi_m264 k (22, [(0, .inr (.inr (some 11)))], [], (I3, L4, R, Y), 0, 0) _
      refine yi_D_run 1 (23, [(0, .inr (.inr (some 11)))], [.inr (.inr (some 11))], (I3, L4, R, Y), 0, 0) (fun _ => rfl) ?_
      refine yi_D_callv rfl (p_takeNewName_z hW13 hf6 hA7) ?_
      rintro _ (⟨c17, c18, I19, L20, rfl, hGa21, hf22, hA23⟩ | ⟨c24, z29, I25, L26, rfl, hGa27, he28⟩ | ⟨c30, z35, I31, L32, rfl, hGa33, he34⟩)
      · have hA23 : cs_A I19 L20 K te (a + 2) := hA23
        have hW36 := cs_W_t hW13 (cs_G_F hGa21)
        have hF37 := cs_F_t hF14 (cs_G_F hGa21)
        have hG38 := cs_G_t hG15 hGa21
        have hcc39 := cc_G hcc16 hGa21
        have hwr : sp_WR (L4 16 (a + 1)) (V (a + 1)) := by
          rw [hF14.2 16 (a + 1) (by omega)]
          exact (hW.2.1.2.2.1 (a + 1) hA7.2.1).2.2.2.2.1 (by omega)
        show yi_D zi_Ms d zi_m264 k (26, [(0, .inr (.inr (some 11)))], [.inr (.inl (L4 16 (a + 1)))], (I19, L20, R, Y), 0, 0) _
        refine yi_D_run 2 (28, [(1, .inr (.inl (L4 16 (a + 1)))), (0, .inr (.inr (some 11)))], [.inr (.inr (some 11))], (I19, L20, R, Y), 0, 0) (fun _ => rfl) ?_
        refine yi_D_gi (v := K (a + 2)) rfl rfl rfl hA23.2.2.1 (fun _ => ?_)
        refine yi_D_run 4 (36, [(3, .inl (yi_w ((K (a + 2)) - 25))), (1, .inr (.inl (L4 16 (a + 1)))), (0, .inr (.inr (some 11)))], [.inr (.inr (some 11))], (I19, L20, R, Y), 0, 0) (fun _ => rfl) ?_
        refine yi_D_gi (v := K (a + 2)) rfl rfl rfl hA23.2.2.1 (fun _ => ?_)
        refine yi_D_run 1 (41, [(3, .inl (yi_w ((K (a + 2)) - 25))), (1, .inr (.inl (L4 16 (a + 1)))), (0, .inr (.inr (some 11)))], [.inl 25, .inl (K (a + 2))], (I19, L20, R, Y), 0, 0) (fun _ => rfl) ?_
        by_cases h40 : (K (a + 2)) < 25
        · refine yi_D_if2 true rfl (yi_lt_t h40) ?_
          refine yi_D_run 2 (55, [(3, .inl (yi_w ((K (a + 2)) - 25))), (1, .inr (.inl (L4 16 (a + 1)))), (0, .inr (.inr (some 11)))], [.inl 1, .inr (.inr (some 11))], (I19, L20, R, Y), 0, 0) (fun _ => rfl) ?_
          refine yi_D_callv rfl (p_wrong_z ⟨by omega, by omega⟩ hW36 hf22 hA23) ?_
          rintro _ ⟨I41, rfl, hg42, he43⟩
          have hGw44 : cs_G I19 L20 I41 L20 := ⟨fun p k hp => hg42 p k (by omega), fun _ _ _ => rfl⟩
          have hW45 := cs_W_t hW36 (cs_G_F hGw44)
          have hF46 := cs_F_t hF37 (cs_G_F hGw44)
          have hG47 := cs_G_t hG38 hGw44
          have hz48 : ¬ sp_f P (a + 2) 1 = 0 := sp_f_ne hW36 hA23.2.1 (by omega)
          have hn49 : ¬ I41 11 11 = 0 := by rw [he43]; exact hz48
          have hx50 : sp_R K P V (2, a, 0, [], ld, nm, cs) (.inr (sp_f P (a + 2) 1)) := sp_R_1 (by
            show sp_line K P V a ld nm cs = _
            first
            | (exfalso; omega)
            | (unfold sp_line; repeat (first | rw [if_pos (by omega)] | rw [if_neg (by omega)]); unfold sp_prophet; repeat (first | rw [if_pos (by omega)] | rw [if_neg (by omega)])))
          show yi_D zi_Ms d zi_m264 k (58, [(3, .inl (yi_w ((K (a + 2)) - 25))), (1, .inr (.inl (L4 16 (a + 1)))), (0, .inr (.inr (some 11)))], [], (I41, L20, R, Y), 0, 0) _
          refine yi_D_run 1 (59, [(3, .inl (yi_w ((K (a + 2)) - 25))), (1, .inr (.inl (L4 16 (a + 1)))), (0, .inr (.inr (some 11)))], [.inr (.inr (some 11))], (I41, L20, R, Y), 0, 0) (fun _ => rfl) ?_
          refine yi_D_callv rfl (p_advance_f hW45 hn49) ?_
          rintro _ rfl
          show yi_D zi_Ms d zi_m264 k (62, [(3, .inl (yi_w ((K (a + 2)) - 25))), (1, .inr (.inl (L4 16 (a + 1)))), (0, .inr (.inr (some 11)))], [], (I41, L20, R, Y), 0, 0) _
          refine yi_D_run 2 (65, [(3, .inl (yi_w ((K (a + 2)) - 25))), (1, .inr (.inl (L4 16 (a + 1)))), (0, .inr (.inr (some 11)))], [.inl 9, .inr (.inr (some 11))], (I41, L20, R, Y), 0, 0) (fun _ => rfl) ?_
          refine yi_D_callv rfl (p_takeKind_f hW45 hn49) ?_
          rintro _ rfl
          show yi_D zi_Ms d zi_m264 k (68, [(3, .inl (yi_w ((K (a + 2)) - 25))), (1, .inr (.inl (L4 16 (a + 1)))), (0, .inr (.inr (some 11)))], [], (I41, L20, R, Y), 0, 0) _
          refine yi_D_run 3 (73, [(3, .inl (yi_w ((K (a + 2)) - 25))), (1, .inr (.inl (L4 16 (a + 1)))), (0, .inr (.inr (some 11)))], [.inl 999, .inl 0, .inr (.inr (some 11))], (I41, L20, R, Y), 0, 0) (fun _ => rfl) ?_
          refine yi_D_callv rfl (p_takeNumber_f hW45 hn49) ?_
          rintro _ ⟨z51, rfl⟩
          show yi_D zi_Ms d zi_m264 k (76, [(3, .inl (yi_w ((K (a + 2)) - 25))), (1, .inr (.inl (L4 16 (a + 1)))), (0, .inr (.inr (some 11)))], [.inl z51], (I41, L20, R, Y), 0, 0) _
          refine yi_D_run 3 (81, [(4, .inl z51), (3, .inl (yi_w ((K (a + 2)) - 25))), (1, .inr (.inl (L4 16 (a + 1)))), (0, .inr (.inr (some 11)))], [.inl 59, .inr (.inr (some 11))], (I41, L20, R, Y), 0, 0) (fun _ => rfl) ?_
          
          refine yi_D_callv rfl (p_takeKind_f hW45 hn49) ?_
          rintro _ rfl
          show yi_D zi_Ms d zi_m264 k (84, [(4, .inl z51), (3, .inl (yi_w ((K (a + 2)) - 25))), (1, .inr (.inl (L4 16 (a + 1)))), (0, .inr (.inr (some 11)))], [], (I41, L20, R, Y), 0, 0) _
          refine yi_D_run 1 (85, [(4, .inl z51), (3, .inl (yi_w ((K (a + 2)) - 25))), (1, .inr (.inl (L4 16 (a + 1)))), (0, .inr (.inr (some 11)))], [.inr (.inr (some 11))], (I41, L20, R, Y), 0, 0) (fun _ => rfl) ?_
          refine yi_D_gi (v := I41 11 11) rfl rfl rfl rfl (fun _ => ?_)
          have h52 : ¬ ((I41 11 11) = 0) := by omega
          refine yi_D_if1 true rfl (yi_ne_t h52) ?_
          refine yi_D_retv rfl ?_
          exact ⟨_, _, _, _, _, _, rfl, cs_H_F hF46, Or.inr ⟨_, hx50, hz48, he43⟩⟩
        · refine yi_D_if2 false rfl (yi_lt_f h40) ?_
          refine yi_D_run 1 (45, [(3, .inl (yi_w ((K (a + 2)) - 25))), (1, .inr (.inl (L4 16 (a + 1)))), (0, .inr (.inr (some 11)))], [.inr (.inr (some 11))], (I19, L20, R, Y), 0, 0) (fun _ => rfl) ?_
          refine yi_D_gi (v := K (a + 2)) rfl rfl rfl hA23.2.2.1 (fun _ => ?_)
          refine yi_D_run 1 (50, [(3, .inl (yi_w ((K (a + 2)) - 25))), (1, .inr (.inl (L4 16 (a + 1)))), (0, .inr (.inr (some 11)))], [.inl 29, .inl (K (a + 2))], (I19, L20, R, Y), 0, 0) (fun _ => rfl) ?_
          by_cases h53 : (K (a + 2)) ≤ 29
          · refine yi_D_if2 true rfl (yi_le_t h53) ?_
            refine yi_D_run 1 (59, [(3, .inl (yi_w ((K (a + 2)) - 25))), (1, .inr (.inl (L4 16 (a + 1)))), (0, .inr (.inr (some 11)))], [.inr (.inr (some 11))], (I19, L20, R, Y), 0, 0) (fun _ => rfl) ?_
            refine yi_D_callv rfl (p_advance_z hW36 hf22 hA23) ?_
            rintro _ ⟨I54, L55, rfl, hGa56, hf57, hA58⟩
            rw [sp_nx_lt (cs_lt hW36.2.1 hA23.2.1 (by omega))] at hA58
            have hA58 : cs_A I54 L55 K te (a + 3) := hA58
            have hW59 := cs_W_t hW36 (cs_G_F hGa56)
            have hF60 := cs_F_t hF37 (cs_G_F hGa56)
            have hG61 := cs_G_t hG38 hGa56
            have hcc62 := cc_G hcc39 hGa56
            show yi_D zi_Ms d zi_m264 k (62, [(3, .inl (yi_w ((K (a + 2)) - 25))), (1, .inr (.inl (L4 16 (a + 1)))), (0, .inr (.inr (some 11)))], [], (I54, L55, R, Y), 0, 0) _
            refine yi_D_run 2 (65, [(3, .inl (yi_w ((K (a + 2)) - 25))), (1, .inr (.inl (L4 16 (a + 1)))), (0, .inr (.inr (some 11)))], [.inl 9, .inr (.inr (some 11))], (I54, L55, R, Y), 0, 0) (fun _ => rfl) ?_
            refine yi_D_callv rfl (p_takeKind_z (by omega) hW59 hf57 hA58) ?_
            rintro _ (⟨c63, I64, L65, rfl, hGa66, hf67, hA68⟩ | ⟨c69, I70, L71, rfl, hGa72, he73⟩)
            · have hA68 : cs_A I64 L65 K te (a + 4) := hA68
              have hW74 := cs_W_t hW59 (cs_G_F hGa66)
              have hF75 := cs_F_t hF60 (cs_G_F hGa66)
              have hG76 := cs_G_t hG61 hGa66
              have hcc77 := cc_G hcc62 hGa66
              show yi_D zi_Ms d zi_m264 k (68, [(3, .inl (yi_w ((K (a + 2)) - 25))), (1, .inr (.inl (L4 16 (a + 1)))), (0, .inr (.inr (some 11)))], [], (I64, L65, R, Y), 0, 0) _
              refine yi_D_run 3 (73, [(3, .inl (yi_w ((K (a + 2)) - 25))), (1, .inr (.inl (L4 16 (a + 1)))), (0, .inr (.inr (some 11)))], [.inl 999, .inl 0, .inr (.inr (some 11))], (I64, L65, R, Y), 0, 0) (fun _ => rfl) ?_
              refine yi_D_callv rfl (p_takeNumber_z (lo := 0) (hi := 999) hW74 hf67 hA68) ?_
              rintro _ (⟨c78, c79, I80, L81, rfl, hGa82, hf83, hA84⟩ | ⟨c85, z90, I86, L87, rfl, hGa88, he89⟩ | ⟨c91, z96, I92, L93, rfl, hGa94, he95⟩)
              · have hA84 : cs_A I80 L81 K te (a + 5) := hA84
                have hW97 := cs_W_t hW74 (cs_G_F hGa82)
                have hF98 := cs_F_t hF75 (cs_G_F hGa82)
                have hG99 := cs_G_t hG76 hGa82
                have hcc100 := cc_G hcc77 hGa82
                show yi_D zi_Ms d zi_m264 k (76, [(3, .inl (yi_w ((K (a + 2)) - 25))), (1, .inr (.inl (L4 16 (a + 1)))), (0, .inr (.inr (some 11)))], [.inl (V (a + 4))], (I80, L81, R, Y), 0, 0) _
                refine yi_D_run 3 (81, [(4, .inl (V (a + 4))), (3, .inl (yi_w ((K (a + 2)) - 25))), (1, .inr (.inl (L4 16 (a + 1)))), (0, .inr (.inr (some 11)))], [.inl 59, .inr (.inr (some 11))], (I80, L81, R, Y), 0, 0) (fun _ => rfl) ?_
                have hR101 : sp_R K P V (2, a, 0, [], ld, nm, cs) (.inl (1, a + 5, 0, [], sp_up (sp_up (sp_up ld (11 + 2 * (ld 3).toNat) (K (a + 2) - 25)) (12 + 2 * (ld 3).toNat) (V (a + 4))) 3 (ld 3 + 1), sp_un nm (V (a + 1)) (8 + ld 3), cs)) := sp_R_1 (by
                  show sp_line K P V a ld nm cs = _
                  unfold sp_line
                  repeat (first | rw [if_pos (by omega)] | rw [if_neg (by omega)])
                  unfold sp_prophet
                  repeat (first | rw [if_pos (by omega)] | rw [if_neg (by omega)]))
                refine yi_D_callv rfl (p_takeKind_z (by omega) hW97 hf83 hA84) ?_
                rintro _ (⟨c102, I103, L104, rfl, hGa105, hf106, hA107⟩ | ⟨c108, I109, L110, rfl, hGa111, he112⟩)
                · have hA107 : cs_A I103 L104 K te (a + 6) := hA107
                  have hW113 := cs_W_t hW97 (cs_G_F hGa105)
                  have hF114 := cs_F_t hF98 (cs_G_F hGa105)
                  have hG115 := cs_G_t hG99 hGa105
                  have hcc116 := cc_G hcc100 hGa105
                  have hR117 : sp_R K P V (2, a, 0, [], ld, nm, cs) (.inl (2, (a + 5) + 1, 0, [], sp_up (sp_up (sp_up ld (11 + 2 * (ld 3).toNat) (K (a + 2) - 25)) (12 + 2 * (ld 3).toNat) (V (a + 4))) 3 (ld 3 + 1), sp_un nm (V (a + 1)) (8 + ld 3), cs)) := sp_R_s hR101 (by
                    show (if K _ = 59 then _ else _) = _
                    rw [if_pos (by omega)])
                  show yi_D zi_Ms d zi_m264 k (84, [(4, .inl (V (a + 4))), (3, .inl (yi_w ((K (a + 2)) - 25))), (1, .inr (.inl (L4 16 (a + 1)))), (0, .inr (.inr (some 11)))], [], (I103, L104, R, Y), 0, 0) _
                  refine yi_D_run 1 (85, [(4, .inl (V (a + 4))), (3, .inl (yi_w ((K (a + 2)) - 25))), (1, .inr (.inl (L4 16 (a + 1)))), (0, .inr (.inr (some 11)))], [.inr (.inr (some 11))], (I103, L104, R, Y), 0, 0) (fun _ => rfl) ?_
                  refine yi_D_gi (v := 0) rfl rfl rfl hf106 (fun _ => ?_)
                  refine yi_D_if1 false rfl (by decide) ?_
                  refine yi_D_run 1 (92, [(4, .inl (V (a + 4))), (3, .inl (yi_w ((K (a + 2)) - 25))), (1, .inr (.inl (L4 16 (a + 1)))), (0, .inr (.inr (some 11)))], [.inr (.inr (some 11))], (I103, L104, R, Y), 0, 0) (fun _ => rfl) ?_
                  refine yi_D_gr (v := some q) rfl rfl rfl hW.2.2.1.2.1 (fun _ => ?_)
                  refine yi_D_run 3 (99, [(4, .inl (V (a + 4))), (3, .inl (yi_w ((K (a + 2)) - 25))), (1, .inr (.inl (L4 16 (a + 1)))), (0, .inr (.inr (some 11)))], [.inl (V (a + 4)), .inl (yi_w ((K (a + 2)) - 25)), .inr (.inl (L4 16 (a + 1))), .inr (.inr (some q))], (I103, L104, R, Y), 0, 0) (fun _ => rfl) ?_
                  refine yi_D_callv rfl (p_addProphet hW113 (by omega)) ?_
                  rintro _ ⟨I118, L119, rfl, ho120, e121, e122, e123, e124, e125, e126⟩
                  show yi_D zi_Ms d zi_m264 k (102, [(4, .inl (V (a + 4))), (3, .inl (yi_w ((K (a + 2)) - 25))), (1, .inr (.inl (L4 16 (a + 1)))), (0, .inr (.inr (some 11)))], [], (I118, L119, R, Y), 0, 0) _
                  refine yi_D_retv rfl ?_
                  have hfin := cs_fin hF114 hW113 hf106 hA107 (fun p k _ h => ho120 p k h) (fun _ _ _ => rfl) ⟨Nat.le_refl _, fun _ _ => ⟨rfl, rfl⟩⟩ (cs_Ld_prophet hW113.2.2 hwr (by omega) (by omega) e121 e122 e123 e124 e125 e126)
                  rw [show yi_w (K (a + 2) - 25) = K (a + 2) - 25 from yi_wn (by omega) (by omega)] at hfin
                  have hln2 : ln_S I118 R Y q u (sp_up (sp_up (sp_up ld (11 + 2 * (ld 3).toNat) (K (a + 2) - 25)) (12 + 2 * (ld 3).toNat) (V (a + 4))) 3 (ld 3 + 1)) cs := ln_A hln hF114 hcc116 (fun p k _ _ _ _ => e125 p k (by omega)) hq0 (Or.inr (by (repeat rw [sp_up_n _ _ (by omega)]))) (fun j hj => by (repeat rw [sp_up_n _ _ (by omega)])) (by first | (rw [sp_up_e]; omega) | (((repeat rw [sp_up_n _ _ (by omega)])); exact Int.le_refl _)) (fun i hi => by (repeat rw [sp_up_n _ _ (by omega)]))
                  exact ⟨_, _, _, _, _, _, rfl, hfin.1, Or.inl ⟨_, _, _, _, _, hR117, by omega, hfin.2.1, hfin.2.2.1, hfin.2.2.2, hln2, by omega⟩⟩
                · have hW127 := cs_W_t hW97 (cs_G_F hGa111)
                  have hF128 := cs_F_t hF98 (cs_G_F hGa111)
                  have hG129 := cs_G_t hG99 hGa111
                  have hz130 : ¬ sp_f P (a + 5) 1 = 0 := sp_f_ne hW97 hA84.2.1 (by omega)
                  have hn131 : ¬ I109 11 11 = 0 := by rw [he112]; exact hz130
                  have hx132 : sp_R K P V (2, a, 0, [], ld, nm, cs) (.inr (sp_f P (a + 5) 1)) := sp_R_s hR101 (by
                    show (if K _ = 59 then _ else _) = _
                    rw [if_neg (by omega)])
                  show yi_D zi_Ms d zi_m264 k (84, [(4, .inl (V (a + 4))), (3, .inl (yi_w ((K (a + 2)) - 25))), (1, .inr (.inl (L4 16 (a + 1)))), (0, .inr (.inr (some 11)))], [], (I109, L110, R, Y), 0, 0) _
                  refine yi_D_run 1 (85, [(4, .inl (V (a + 4))), (3, .inl (yi_w ((K (a + 2)) - 25))), (1, .inr (.inl (L4 16 (a + 1)))), (0, .inr (.inr (some 11)))], [.inr (.inr (some 11))], (I109, L110, R, Y), 0, 0) (fun _ => rfl) ?_
                  refine yi_D_gi (v := I109 11 11) rfl rfl rfl rfl (fun _ => ?_)
                  have h133 : ¬ ((I109 11 11) = 0) := by omega
                  refine yi_D_if1 true rfl (yi_ne_t h133) ?_
                  refine yi_D_retv rfl ?_
                  exact ⟨_, _, _, _, _, _, rfl, cs_H_F hF128, Or.inr ⟨_, hx132, hz130, he112⟩⟩
              · have hW134 := cs_W_t hW74 (cs_G_F hGa88)
                have hF135 := cs_F_t hF75 (cs_G_F hGa88)
                have hG136 := cs_G_t hG76 hGa88
                have hz137 : ¬ sp_f P (a + 4) 1 = 0 := sp_f_ne hW74 hA68.2.1 (by omega)
                have hn138 : ¬ I86 11 11 = 0 := by rw [he89]; exact hz137
                have hx139 : sp_R K P V (2, a, 0, [], ld, nm, cs) (.inr (sp_f P (a + 4) 1)) := sp_R_1 (by
                  show sp_line K P V a ld nm cs = _
                  first
                  | (exfalso; omega)
                  | (unfold sp_line; repeat (first | rw [if_pos (by omega)] | rw [if_neg (by omega)]); unfold sp_prophet; repeat (first | rw [if_pos (by omega)] | rw [if_neg (by omega)])))
                show yi_D zi_Ms d zi_m264 k (76, [(3, .inl (yi_w ((K (a + 2)) - 25))), (1, .inr (.inl (L4 16 (a + 1)))), (0, .inr (.inr (some 11)))], [.inl z90], (I86, L87, R, Y), 0, 0) _
                refine yi_D_run 3 (81, [(4, .inl z90), (3, .inl (yi_w ((K (a + 2)) - 25))), (1, .inr (.inl (L4 16 (a + 1)))), (0, .inr (.inr (some 11)))], [.inl 59, .inr (.inr (some 11))], (I86, L87, R, Y), 0, 0) (fun _ => rfl) ?_
                
                refine yi_D_callv rfl (p_takeKind_f hW134 hn138) ?_
                rintro _ rfl
                show yi_D zi_Ms d zi_m264 k (84, [(4, .inl z90), (3, .inl (yi_w ((K (a + 2)) - 25))), (1, .inr (.inl (L4 16 (a + 1)))), (0, .inr (.inr (some 11)))], [], (I86, L87, R, Y), 0, 0) _
                refine yi_D_run 1 (85, [(4, .inl z90), (3, .inl (yi_w ((K (a + 2)) - 25))), (1, .inr (.inl (L4 16 (a + 1)))), (0, .inr (.inr (some 11)))], [.inr (.inr (some 11))], (I86, L87, R, Y), 0, 0) (fun _ => rfl) ?_
                refine yi_D_gi (v := I86 11 11) rfl rfl rfl rfl (fun _ => ?_)
                have h140 : ¬ ((I86 11 11) = 0) := by omega
                refine yi_D_if1 true rfl (yi_ne_t h140) ?_
                refine yi_D_retv rfl ?_
                exact ⟨_, _, _, _, _, _, rfl, cs_H_F hF135, Or.inr ⟨_, hx139, hz137, he89⟩⟩
              · have hW141 := cs_W_t hW74 (cs_G_F hGa94)
                have hF142 := cs_F_t hF75 (cs_G_F hGa94)
                have hG143 := cs_G_t hG76 hGa94
                have hz144 : ¬ sp_f P (a + 4) 4 = 0 := sp_f_ne hW74 hA68.2.1 (by omega)
                have hn145 : ¬ I92 11 11 = 0 := by rw [he95]; exact hz144
                have hx146 : sp_R K P V (2, a, 0, [], ld, nm, cs) (.inr (sp_f P (a + 4) 4)) := sp_R_1 (by
                  show sp_line K P V a ld nm cs = _
                  first
                  | (exfalso; omega)
                  | (unfold sp_line; repeat (first | rw [if_pos (by omega)] | rw [if_neg (by omega)]); unfold sp_prophet; repeat (first | rw [if_pos (by omega)] | rw [if_neg (by omega)])))
                show yi_D zi_Ms d zi_m264 k (76, [(3, .inl (yi_w ((K (a + 2)) - 25))), (1, .inr (.inl (L4 16 (a + 1)))), (0, .inr (.inr (some 11)))], [.inl z96], (I92, L93, R, Y), 0, 0) _
                refine yi_D_run 3 (81, [(4, .inl z96), (3, .inl (yi_w ((K (a + 2)) - 25))), (1, .inr (.inl (L4 16 (a + 1)))), (0, .inr (.inr (some 11)))], [.inl 59, .inr (.inr (some 11))], (I92, L93, R, Y), 0, 0) (fun _ => rfl) ?_
                
                refine yi_D_callv rfl (p_takeKind_f hW141 hn145) ?_
                rintro _ rfl
                show yi_D zi_Ms d zi_m264 k (84, [(4, .inl z96), (3, .inl (yi_w ((K (a + 2)) - 25))), (1, .inr (.inl (L4 16 (a + 1)))), (0, .inr (.inr (some 11)))], [], (I92, L93, R, Y), 0, 0) _
                refine yi_D_run 1 (85, [(4, .inl z96), (3, .inl (yi_w ((K (a + 2)) - 25))), (1, .inr (.inl (L4 16 (a + 1)))), (0, .inr (.inr (some 11)))], [.inr (.inr (some 11))], (I92, L93, R, Y), 0, 0) (fun _ => rfl) ?_
                refine yi_D_gi (v := I92 11 11) rfl rfl rfl rfl (fun _ => ?_)
                have h147 : ¬ ((I92 11 11) = 0) := by omega
                refine yi_D_if1 true rfl (yi_ne_t h147) ?_
                refine yi_D_retv rfl ?_
                exact ⟨_, _, _, _, _, _, rfl, cs_H_F hF142, Or.inr ⟨_, hx146, hz144, he95⟩⟩
            · have hW148 := cs_W_t hW59 (cs_G_F hGa72)
              have hF149 := cs_F_t hF60 (cs_G_F hGa72)
              have hG150 := cs_G_t hG61 hGa72
              have hz151 : ¬ sp_f P (a + 3) 1 = 0 := sp_f_ne hW59 hA58.2.1 (by omega)
              have hn152 : ¬ I70 11 11 = 0 := by rw [he73]; exact hz151
              have hx153 : sp_R K P V (2, a, 0, [], ld, nm, cs) (.inr (sp_f P (a + 3) 1)) := sp_R_1 (by
                show sp_line K P V a ld nm cs = _
                first
                | (exfalso; omega)
                | (unfold sp_line; repeat (first | rw [if_pos (by omega)] | rw [if_neg (by omega)]); unfold sp_prophet; repeat (first | rw [if_pos (by omega)] | rw [if_neg (by omega)])))
              show yi_D zi_Ms d zi_m264 k (68, [(3, .inl (yi_w ((K (a + 2)) - 25))), (1, .inr (.inl (L4 16 (a + 1)))), (0, .inr (.inr (some 11)))], [], (I70, L71, R, Y), 0, 0) _
              refine yi_D_run 3 (73, [(3, .inl (yi_w ((K (a + 2)) - 25))), (1, .inr (.inl (L4 16 (a + 1)))), (0, .inr (.inr (some 11)))], [.inl 999, .inl 0, .inr (.inr (some 11))], (I70, L71, R, Y), 0, 0) (fun _ => rfl) ?_
              refine yi_D_callv rfl (p_takeNumber_f hW148 hn152) ?_
              rintro _ ⟨z154, rfl⟩
              show yi_D zi_Ms d zi_m264 k (76, [(3, .inl (yi_w ((K (a + 2)) - 25))), (1, .inr (.inl (L4 16 (a + 1)))), (0, .inr (.inr (some 11)))], [.inl z154], (I70, L71, R, Y), 0, 0) _
              refine yi_D_run 3 (81, [(4, .inl z154), (3, .inl (yi_w ((K (a + 2)) - 25))), (1, .inr (.inl (L4 16 (a + 1)))), (0, .inr (.inr (some 11)))], [.inl 59, .inr (.inr (some 11))], (I70, L71, R, Y), 0, 0) (fun _ => rfl) ?_
              
              refine yi_D_callv rfl (p_takeKind_f hW148 hn152) ?_
              rintro _ rfl
              show yi_D zi_Ms d zi_m264 k (84, [(4, .inl z154), (3, .inl (yi_w ((K (a + 2)) - 25))), (1, .inr (.inl (L4 16 (a + 1)))), (0, .inr (.inr (some 11)))], [], (I70, L71, R, Y), 0, 0) _
              refine yi_D_run 1 (85, [(4, .inl z154), (3, .inl (yi_w ((K (a + 2)) - 25))), (1, .inr (.inl (L4 16 (a + 1)))), (0, .inr (.inr (some 11)))], [.inr (.inr (some 11))], (I70, L71, R, Y), 0, 0) (fun _ => rfl) ?_
              refine yi_D_gi (v := I70 11 11) rfl rfl rfl rfl (fun _ => ?_)
              have h155 : ¬ ((I70 11 11) = 0) := by omega
              refine yi_D_if1 true rfl (yi_ne_t h155) ?_
              refine yi_D_retv rfl ?_
              exact ⟨_, _, _, _, _, _, rfl, cs_H_F hF149, Or.inr ⟨_, hx153, hz151, he73⟩⟩
          · refine yi_D_if2 false rfl (yi_le_f h53) ?_
            refine yi_D_run 2 (55, [(3, .inl (yi_w ((K (a + 2)) - 25))), (1, .inr (.inl (L4 16 (a + 1)))), (0, .inr (.inr (some 11)))], [.inl 1, .inr (.inr (some 11))], (I19, L20, R, Y), 0, 0) (fun _ => rfl) ?_
            refine yi_D_callv rfl (p_wrong_z ⟨by omega, by omega⟩ hW36 hf22 hA23) ?_
            rintro _ ⟨I156, rfl, hg157, he158⟩
            have hGw159 : cs_G I19 L20 I156 L20 := ⟨fun p k hp => hg157 p k (by omega), fun _ _ _ => rfl⟩
            have hW160 := cs_W_t hW36 (cs_G_F hGw159)
            have hF161 := cs_F_t hF37 (cs_G_F hGw159)
            have hG162 := cs_G_t hG38 hGw159
            have hz163 : ¬ sp_f P (a + 2) 1 = 0 := sp_f_ne hW36 hA23.2.1 (by omega)
            have hn164 : ¬ I156 11 11 = 0 := by rw [he158]; exact hz163
            have hx165 : sp_R K P V (2, a, 0, [], ld, nm, cs) (.inr (sp_f P (a + 2) 1)) := sp_R_1 (by
              show sp_line K P V a ld nm cs = _
              first
              | (exfalso; omega)
              | (unfold sp_line; repeat (first | rw [if_pos (by omega)] | rw [if_neg (by omega)]); unfold sp_prophet; repeat (first | rw [if_pos (by omega)] | rw [if_neg (by omega)])))
            show yi_D zi_Ms d zi_m264 k (58, [(3, .inl (yi_w ((K (a + 2)) - 25))), (1, .inr (.inl (L4 16 (a + 1)))), (0, .inr (.inr (some 11)))], [], (I156, L20, R, Y), 0, 0) _
            refine yi_D_run 1 (59, [(3, .inl (yi_w ((K (a + 2)) - 25))), (1, .inr (.inl (L4 16 (a + 1)))), (0, .inr (.inr (some 11)))], [.inr (.inr (some 11))], (I156, L20, R, Y), 0, 0) (fun _ => rfl) ?_
            refine yi_D_callv rfl (p_advance_f hW160 hn164) ?_
            rintro _ rfl
            show yi_D zi_Ms d zi_m264 k (62, [(3, .inl (yi_w ((K (a + 2)) - 25))), (1, .inr (.inl (L4 16 (a + 1)))), (0, .inr (.inr (some 11)))], [], (I156, L20, R, Y), 0, 0) _
            refine yi_D_run 2 (65, [(3, .inl (yi_w ((K (a + 2)) - 25))), (1, .inr (.inl (L4 16 (a + 1)))), (0, .inr (.inr (some 11)))], [.inl 9, .inr (.inr (some 11))], (I156, L20, R, Y), 0, 0) (fun _ => rfl) ?_
            refine yi_D_callv rfl (p_takeKind_f hW160 hn164) ?_
            rintro _ rfl
            show yi_D zi_Ms d zi_m264 k (68, [(3, .inl (yi_w ((K (a + 2)) - 25))), (1, .inr (.inl (L4 16 (a + 1)))), (0, .inr (.inr (some 11)))], [], (I156, L20, R, Y), 0, 0) _
            refine yi_D_run 3 (73, [(3, .inl (yi_w ((K (a + 2)) - 25))), (1, .inr (.inl (L4 16 (a + 1)))), (0, .inr (.inr (some 11)))], [.inl 999, .inl 0, .inr (.inr (some 11))], (I156, L20, R, Y), 0, 0) (fun _ => rfl) ?_
            refine yi_D_callv rfl (p_takeNumber_f hW160 hn164) ?_
            rintro _ ⟨z166, rfl⟩
            show yi_D zi_Ms d zi_m264 k (76, [(3, .inl (yi_w ((K (a + 2)) - 25))), (1, .inr (.inl (L4 16 (a + 1)))), (0, .inr (.inr (some 11)))], [.inl z166], (I156, L20, R, Y), 0, 0) _
            refine yi_D_run 3 (81, [(4, .inl z166), (3, .inl (yi_w ((K (a + 2)) - 25))), (1, .inr (.inl (L4 16 (a + 1)))), (0, .inr (.inr (some 11)))], [.inl 59, .inr (.inr (some 11))], (I156, L20, R, Y), 0, 0) (fun _ => rfl) ?_
            
            refine yi_D_callv rfl (p_takeKind_f hW160 hn164) ?_
            rintro _ rfl
            show yi_D zi_Ms d zi_m264 k (84, [(4, .inl z166), (3, .inl (yi_w ((K (a + 2)) - 25))), (1, .inr (.inl (L4 16 (a + 1)))), (0, .inr (.inr (some 11)))], [], (I156, L20, R, Y), 0, 0) _
            refine yi_D_run 1 (85, [(4, .inl z166), (3, .inl (yi_w ((K (a + 2)) - 25))), (1, .inr (.inl (L4 16 (a + 1)))), (0, .inr (.inr (some 11)))], [.inr (.inr (some 11))], (I156, L20, R, Y), 0, 0) (fun _ => rfl) ?_
            refine yi_D_gi (v := I156 11 11) rfl rfl rfl rfl (fun _ => ?_)
            have h167 : ¬ ((I156 11 11) = 0) := by omega
            refine yi_D_if1 true rfl (yi_ne_t h167) ?_
            refine yi_D_retv rfl ?_
            exact ⟨_, _, _, _, _, _, rfl, cs_H_F hF161, Or.inr ⟨_, hx165, hz163, he158⟩⟩
      · have hW168 := cs_W_t hW13 (cs_G_F hGa27)
        have hF169 := cs_F_t hF14 (cs_G_F hGa27)
        have hG170 := cs_G_t hG15 hGa27
        have hz171 : ¬ sp_f P (a + 1) 1 = 0 := sp_f_ne hW13 hA7.2.1 (by omega)
        have hn172 : ¬ I25 11 11 = 0 := by rw [he28]; exact hz171
        have hx173 : sp_R K P V (2, a, 0, [], ld, nm, cs) (.inr (sp_f P (a + 1) 1)) := sp_R_1 (by
          show sp_line K P V a ld nm cs = _
          first
          | (exfalso; omega)
          | (unfold sp_line; repeat (first | rw [if_pos (by omega)] | rw [if_neg (by omega)]); unfold sp_prophet; repeat (first | rw [if_pos (by omega)] | rw [if_neg (by omega)])))
        show yi_D zi_Ms d zi_m264 k (26, [(0, .inr (.inr (some 11)))], [.inr (.inl z29)], (I25, L26, R, Y), 0, 0) _
        refine yi_D_run 2 (28, [(1, .inr (.inl z29)), (0, .inr (.inr (some 11)))], [.inr (.inr (some 11))], (I25, L26, R, Y), 0, 0) (fun _ => rfl) ?_
        refine yi_D_gi (v := I25 11 9) rfl rfl rfl rfl (fun _ => ?_)
        refine yi_D_run 4 (36, [(3, .inl (yi_w ((I25 11 9) - 25))), (1, .inr (.inl z29)), (0, .inr (.inr (some 11)))], [.inr (.inr (some 11))], (I25, L26, R, Y), 0, 0) (fun _ => rfl) ?_
        refine yi_D_gi (v := I25 11 9) rfl rfl rfl rfl (fun _ => ?_)
        refine yi_D_run 1 (41, [(3, .inl (yi_w ((I25 11 9) - 25))), (1, .inr (.inl z29)), (0, .inr (.inr (some 11)))], [.inl 25, .inl (I25 11 9)], (I25, L26, R, Y), 0, 0) (fun _ => rfl) ?_
        by_cases h174 : (I25 11 9) < 25
        · refine yi_D_if2 true rfl (yi_lt_t h174) ?_
          refine yi_D_run 2 (55, [(3, .inl (yi_w ((I25 11 9) - 25))), (1, .inr (.inl z29)), (0, .inr (.inr (some 11)))], [.inl 1, .inr (.inr (some 11))], (I25, L26, R, Y), 0, 0) (fun _ => rfl) ?_
          refine yi_D_callv rfl (p_wrong_f hW168 hn172) ?_
          rintro _ rfl
          show yi_D zi_Ms d zi_m264 k (58, [(3, .inl (yi_w ((I25 11 9) - 25))), (1, .inr (.inl z29)), (0, .inr (.inr (some 11)))], [], (I25, L26, R, Y), 0, 0) _
          refine yi_D_run 1 (59, [(3, .inl (yi_w ((I25 11 9) - 25))), (1, .inr (.inl z29)), (0, .inr (.inr (some 11)))], [.inr (.inr (some 11))], (I25, L26, R, Y), 0, 0) (fun _ => rfl) ?_
          refine yi_D_callv rfl (p_advance_f hW168 hn172) ?_
          rintro _ rfl
          show yi_D zi_Ms d zi_m264 k (62, [(3, .inl (yi_w ((I25 11 9) - 25))), (1, .inr (.inl z29)), (0, .inr (.inr (some 11)))], [], (I25, L26, R, Y), 0, 0) _
          refine yi_D_run 2 (65, [(3, .inl (yi_w ((I25 11 9) - 25))), (1, .inr (.inl z29)), (0, .inr (.inr (some 11)))], [.inl 9, .inr (.inr (some 11))], (I25, L26, R, Y), 0, 0) (fun _ => rfl) ?_
          refine yi_D_callv rfl (p_takeKind_f hW168 hn172) ?_
          rintro _ rfl
          show yi_D zi_Ms d zi_m264 k (68, [(3, .inl (yi_w ((I25 11 9) - 25))), (1, .inr (.inl z29)), (0, .inr (.inr (some 11)))], [], (I25, L26, R, Y), 0, 0) _
          refine yi_D_run 3 (73, [(3, .inl (yi_w ((I25 11 9) - 25))), (1, .inr (.inl z29)), (0, .inr (.inr (some 11)))], [.inl 999, .inl 0, .inr (.inr (some 11))], (I25, L26, R, Y), 0, 0) (fun _ => rfl) ?_
          refine yi_D_callv rfl (p_takeNumber_f hW168 hn172) ?_
          rintro _ ⟨z175, rfl⟩
          show yi_D zi_Ms d zi_m264 k (76, [(3, .inl (yi_w ((I25 11 9) - 25))), (1, .inr (.inl z29)), (0, .inr (.inr (some 11)))], [.inl z175], (I25, L26, R, Y), 0, 0) _
          refine yi_D_run 3 (81, [(4, .inl z175), (3, .inl (yi_w ((I25 11 9) - 25))), (1, .inr (.inl z29)), (0, .inr (.inr (some 11)))], [.inl 59, .inr (.inr (some 11))], (I25, L26, R, Y), 0, 0) (fun _ => rfl) ?_
          
          refine yi_D_callv rfl (p_takeKind_f hW168 hn172) ?_
          rintro _ rfl
          show yi_D zi_Ms d zi_m264 k (84, [(4, .inl z175), (3, .inl (yi_w ((I25 11 9) - 25))), (1, .inr (.inl z29)), (0, .inr (.inr (some 11)))], [], (I25, L26, R, Y), 0, 0) _
          refine yi_D_run 1 (85, [(4, .inl z175), (3, .inl (yi_w ((I25 11 9) - 25))), (1, .inr (.inl z29)), (0, .inr (.inr (some 11)))], [.inr (.inr (some 11))], (I25, L26, R, Y), 0, 0) (fun _ => rfl) ?_
          refine yi_D_gi (v := I25 11 11) rfl rfl rfl rfl (fun _ => ?_)
          have h176 : ¬ ((I25 11 11) = 0) := by omega
          refine yi_D_if1 true rfl (yi_ne_t h176) ?_
          refine yi_D_retv rfl ?_
          exact ⟨_, _, _, _, _, _, rfl, cs_H_F hF169, Or.inr ⟨_, hx173, hz171, he28⟩⟩
        · refine yi_D_if2 false rfl (yi_lt_f h174) ?_
          refine yi_D_run 1 (45, [(3, .inl (yi_w ((I25 11 9) - 25))), (1, .inr (.inl z29)), (0, .inr (.inr (some 11)))], [.inr (.inr (some 11))], (I25, L26, R, Y), 0, 0) (fun _ => rfl) ?_
          refine yi_D_gi (v := I25 11 9) rfl rfl rfl rfl (fun _ => ?_)
          refine yi_D_run 1 (50, [(3, .inl (yi_w ((I25 11 9) - 25))), (1, .inr (.inl z29)), (0, .inr (.inr (some 11)))], [.inl 29, .inl (I25 11 9)], (I25, L26, R, Y), 0, 0) (fun _ => rfl) ?_
          by_cases h177 : (I25 11 9) ≤ 29
          · refine yi_D_if2 true rfl (yi_le_t h177) ?_
            refine yi_D_run 1 (59, [(3, .inl (yi_w ((I25 11 9) - 25))), (1, .inr (.inl z29)), (0, .inr (.inr (some 11)))], [.inr (.inr (some 11))], (I25, L26, R, Y), 0, 0) (fun _ => rfl) ?_
            refine yi_D_callv rfl (p_advance_f hW168 hn172) ?_
            rintro _ rfl
            show yi_D zi_Ms d zi_m264 k (62, [(3, .inl (yi_w ((I25 11 9) - 25))), (1, .inr (.inl z29)), (0, .inr (.inr (some 11)))], [], (I25, L26, R, Y), 0, 0) _
            refine yi_D_run 2 (65, [(3, .inl (yi_w ((I25 11 9) - 25))), (1, .inr (.inl z29)), (0, .inr (.inr (some 11)))], [.inl 9, .inr (.inr (some 11))], (I25, L26, R, Y), 0, 0) (fun _ => rfl) ?_
            refine yi_D_callv rfl (p_takeKind_f hW168 hn172) ?_
            rintro _ rfl
            show yi_D zi_Ms d zi_m264 k (68, [(3, .inl (yi_w ((I25 11 9) - 25))), (1, .inr (.inl z29)), (0, .inr (.inr (some 11)))], [], (I25, L26, R, Y), 0, 0) _
            refine yi_D_run 3 (73, [(3, .inl (yi_w ((I25 11 9) - 25))), (1, .inr (.inl z29)), (0, .inr (.inr (some 11)))], [.inl 999, .inl 0, .inr (.inr (some 11))], (I25, L26, R, Y), 0, 0) (fun _ => rfl) ?_
            refine yi_D_callv rfl (p_takeNumber_f hW168 hn172) ?_
            rintro _ ⟨z178, rfl⟩
            show yi_D zi_Ms d zi_m264 k (76, [(3, .inl (yi_w ((I25 11 9) - 25))), (1, .inr (.inl z29)), (0, .inr (.inr (some 11)))], [.inl z178], (I25, L26, R, Y), 0, 0) _
            refine yi_D_run 3 (81, [(4, .inl z178), (3, .inl (yi_w ((I25 11 9) - 25))), (1, .inr (.inl z29)), (0, .inr (.inr (some 11)))], [.inl 59, .inr (.inr (some 11))], (I25, L26, R, Y), 0, 0) (fun _ => rfl) ?_
            
            refine yi_D_callv rfl (p_takeKind_f hW168 hn172) ?_
            rintro _ rfl
            show yi_D zi_Ms d zi_m264 k (84, [(4, .inl z178), (3, .inl (yi_w ((I25 11 9) - 25))), (1, .inr (.inl z29)), (0, .inr (.inr (some 11)))], [], (I25, L26, R, Y), 0, 0) _
            refine yi_D_run 1 (85, [(4, .inl z178), (3, .inl (yi_w ((I25 11 9) - 25))), (1, .inr (.inl z29)), (0, .inr (.inr (some 11)))], [.inr (.inr (some 11))], (I25, L26, R, Y), 0, 0) (fun _ => rfl) ?_
            refine yi_D_gi (v := I25 11 11) rfl rfl rfl rfl (fun _ => ?_)
            have h179 : ¬ ((I25 11 11) = 0) := by omega
            refine yi_D_if1 true rfl (yi_ne_t h179) ?_
            refine yi_D_retv rfl ?_
            exact ⟨_, _, _, _, _, _, rfl, cs_H_F hF169, Or.inr ⟨_, hx173, hz171, he28⟩⟩
          · refine yi_D_if2 false rfl (yi_le_f h177) ?_
            refine yi_D_run 2 (55, [(3, .inl (yi_w ((I25 11 9) - 25))), (1, .inr (.inl z29)), (0, .inr (.inr (some 11)))], [.inl 1, .inr (.inr (some 11))], (I25, L26, R, Y), 0, 0) (fun _ => rfl) ?_
            refine yi_D_callv rfl (p_wrong_f hW168 hn172) ?_
            rintro _ rfl
            show yi_D zi_Ms d zi_m264 k (58, [(3, .inl (yi_w ((I25 11 9) - 25))), (1, .inr (.inl z29)), (0, .inr (.inr (some 11)))], [], (I25, L26, R, Y), 0, 0) _
            refine yi_D_run 1 (59, [(3, .inl (yi_w ((I25 11 9) - 25))), (1, .inr (.inl z29)), (0, .inr (.inr (some 11)))], [.inr (.inr (some 11))], (I25, L26, R, Y), 0, 0) (fun _ => rfl) ?_
            refine yi_D_callv rfl (p_advance_f hW168 hn172) ?_
            rintro _ rfl
            show yi_D zi_Ms d zi_m264 k (62, [(3, .inl (yi_w ((I25 11 9) - 25))), (1, .inr (.inl z29)), (0, .inr (.inr (some 11)))], [], (I25, L26, R, Y), 0, 0) _
            refine yi_D_run 2 (65, [(3, .inl (yi_w ((I25 11 9) - 25))), (1, .inr (.inl z29)), (0, .inr (.inr (some 11)))], [.inl 9, .inr (.inr (some 11))], (I25, L26, R, Y), 0, 0) (fun _ => rfl) ?_
            refine yi_D_callv rfl (p_takeKind_f hW168 hn172) ?_
            rintro _ rfl
            show yi_D zi_Ms d zi_m264 k (68, [(3, .inl (yi_w ((I25 11 9) - 25))), (1, .inr (.inl z29)), (0, .inr (.inr (some 11)))], [], (I25, L26, R, Y), 0, 0) _
            refine yi_D_run 3 (73, [(3, .inl (yi_w ((I25 11 9) - 25))), (1, .inr (.inl z29)), (0, .inr (.inr (some 11)))], [.inl 999, .inl 0, .inr (.inr (some 11))], (I25, L26, R, Y), 0, 0) (fun _ => rfl) ?_
            refine yi_D_callv rfl (p_takeNumber_f hW168 hn172) ?_
            rintro _ ⟨z180, rfl⟩
            show yi_D zi_Ms d zi_m264 k (76, [(3, .inl (yi_w ((I25 11 9) - 25))), (1, .inr (.inl z29)), (0, .inr (.inr (some 11)))], [.inl z180], (I25, L26, R, Y), 0, 0) _
            refine yi_D_run 3 (81, [(4, .inl z180), (3, .inl (yi_w ((I25 11 9) - 25))), (1, .inr (.inl z29)), (0, .inr (.inr (some 11)))], [.inl 59, .inr (.inr (some 11))], (I25, L26, R, Y), 0, 0) (fun _ => rfl) ?_
            
            refine yi_D_callv rfl (p_takeKind_f hW168 hn172) ?_
            rintro _ rfl
            show yi_D zi_Ms d zi_m264 k (84, [(4, .inl z180), (3, .inl (yi_w ((I25 11 9) - 25))), (1, .inr (.inl z29)), (0, .inr (.inr (some 11)))], [], (I25, L26, R, Y), 0, 0) _
            refine yi_D_run 1 (85, [(4, .inl z180), (3, .inl (yi_w ((I25 11 9) - 25))), (1, .inr (.inl z29)), (0, .inr (.inr (some 11)))], [.inr (.inr (some 11))], (I25, L26, R, Y), 0, 0) (fun _ => rfl) ?_
            refine yi_D_gi (v := I25 11 11) rfl rfl rfl rfl (fun _ => ?_)
            have h181 : ¬ ((I25 11 11) = 0) := by omega
            refine yi_D_if1 true rfl (yi_ne_t h181) ?_
            refine yi_D_retv rfl ?_
            exact ⟨_, _, _, _, _, _, rfl, cs_H_F hF169, Or.inr ⟨_, hx173, hz171, he28⟩⟩
      · have hW182 := cs_W_t hW13 (cs_G_F hGa33)
        have hF183 := cs_F_t hF14 (cs_G_F hGa33)
        have hG184 := cs_G_t hG15 hGa33
        have hz185 : ¬ sp_f P (a + 1) 3 = 0 := sp_f_ne hW13 hA7.2.1 (by omega)
        have hn186 : ¬ I31 11 11 = 0 := by rw [he34]; exact hz185
        have hx187 : sp_R K P V (2, a, 0, [], ld, nm, cs) (.inr (sp_f P (a + 1) 3)) := sp_R_1 (by
          show sp_line K P V a ld nm cs = _
          first
          | (exfalso; omega)
          | (unfold sp_line; repeat (first | rw [if_pos (by omega)] | rw [if_neg (by omega)]); unfold sp_prophet; repeat (first | rw [if_pos (by omega)] | rw [if_neg (by omega)])))
        show yi_D zi_Ms d zi_m264 k (26, [(0, .inr (.inr (some 11)))], [.inr (.inl z35)], (I31, L32, R, Y), 0, 0) _
        refine yi_D_run 2 (28, [(1, .inr (.inl z35)), (0, .inr (.inr (some 11)))], [.inr (.inr (some 11))], (I31, L32, R, Y), 0, 0) (fun _ => rfl) ?_
        refine yi_D_gi (v := I31 11 9) rfl rfl rfl rfl (fun _ => ?_)
        refine yi_D_run 4 (36, [(3, .inl (yi_w ((I31 11 9) - 25))), (1, .inr (.inl z35)), (0, .inr (.inr (some 11)))], [.inr (.inr (some 11))], (I31, L32, R, Y), 0, 0) (fun _ => rfl) ?_
        refine yi_D_gi (v := I31 11 9) rfl rfl rfl rfl (fun _ => ?_)
        refine yi_D_run 1 (41, [(3, .inl (yi_w ((I31 11 9) - 25))), (1, .inr (.inl z35)), (0, .inr (.inr (some 11)))], [.inl 25, .inl (I31 11 9)], (I31, L32, R, Y), 0, 0) (fun _ => rfl) ?_
        by_cases h188 : (I31 11 9) < 25
        · refine yi_D_if2 true rfl (yi_lt_t h188) ?_
          refine yi_D_run 2 (55, [(3, .inl (yi_w ((I31 11 9) - 25))), (1, .inr (.inl z35)), (0, .inr (.inr (some 11)))], [.inl 1, .inr (.inr (some 11))], (I31, L32, R, Y), 0, 0) (fun _ => rfl) ?_
          refine yi_D_callv rfl (p_wrong_f hW182 hn186) ?_
          rintro _ rfl
          show yi_D zi_Ms d zi_m264 k (58, [(3, .inl (yi_w ((I31 11 9) - 25))), (1, .inr (.inl z35)), (0, .inr (.inr (some 11)))], [], (I31, L32, R, Y), 0, 0) _
          refine yi_D_run 1 (59, [(3, .inl (yi_w ((I31 11 9) - 25))), (1, .inr (.inl z35)), (0, .inr (.inr (some 11)))], [.inr (.inr (some 11))], (I31, L32, R, Y), 0, 0) (fun _ => rfl) ?_
          refine yi_D_callv rfl (p_advance_f hW182 hn186) ?_
          rintro _ rfl
          show yi_D zi_Ms d zi_m264 k (62, [(3, .inl (yi_w ((I31 11 9) - 25))), (1, .inr (.inl z35)), (0, .inr (.inr (some 11)))], [], (I31, L32, R, Y), 0, 0) _
          refine yi_D_run 2 (65, [(3, .inl (yi_w ((I31 11 9) - 25))), (1, .inr (.inl z35)), (0, .inr (.inr (some 11)))], [.inl 9, .inr (.inr (some 11))], (I31, L32, R, Y), 0, 0) (fun _ => rfl) ?_
          refine yi_D_callv rfl (p_takeKind_f hW182 hn186) ?_
          rintro _ rfl
          show yi_D zi_Ms d zi_m264 k (68, [(3, .inl (yi_w ((I31 11 9) - 25))), (1, .inr (.inl z35)), (0, .inr (.inr (some 11)))], [], (I31, L32, R, Y), 0, 0) _
          refine yi_D_run 3 (73, [(3, .inl (yi_w ((I31 11 9) - 25))), (1, .inr (.inl z35)), (0, .inr (.inr (some 11)))], [.inl 999, .inl 0, .inr (.inr (some 11))], (I31, L32, R, Y), 0, 0) (fun _ => rfl) ?_
          refine yi_D_callv rfl (p_takeNumber_f hW182 hn186) ?_
          rintro _ ⟨z189, rfl⟩
          show yi_D zi_Ms d zi_m264 k (76, [(3, .inl (yi_w ((I31 11 9) - 25))), (1, .inr (.inl z35)), (0, .inr (.inr (some 11)))], [.inl z189], (I31, L32, R, Y), 0, 0) _
          refine yi_D_run 3 (81, [(4, .inl z189), (3, .inl (yi_w ((I31 11 9) - 25))), (1, .inr (.inl z35)), (0, .inr (.inr (some 11)))], [.inl 59, .inr (.inr (some 11))], (I31, L32, R, Y), 0, 0) (fun _ => rfl) ?_
          
          refine yi_D_callv rfl (p_takeKind_f hW182 hn186) ?_
          rintro _ rfl
          show yi_D zi_Ms d zi_m264 k (84, [(4, .inl z189), (3, .inl (yi_w ((I31 11 9) - 25))), (1, .inr (.inl z35)), (0, .inr (.inr (some 11)))], [], (I31, L32, R, Y), 0, 0) _
          refine yi_D_run 1 (85, [(4, .inl z189), (3, .inl (yi_w ((I31 11 9) - 25))), (1, .inr (.inl z35)), (0, .inr (.inr (some 11)))], [.inr (.inr (some 11))], (I31, L32, R, Y), 0, 0) (fun _ => rfl) ?_
          refine yi_D_gi (v := I31 11 11) rfl rfl rfl rfl (fun _ => ?_)
          have h190 : ¬ ((I31 11 11) = 0) := by omega
          refine yi_D_if1 true rfl (yi_ne_t h190) ?_
          refine yi_D_retv rfl ?_
          exact ⟨_, _, _, _, _, _, rfl, cs_H_F hF183, Or.inr ⟨_, hx187, hz185, he34⟩⟩
        · refine yi_D_if2 false rfl (yi_lt_f h188) ?_
          refine yi_D_run 1 (45, [(3, .inl (yi_w ((I31 11 9) - 25))), (1, .inr (.inl z35)), (0, .inr (.inr (some 11)))], [.inr (.inr (some 11))], (I31, L32, R, Y), 0, 0) (fun _ => rfl) ?_
          refine yi_D_gi (v := I31 11 9) rfl rfl rfl rfl (fun _ => ?_)
          refine yi_D_run 1 (50, [(3, .inl (yi_w ((I31 11 9) - 25))), (1, .inr (.inl z35)), (0, .inr (.inr (some 11)))], [.inl 29, .inl (I31 11 9)], (I31, L32, R, Y), 0, 0) (fun _ => rfl) ?_
          by_cases h191 : (I31 11 9) ≤ 29
          · refine yi_D_if2 true rfl (yi_le_t h191) ?_
            refine yi_D_run 1 (59, [(3, .inl (yi_w ((I31 11 9) - 25))), (1, .inr (.inl z35)), (0, .inr (.inr (some 11)))], [.inr (.inr (some 11))], (I31, L32, R, Y), 0, 0) (fun _ => rfl) ?_
            refine yi_D_callv rfl (p_advance_f hW182 hn186) ?_
            rintro _ rfl
            show yi_D zi_Ms d zi_m264 k (62, [(3, .inl (yi_w ((I31 11 9) - 25))), (1, .inr (.inl z35)), (0, .inr (.inr (some 11)))], [], (I31, L32, R, Y), 0, 0) _
            refine yi_D_run 2 (65, [(3, .inl (yi_w ((I31 11 9) - 25))), (1, .inr (.inl z35)), (0, .inr (.inr (some 11)))], [.inl 9, .inr (.inr (some 11))], (I31, L32, R, Y), 0, 0) (fun _ => rfl) ?_
            refine yi_D_callv rfl (p_takeKind_f hW182 hn186) ?_
            rintro _ rfl
            show yi_D zi_Ms d zi_m264 k (68, [(3, .inl (yi_w ((I31 11 9) - 25))), (1, .inr (.inl z35)), (0, .inr (.inr (some 11)))], [], (I31, L32, R, Y), 0, 0) _
            refine yi_D_run 3 (73, [(3, .inl (yi_w ((I31 11 9) - 25))), (1, .inr (.inl z35)), (0, .inr (.inr (some 11)))], [.inl 999, .inl 0, .inr (.inr (some 11))], (I31, L32, R, Y), 0, 0) (fun _ => rfl) ?_
            refine yi_D_callv rfl (p_takeNumber_f hW182 hn186) ?_
            rintro _ ⟨z192, rfl⟩
            show yi_D zi_Ms d zi_m264 k (76, [(3, .inl (yi_w ((I31 11 9) - 25))), (1, .inr (.inl z35)), (0, .inr (.inr (some 11)))], [.inl z192], (I31, L32, R, Y), 0, 0) _
            refine yi_D_run 3 (81, [(4, .inl z192), (3, .inl (yi_w ((I31 11 9) - 25))), (1, .inr (.inl z35)), (0, .inr (.inr (some 11)))], [.inl 59, .inr (.inr (some 11))], (I31, L32, R, Y), 0, 0) (fun _ => rfl) ?_
            
            refine yi_D_callv rfl (p_takeKind_f hW182 hn186) ?_
            rintro _ rfl
            show yi_D zi_Ms d zi_m264 k (84, [(4, .inl z192), (3, .inl (yi_w ((I31 11 9) - 25))), (1, .inr (.inl z35)), (0, .inr (.inr (some 11)))], [], (I31, L32, R, Y), 0, 0) _
            refine yi_D_run 1 (85, [(4, .inl z192), (3, .inl (yi_w ((I31 11 9) - 25))), (1, .inr (.inl z35)), (0, .inr (.inr (some 11)))], [.inr (.inr (some 11))], (I31, L32, R, Y), 0, 0) (fun _ => rfl) ?_
            refine yi_D_gi (v := I31 11 11) rfl rfl rfl rfl (fun _ => ?_)
            have h193 : ¬ ((I31 11 11) = 0) := by omega
            refine yi_D_if1 true rfl (yi_ne_t h193) ?_
            refine yi_D_retv rfl ?_
            exact ⟨_, _, _, _, _, _, rfl, cs_H_F hF183, Or.inr ⟨_, hx187, hz185, he34⟩⟩
          · refine yi_D_if2 false rfl (yi_le_f h191) ?_
            refine yi_D_run 2 (55, [(3, .inl (yi_w ((I31 11 9) - 25))), (1, .inr (.inl z35)), (0, .inr (.inr (some 11)))], [.inl 1, .inr (.inr (some 11))], (I31, L32, R, Y), 0, 0) (fun _ => rfl) ?_
            refine yi_D_callv rfl (p_wrong_f hW182 hn186) ?_
            rintro _ rfl
            show yi_D zi_Ms d zi_m264 k (58, [(3, .inl (yi_w ((I31 11 9) - 25))), (1, .inr (.inl z35)), (0, .inr (.inr (some 11)))], [], (I31, L32, R, Y), 0, 0) _
            refine yi_D_run 1 (59, [(3, .inl (yi_w ((I31 11 9) - 25))), (1, .inr (.inl z35)), (0, .inr (.inr (some 11)))], [.inr (.inr (some 11))], (I31, L32, R, Y), 0, 0) (fun _ => rfl) ?_
            refine yi_D_callv rfl (p_advance_f hW182 hn186) ?_
            rintro _ rfl
            show yi_D zi_Ms d zi_m264 k (62, [(3, .inl (yi_w ((I31 11 9) - 25))), (1, .inr (.inl z35)), (0, .inr (.inr (some 11)))], [], (I31, L32, R, Y), 0, 0) _
            refine yi_D_run 2 (65, [(3, .inl (yi_w ((I31 11 9) - 25))), (1, .inr (.inl z35)), (0, .inr (.inr (some 11)))], [.inl 9, .inr (.inr (some 11))], (I31, L32, R, Y), 0, 0) (fun _ => rfl) ?_
            refine yi_D_callv rfl (p_takeKind_f hW182 hn186) ?_
            rintro _ rfl
            show yi_D zi_Ms d zi_m264 k (68, [(3, .inl (yi_w ((I31 11 9) - 25))), (1, .inr (.inl z35)), (0, .inr (.inr (some 11)))], [], (I31, L32, R, Y), 0, 0) _
            refine yi_D_run 3 (73, [(3, .inl (yi_w ((I31 11 9) - 25))), (1, .inr (.inl z35)), (0, .inr (.inr (some 11)))], [.inl 999, .inl 0, .inr (.inr (some 11))], (I31, L32, R, Y), 0, 0) (fun _ => rfl) ?_
            refine yi_D_callv rfl (p_takeNumber_f hW182 hn186) ?_
            rintro _ ⟨z194, rfl⟩
            show yi_D zi_Ms d zi_m264 k (76, [(3, .inl (yi_w ((I31 11 9) - 25))), (1, .inr (.inl z35)), (0, .inr (.inr (some 11)))], [.inl z194], (I31, L32, R, Y), 0, 0) _
            refine yi_D_run 3 (81, [(4, .inl z194), (3, .inl (yi_w ((I31 11 9) - 25))), (1, .inr (.inl z35)), (0, .inr (.inr (some 11)))], [.inl 59, .inr (.inr (some 11))], (I31, L32, R, Y), 0, 0) (fun _ => rfl) ?_
            
            refine yi_D_callv rfl (p_takeKind_f hW182 hn186) ?_
            rintro _ rfl
            show yi_D zi_Ms d zi_m264 k (84, [(4, .inl z194), (3, .inl (yi_w ((I31 11 9) - 25))), (1, .inr (.inl z35)), (0, .inr (.inr (some 11)))], [], (I31, L32, R, Y), 0, 0) _
            refine yi_D_run 1 (85, [(4, .inl z194), (3, .inl (yi_w ((I31 11 9) - 25))), (1, .inr (.inl z35)), (0, .inr (.inr (some 11)))], [.inr (.inr (some 11))], (I31, L32, R, Y), 0, 0) (fun _ => rfl) ?_
            refine yi_D_gi (v := I31 11 11) rfl rfl rfl rfl (fun _ => ?_)
            have h195 : ¬ ((I31 11 11) = 0) := by omega
            refine yi_D_if1 true rfl (yi_ne_t h195) ?_
            refine yi_D_retv rfl ?_
            exact ⟨_, _, _, _, _, _, rfl, cs_H_F hF183, Or.inr ⟨_, hx187, hz185, he34⟩⟩
    · exfalso; omega
  · refine yi_D_if2 false rfl (yi_lt_f h1) ?_
    refine yi_D_run 2 (13, [(0, .inr (.inr (some 11)))], [.inl 5, .inr (.inr (some 11))], (I, L, R, Y), 0, 0) (fun _ => rfl) ?_
    refine yi_D_callv rfl (p_wrong_z ⟨by omega, by omega⟩ hW hf hA) ?_
    rintro _ ⟨I196, rfl, hg197, he198⟩
    have hGw199 : cs_G I L I196 L := ⟨fun p k hp => hg197 p k (by omega), fun _ _ _ => rfl⟩
    have hW200 := cs_W_t hW (cs_G_F hGw199)
    have hF201 := (cs_G_F hGw199)
    have hG202 := hGw199
    have hz203 : ¬ sp_f P a 5 = 0 := sp_f_ne hW hA.2.1 (by omega)
    have hn204 : ¬ I196 11 11 = 0 := by rw [he198]; exact hz203
    have hx205 : sp_R K P V (2, a, 0, [], ld, nm, cs) (.inr (sp_f P a 5)) := sp_R_1 (by
      show sp_line K P V a ld nm cs = _
      first
      | (exfalso; omega)
      | (unfold sp_line; repeat (first | rw [if_pos (by omega)] | rw [if_neg (by omega)]); unfold sp_prophet; repeat (first | rw [if_pos (by omega)] | rw [if_neg (by omega)])))
    show yi_D zi_Ms d zi_m264 k (16, [(0, .inr (.inr (some 11)))], [], (I196, L, R, Y), 0, 0) _
    refine yi_D_run 2 (19, [(0, .inr (.inr (some 11)))], [.inl 8, .inr (.inr (some 11))], (I196, L, R, Y), 0, 0) (fun _ => rfl) ?_
    refine yi_D_callv rfl (p_takeKind_f hW200 hn204) ?_
    rintro _ rfl
    show yi_D zi_Ms d zi_m264 k (22, [(0, .inr (.inr (some 11)))], [], (I196, L, R, Y), 0, 0) _
    refine yi_D_run 1 (23, [(0, .inr (.inr (some 11)))], [.inr (.inr (some 11))], (I196, L, R, Y), 0, 0) (fun _ => rfl) ?_
    refine yi_D_callv rfl (p_takeNewName_f hW200 hn204) ?_
    rintro _ ⟨z206, rfl⟩
    show yi_D zi_Ms d zi_m264 k (26, [(0, .inr (.inr (some 11)))], [.inr (.inl z206)], (I196, L, R, Y), 0, 0) _
    refine yi_D_run 2 (28, [(1, .inr (.inl z206)), (0, .inr (.inr (some 11)))], [.inr (.inr (some 11))], (I196, L, R, Y), 0, 0) (fun _ => rfl) ?_
    refine yi_D_gi (v := I196 11 9) rfl rfl rfl rfl (fun _ => ?_)
    refine yi_D_run 4 (36, [(3, .inl (yi_w ((I196 11 9) - 25))), (1, .inr (.inl z206)), (0, .inr (.inr (some 11)))], [.inr (.inr (some 11))], (I196, L, R, Y), 0, 0) (fun _ => rfl) ?_
    refine yi_D_gi (v := I196 11 9) rfl rfl rfl rfl (fun _ => ?_)
    refine yi_D_run 1 (41, [(3, .inl (yi_w ((I196 11 9) - 25))), (1, .inr (.inl z206)), (0, .inr (.inr (some 11)))], [.inl 25, .inl (I196 11 9)], (I196, L, R, Y), 0, 0) (fun _ => rfl) ?_
    by_cases h207 : (I196 11 9) < 25
    · refine yi_D_if2 true rfl (yi_lt_t h207) ?_
      refine yi_D_run 2 (55, [(3, .inl (yi_w ((I196 11 9) - 25))), (1, .inr (.inl z206)), (0, .inr (.inr (some 11)))], [.inl 1, .inr (.inr (some 11))], (I196, L, R, Y), 0, 0) (fun _ => rfl) ?_
      refine yi_D_callv rfl (p_wrong_f hW200 hn204) ?_
      rintro _ rfl
      show yi_D zi_Ms d zi_m264 k (58, [(3, .inl (yi_w ((I196 11 9) - 25))), (1, .inr (.inl z206)), (0, .inr (.inr (some 11)))], [], (I196, L, R, Y), 0, 0) _
      refine yi_D_run 1 (59, [(3, .inl (yi_w ((I196 11 9) - 25))), (1, .inr (.inl z206)), (0, .inr (.inr (some 11)))], [.inr (.inr (some 11))], (I196, L, R, Y), 0, 0) (fun _ => rfl) ?_
      refine yi_D_callv rfl (p_advance_f hW200 hn204) ?_
      rintro _ rfl
      show yi_D zi_Ms d zi_m264 k (62, [(3, .inl (yi_w ((I196 11 9) - 25))), (1, .inr (.inl z206)), (0, .inr (.inr (some 11)))], [], (I196, L, R, Y), 0, 0) _
      refine yi_D_run 2 (65, [(3, .inl (yi_w ((I196 11 9) - 25))), (1, .inr (.inl z206)), (0, .inr (.inr (some 11)))], [.inl 9, .inr (.inr (some 11))], (I196, L, R, Y), 0, 0) (fun _ => rfl) ?_
      refine yi_D_callv rfl (p_takeKind_f hW200 hn204) ?_
      rintro _ rfl
      show yi_D zi_Ms d zi_m264 k (68, [(3, .inl (yi_w ((I196 11 9) - 25))), (1, .inr (.inl z206)), (0, .inr (.inr (some 11)))], [], (I196, L, R, Y), 0, 0) _
      refine yi_D_run 3 (73, [(3, .inl (yi_w ((I196 11 9) - 25))), (1, .inr (.inl z206)), (0, .inr (.inr (some 11)))], [.inl 999, .inl 0, .inr (.inr (some 11))], (I196, L, R, Y), 0, 0) (fun _ => rfl) ?_
      refine yi_D_callv rfl (p_takeNumber_f hW200 hn204) ?_
      rintro _ ⟨z208, rfl⟩
      show yi_D zi_Ms d zi_m264 k (76, [(3, .inl (yi_w ((I196 11 9) - 25))), (1, .inr (.inl z206)), (0, .inr (.inr (some 11)))], [.inl z208], (I196, L, R, Y), 0, 0) _
      refine yi_D_run 3 (81, [(4, .inl z208), (3, .inl (yi_w ((I196 11 9) - 25))), (1, .inr (.inl z206)), (0, .inr (.inr (some 11)))], [.inl 59, .inr (.inr (some 11))], (I196, L, R, Y), 0, 0) (fun _ => rfl) ?_
      
      refine yi_D_callv rfl (p_takeKind_f hW200 hn204) ?_
      rintro _ rfl
      show yi_D zi_Ms d zi_m264 k (84, [(4, .inl z208), (3, .inl (yi_w ((I196 11 9) - 25))), (1, .inr (.inl z206)), (0, .inr (.inr (some 11)))], [], (I196, L, R, Y), 0, 0) _
      refine yi_D_run 1 (85, [(4, .inl z208), (3, .inl (yi_w ((I196 11 9) - 25))), (1, .inr (.inl z206)), (0, .inr (.inr (some 11)))], [.inr (.inr (some 11))], (I196, L, R, Y), 0, 0) (fun _ => rfl) ?_
      refine yi_D_gi (v := I196 11 11) rfl rfl rfl rfl (fun _ => ?_)
      have h209 : ¬ ((I196 11 11) = 0) := by omega
      refine yi_D_if1 true rfl (yi_ne_t h209) ?_
      refine yi_D_retv rfl ?_
      exact ⟨_, _, _, _, _, _, rfl, cs_H_F hF201, Or.inr ⟨_, hx205, hz203, he198⟩⟩
    · refine yi_D_if2 false rfl (yi_lt_f h207) ?_
      refine yi_D_run 1 (45, [(3, .inl (yi_w ((I196 11 9) - 25))), (1, .inr (.inl z206)), (0, .inr (.inr (some 11)))], [.inr (.inr (some 11))], (I196, L, R, Y), 0, 0) (fun _ => rfl) ?_
      refine yi_D_gi (v := I196 11 9) rfl rfl rfl rfl (fun _ => ?_)
      refine yi_D_run 1 (50, [(3, .inl (yi_w ((I196 11 9) - 25))), (1, .inr (.inl z206)), (0, .inr (.inr (some 11)))], [.inl 29, .inl (I196 11 9)], (I196, L, R, Y), 0, 0) (fun _ => rfl) ?_
      by_cases h210 : (I196 11 9) ≤ 29
      · refine yi_D_if2 true rfl (yi_le_t h210) ?_
        refine yi_D_run 1 (59, [(3, .inl (yi_w ((I196 11 9) - 25))), (1, .inr (.inl z206)), (0, .inr (.inr (some 11)))], [.inr (.inr (some 11))], (I196, L, R, Y), 0, 0) (fun _ => rfl) ?_
        refine yi_D_callv rfl (p_advance_f hW200 hn204) ?_
        rintro _ rfl
        show yi_D zi_Ms d zi_m264 k (62, [(3, .inl (yi_w ((I196 11 9) - 25))), (1, .inr (.inl z206)), (0, .inr (.inr (some 11)))], [], (I196, L, R, Y), 0, 0) _
        refine yi_D_run 2 (65, [(3, .inl (yi_w ((I196 11 9) - 25))), (1, .inr (.inl z206)), (0, .inr (.inr (some 11)))], [.inl 9, .inr (.inr (some 11))], (I196, L, R, Y), 0, 0) (fun _ => rfl) ?_
        refine yi_D_callv rfl (p_takeKind_f hW200 hn204) ?_
        rintro _ rfl
        show yi_D zi_Ms d zi_m264 k (68, [(3, .inl (yi_w ((I196 11 9) - 25))), (1, .inr (.inl z206)), (0, .inr (.inr (some 11)))], [], (I196, L, R, Y), 0, 0) _
        refine yi_D_run 3 (73, [(3, .inl (yi_w ((I196 11 9) - 25))), (1, .inr (.inl z206)), (0, .inr (.inr (some 11)))], [.inl 999, .inl 0, .inr (.inr (some 11))], (I196, L, R, Y), 0, 0) (fun _ => rfl) ?_
        refine yi_D_callv rfl (p_takeNumber_f hW200 hn204) ?_
        rintro _ ⟨z211, rfl⟩
        show yi_D zi_Ms d zi_m264 k (76, [(3, .inl (yi_w ((I196 11 9) - 25))), (1, .inr (.inl z206)), (0, .inr (.inr (some 11)))], [.inl z211], (I196, L, R, Y), 0, 0) _
        refine yi_D_run 3 (81, [(4, .inl z211), (3, .inl (yi_w ((I196 11 9) - 25))), (1, .inr (.inl z206)), (0, .inr (.inr (some 11)))], [.inl 59, .inr (.inr (some 11))], (I196, L, R, Y), 0, 0) (fun _ => rfl) ?_
        
        refine yi_D_callv rfl (p_takeKind_f hW200 hn204) ?_
        rintro _ rfl
        show yi_D zi_Ms d zi_m264 k (84, [(4, .inl z211), (3, .inl (yi_w ((I196 11 9) - 25))), (1, .inr (.inl z206)), (0, .inr (.inr (some 11)))], [], (I196, L, R, Y), 0, 0) _
        refine yi_D_run 1 (85, [(4, .inl z211), (3, .inl (yi_w ((I196 11 9) - 25))), (1, .inr (.inl z206)), (0, .inr (.inr (some 11)))], [.inr (.inr (some 11))], (I196, L, R, Y), 0, 0) (fun _ => rfl) ?_
        refine yi_D_gi (v := I196 11 11) rfl rfl rfl rfl (fun _ => ?_)
        have h212 : ¬ ((I196 11 11) = 0) := by omega
        refine yi_D_if1 true rfl (yi_ne_t h212) ?_
        refine yi_D_retv rfl ?_
        exact ⟨_, _, _, _, _, _, rfl, cs_H_F hF201, Or.inr ⟨_, hx205, hz203, he198⟩⟩
      · refine yi_D_if2 false rfl (yi_le_f h210) ?_
        refine yi_D_run 2 (55, [(3, .inl (yi_w ((I196 11 9) - 25))), (1, .inr (.inl z206)), (0, .inr (.inr (some 11)))], [.inl 1, .inr (.inr (some 11))], (I196, L, R, Y), 0, 0) (fun _ => rfl) ?_
        refine yi_D_callv rfl (p_wrong_f hW200 hn204) ?_
        rintro _ rfl
        show yi_D zi_Ms d zi_m264 k (58, [(3, .inl (yi_w ((I196 11 9) - 25))), (1, .inr (.inl z206)), (0, .inr (.inr (some 11)))], [], (I196, L, R, Y), 0, 0) _
        refine yi_D_run 1 (59, [(3, .inl (yi_w ((I196 11 9) - 25))), (1, .inr (.inl z206)), (0, .inr (.inr (some 11)))], [.inr (.inr (some 11))], (I196, L, R, Y), 0, 0) (fun _ => rfl) ?_
        refine yi_D_callv rfl (p_advance_f hW200 hn204) ?_
        rintro _ rfl
        show yi_D zi_Ms d zi_m264 k (62, [(3, .inl (yi_w ((I196 11 9) - 25))), (1, .inr (.inl z206)), (0, .inr (.inr (some 11)))], [], (I196, L, R, Y), 0, 0) _
        refine yi_D_run 2 (65, [(3, .inl (yi_w ((I196 11 9) - 25))), (1, .inr (.inl z206)), (0, .inr (.inr (some 11)))], [.inl 9, .inr (.inr (some 11))], (I196, L, R, Y), 0, 0) (fun _ => rfl) ?_
        refine yi_D_callv rfl (p_takeKind_f hW200 hn204) ?_
        rintro _ rfl
        show yi_D zi_Ms d zi_m264 k (68, [(3, .inl (yi_w ((I196 11 9) - 25))), (1, .inr (.inl z206)), (0, .inr (.inr (some 11)))], [], (I196, L, R, Y), 0, 0) _
        refine yi_D_run 3 (73, [(3, .inl (yi_w ((I196 11 9) - 25))), (1, .inr (.inl z206)), (0, .inr (.inr (some 11)))], [.inl 999, .inl 0, .inr (.inr (some 11))], (I196, L, R, Y), 0, 0) (fun _ => rfl) ?_
        refine yi_D_callv rfl (p_takeNumber_f hW200 hn204) ?_
        rintro _ ⟨z213, rfl⟩
        show yi_D zi_Ms d zi_m264 k (76, [(3, .inl (yi_w ((I196 11 9) - 25))), (1, .inr (.inl z206)), (0, .inr (.inr (some 11)))], [.inl z213], (I196, L, R, Y), 0, 0) _
        refine yi_D_run 3 (81, [(4, .inl z213), (3, .inl (yi_w ((I196 11 9) - 25))), (1, .inr (.inl z206)), (0, .inr (.inr (some 11)))], [.inl 59, .inr (.inr (some 11))], (I196, L, R, Y), 0, 0) (fun _ => rfl) ?_
        
        refine yi_D_callv rfl (p_takeKind_f hW200 hn204) ?_
        rintro _ rfl
        show yi_D zi_Ms d zi_m264 k (84, [(4, .inl z213), (3, .inl (yi_w ((I196 11 9) - 25))), (1, .inr (.inl z206)), (0, .inr (.inr (some 11)))], [], (I196, L, R, Y), 0, 0) _
        refine yi_D_run 1 (85, [(4, .inl z213), (3, .inl (yi_w ((I196 11 9) - 25))), (1, .inr (.inl z206)), (0, .inr (.inr (some 11)))], [.inr (.inr (some 11))], (I196, L, R, Y), 0, 0) (fun _ => rfl) ?_
        refine yi_D_gi (v := I196 11 11) rfl rfl rfl rfl (fun _ => ?_)
        have h214 : ¬ ((I196 11 11) = 0) := by omega
        refine yi_D_if1 true rfl (yi_ne_t h214) ?_
        refine yi_D_retv rfl ?_
        exact ⟨_, _, _, _, _, _, rfl, cs_H_F hF201, Or.inr ⟨_, hx205, hz203, he198⟩⟩
theorem p_readDaysC {d : Nat} {I L : Nat → Nat → Int} {R : Nat → Nat → Option Nat} {Y : (Nat → Nat) × (Nat → Nat) × Nat} {K P V : Nat → Int} {te q a : Nat} {ld : Nat → Int} {nm : Int → Int} (hW : cs_W I L R Y K P V te q ld nm) (hf : I 11 11 = 0) (hA : cs_A I L K te a) (cs : List (Int × Int)) (h45 : ld 4 = 0 ∧ ld 5 = 0) {u : Nat} (hln : ln_S I R Y q u ld cs) (hua : u ≤ a) : yi_P zi_Ms d 253 [.inr (.inr (some 11))] (I, L, R, Y) (cs_QLC I L R Y K P V te (0, a, 0, [], ld, nm, cs) q a) := by
  refine yi_P_of (M := zi_m253) rfl (fun d k => ?_)
  obtain ⟨ly1, ly2, ly3, ly4⟩ := hW.2.2.1.2.2.2
  have lb := hW.2.2.2.2.1
  have hq0 := hW.2.2.1.1
  have hcc := cc_S_0 (tr := trP) (cs := cs) hln.1.1 hln.1.2
  have hle0 := hA.2.1
  have hte0 := hW.2.1.1
  show yi_D zi_Ms d zi_m253 k (0, [(0, .inr (.inr (some 11)))], [], (I, L, R, Y), 0, 0) _
  refine yi_D_run 2 (2, [(0, .inr (.inr (some 11)))], [.inl 4, .inr (.inr (some 11))], (I, L, R, Y), 0, 0) (fun _ => rfl) ?_
  refine yi_D_callv rfl (p_takeKind_z (by omega) hW hf hA) ?_
  rintro _ (⟨c1, I2, L3, rfl, hGa4, hf5, hA6⟩ | ⟨c7, I8, L9, rfl, hGa10, he11⟩)
  · have hA6 : cs_A I2 L3 K te (a + 1) := hA6
    have hW12 := cs_W_t hW (cs_G_F hGa4)
    have hF13 := (cs_G_F hGa4)
    have hG14 := hGa4
    have hcc15 := cc_G hcc hGa4
    show yi_D zi_Ms d zi_m253 k (5, [(0, .inr (.inr (some 11)))], [], (I2, L3, R, Y), 0, 0) _
    refine yi_D_run 3 (9, [(0, .inr (.inr (some 11)))], [.inl 6, .inl 1, .inr (.inr (some 11))], (I2, L3, R, Y), 0, 0) (fun _ => rfl) ?_
    refine yi_D_callv rfl (p_takeNumber_z (lo := 1) (hi := 6) hW12 hf5 hA6) ?_
    rintro _ (⟨c16, c17, I18, L19, rfl, hGa20, hf21, hA22⟩ | ⟨c23, z28, I24, L25, rfl, hGa26, he27⟩ | ⟨c29, z34, I30, L31, rfl, hGa32, he33⟩)
    · have hA22 : cs_A I18 L19 K te (a + 2) := hA22
      have hW35 := cs_W_t hW12 (cs_G_F hGa20)
      have hF36 := cs_F_t hF13 (cs_G_F hGa20)
      have hG37 := cs_G_t hG14 hGa20
      have hcc38 := cc_G hcc15 hGa20
      show yi_D zi_Ms d zi_m253 k (12, [(0, .inr (.inr (some 11)))], [.inl (V (a + 1))], (I18, L19, R, Y), 0, 0) _
      refine yi_D_run 3 (16, [(1, .inl (V (a + 1))), (0, .inr (.inr (some 11)))], [.inl 59, .inr (.inr (some 11))], (I18, L19, R, Y), 0, 0) (fun _ => rfl) ?_
      have hR39 : sp_R K P V (0, a, 0, [], ld, nm, cs) (.inl (1, a + 2, 0, [], sp_up ld 0 (V (a + 1)), nm, cs)) := sp_R_1 (by
        show sp_s0 K P V a ld nm cs = _
        unfold sp_s0
        repeat (first | rw [if_pos (by omega)] | rw [if_neg (by omega)]))
      refine yi_D_callv rfl (p_takeKind_z (by omega) hW35 hf21 hA22) ?_
      rintro _ (⟨c40, I41, L42, rfl, hGa43, hf44, hA45⟩ | ⟨c46, I47, L48, rfl, hGa49, he50⟩)
      · have hA45 : cs_A I41 L42 K te (a + 3) := hA45
        have hW51 := cs_W_t hW35 (cs_G_F hGa43)
        have hF52 := cs_F_t hF36 (cs_G_F hGa43)
        have hG53 := cs_G_t hG37 hGa43
        have hcc54 := cc_G hcc38 hGa43
        have hR55 : sp_R K P V (0, a, 0, [], ld, nm, cs) (.inl (2, (a + 2) + 1, 0, [], sp_up ld 0 (V (a + 1)), nm, cs)) := sp_R_s hR39 (by
          show (if K _ = 59 then _ else _) = _
          rw [if_pos (by omega)])
        show yi_D zi_Ms d zi_m253 k (19, [(1, .inl (V (a + 1))), (0, .inr (.inr (some 11)))], [], (I41, L42, R, Y), 0, 0) _
        refine yi_D_run 1 (20, [(1, .inl (V (a + 1))), (0, .inr (.inr (some 11)))], [.inr (.inr (some 11))], (I41, L42, R, Y), 0, 0) (fun _ => rfl) ?_
        refine yi_D_gi (v := 0) rfl rfl rfl hf44 (fun _ => ?_)
        refine yi_D_if1 false rfl (by decide) ?_
        refine yi_D_run 1 (27, [(1, .inl (V (a + 1))), (0, .inr (.inr (some 11)))], [.inr (.inr (some 11))], (I41, L42, R, Y), 0, 0) (fun _ => rfl) ?_
        refine yi_D_gr (v := some q) rfl rfl rfl hW.2.2.1.2.1 (fun _ => ?_)
        refine yi_D_run 1 (31, [(1, .inl (V (a + 1))), (0, .inr (.inr (some 11)))], [.inl (V (a + 1)), .inr (.inr (some q))], (I41, L42, R, Y), 0, 0) (fun _ => rfl) ?_
        refine yi_D_pi rfl (fun _ => ?_)
        generalize w57 : yi_u I41 q 14 (V (a + 1)) = I56
        refine yi_D_retv rfl ?_
        have hfin := cs_fin (I2 := I56) (L2 := L42) hF52 hW51 hf44 hA45 (fun p k _ h => ⟨by rw [← w57, yi_u_ne _ _ (by omega)], rfl⟩) (fun _ _ _ => rfl) ⟨Nat.le_refl _, fun _ _ => ⟨rfl, rfl⟩⟩ (cs_Ld_days (v := V (a + 1)) hW51.2.2 ⟨by omega, by omega⟩ (by rw [← w57, yi_u_eq]) (fun p k hp => by rw [← w57, yi_u_ne _ _ hp]))
        have hln2 : ln_S I56 R Y q u (sp_up ld 0 (V (a + 1))) cs := ln_A hln hF52 hcc54 (fun p k _ _ _ _ => (fun p k h => by rw [← w57, yi_u_ne _ _ h] : ∀ p k, ¬ (p = q ∧ k = 14) → I56 p k = I41 p k) p k (by omega)) hq0 (Or.inl h45) (fun j hj => by (repeat rw [sp_up_n _ _ (by omega)])) (by first | (rw [sp_up_e]; omega) | (((repeat rw [sp_up_n _ _ (by omega)])); exact Int.le_refl _)) (fun i hi => by (repeat rw [sp_up_n _ _ (by omega)]))
        exact ⟨_, _, _, _, _, _, rfl, hfin.1, Or.inl ⟨_, _, _, _, _, hR55, by omega, hfin.2.1, hfin.2.2.1, hfin.2.2.2, hln2, by omega⟩⟩
      · have hW58 := cs_W_t hW35 (cs_G_F hGa49)
        have hF59 := cs_F_t hF36 (cs_G_F hGa49)
        have hG60 := cs_G_t hG37 hGa49
        have hz61 : ¬ sp_f P (a + 2) 1 = 0 := sp_f_ne hW35 hA22.2.1 (by omega)
        have hn62 : ¬ I47 11 11 = 0 := by rw [he50]; exact hz61
        have hx63 : sp_R K P V (0, a, 0, [], ld, nm, cs) (.inr (sp_f P (a + 2) 1)) := sp_R_s hR39 (by
          show (if K _ = 59 then _ else _) = _
          rw [if_neg (by omega)])
        show yi_D zi_Ms d zi_m253 k (19, [(1, .inl (V (a + 1))), (0, .inr (.inr (some 11)))], [], (I47, L48, R, Y), 0, 0) _
        refine yi_D_run 1 (20, [(1, .inl (V (a + 1))), (0, .inr (.inr (some 11)))], [.inr (.inr (some 11))], (I47, L48, R, Y), 0, 0) (fun _ => rfl) ?_
        refine yi_D_gi (v := I47 11 11) rfl rfl rfl rfl (fun _ => ?_)
        have h64 : ¬ ((I47 11 11) = 0) := by omega
        refine yi_D_if1 true rfl (yi_ne_t h64) ?_
        refine yi_D_retv rfl ?_
        exact ⟨_, _, _, _, _, _, rfl, cs_H_F hF59, Or.inr ⟨_, hx63, hz61, he50⟩⟩
    · have hW65 := cs_W_t hW12 (cs_G_F hGa26)
      have hF66 := cs_F_t hF13 (cs_G_F hGa26)
      have hG67 := cs_G_t hG14 hGa26
      have hz68 : ¬ sp_f P (a + 1) 1 = 0 := sp_f_ne hW12 hA6.2.1 (by omega)
      have hn69 : ¬ I24 11 11 = 0 := by rw [he27]; exact hz68
      have hx70 : sp_R K P V (0, a, 0, [], ld, nm, cs) (.inr (sp_f P (a + 1) 1)) := sp_R_1 (by
        show sp_s0 K P V a ld nm cs = _
        first
        | (exfalso; omega)
        | (unfold sp_s0; repeat (first | rw [if_pos (by omega)] | rw [if_neg (by omega)])))
      show yi_D zi_Ms d zi_m253 k (12, [(0, .inr (.inr (some 11)))], [.inl z28], (I24, L25, R, Y), 0, 0) _
      refine yi_D_run 3 (16, [(1, .inl z28), (0, .inr (.inr (some 11)))], [.inl 59, .inr (.inr (some 11))], (I24, L25, R, Y), 0, 0) (fun _ => rfl) ?_
      
      refine yi_D_callv rfl (p_takeKind_f hW65 hn69) ?_
      rintro _ rfl
      show yi_D zi_Ms d zi_m253 k (19, [(1, .inl z28), (0, .inr (.inr (some 11)))], [], (I24, L25, R, Y), 0, 0) _
      refine yi_D_run 1 (20, [(1, .inl z28), (0, .inr (.inr (some 11)))], [.inr (.inr (some 11))], (I24, L25, R, Y), 0, 0) (fun _ => rfl) ?_
      refine yi_D_gi (v := I24 11 11) rfl rfl rfl rfl (fun _ => ?_)
      have h71 : ¬ ((I24 11 11) = 0) := by omega
      refine yi_D_if1 true rfl (yi_ne_t h71) ?_
      refine yi_D_retv rfl ?_
      exact ⟨_, _, _, _, _, _, rfl, cs_H_F hF66, Or.inr ⟨_, hx70, hz68, he27⟩⟩
    · have hW72 := cs_W_t hW12 (cs_G_F hGa32)
      have hF73 := cs_F_t hF13 (cs_G_F hGa32)
      have hG74 := cs_G_t hG14 hGa32
      have hz75 : ¬ sp_f P (a + 1) 4 = 0 := sp_f_ne hW12 hA6.2.1 (by omega)
      have hn76 : ¬ I30 11 11 = 0 := by rw [he33]; exact hz75
      have hx77 : sp_R K P V (0, a, 0, [], ld, nm, cs) (.inr (sp_f P (a + 1) 4)) := sp_R_1 (by
        show sp_s0 K P V a ld nm cs = _
        first
        | (exfalso; omega)
        | (unfold sp_s0; repeat (first | rw [if_pos (by omega)] | rw [if_neg (by omega)])))
      show yi_D zi_Ms d zi_m253 k (12, [(0, .inr (.inr (some 11)))], [.inl z34], (I30, L31, R, Y), 0, 0) _
      refine yi_D_run 3 (16, [(1, .inl z34), (0, .inr (.inr (some 11)))], [.inl 59, .inr (.inr (some 11))], (I30, L31, R, Y), 0, 0) (fun _ => rfl) ?_
      
      refine yi_D_callv rfl (p_takeKind_f hW72 hn76) ?_
      rintro _ rfl
      show yi_D zi_Ms d zi_m253 k (19, [(1, .inl z34), (0, .inr (.inr (some 11)))], [], (I30, L31, R, Y), 0, 0) _
      refine yi_D_run 1 (20, [(1, .inl z34), (0, .inr (.inr (some 11)))], [.inr (.inr (some 11))], (I30, L31, R, Y), 0, 0) (fun _ => rfl) ?_
      refine yi_D_gi (v := I30 11 11) rfl rfl rfl rfl (fun _ => ?_)
      have h78 : ¬ ((I30 11 11) = 0) := by omega
      refine yi_D_if1 true rfl (yi_ne_t h78) ?_
      refine yi_D_retv rfl ?_
      exact ⟨_, _, _, _, _, _, rfl, cs_H_F hF73, Or.inr ⟨_, hx77, hz75, he33⟩⟩
  · have hW79 := cs_W_t hW (cs_G_F hGa10)
    have hF80 := (cs_G_F hGa10)
    have hG81 := hGa10
    have hz82 : ¬ sp_f P a 1 = 0 := sp_f_ne hW hA.2.1 (by omega)
    have hn83 : ¬ I8 11 11 = 0 := by rw [he11]; exact hz82
    have hx84 : sp_R K P V (0, a, 0, [], ld, nm, cs) (.inr (sp_f P a 1)) := sp_R_1 (by
      show sp_s0 K P V a ld nm cs = _
      first
      | (exfalso; omega)
      | (unfold sp_s0; repeat (first | rw [if_pos (by omega)] | rw [if_neg (by omega)])))
    show yi_D zi_Ms d zi_m253 k (5, [(0, .inr (.inr (some 11)))], [], (I8, L9, R, Y), 0, 0) _
    refine yi_D_run 3 (9, [(0, .inr (.inr (some 11)))], [.inl 6, .inl 1, .inr (.inr (some 11))], (I8, L9, R, Y), 0, 0) (fun _ => rfl) ?_
    refine yi_D_callv rfl (p_takeNumber_f hW79 hn83) ?_
    rintro _ ⟨z85, rfl⟩
    show yi_D zi_Ms d zi_m253 k (12, [(0, .inr (.inr (some 11)))], [.inl z85], (I8, L9, R, Y), 0, 0) _
    refine yi_D_run 3 (16, [(1, .inl z85), (0, .inr (.inr (some 11)))], [.inl 59, .inr (.inr (some 11))], (I8, L9, R, Y), 0, 0) (fun _ => rfl) ?_
    
    refine yi_D_callv rfl (p_takeKind_f hW79 hn83) ?_
    rintro _ rfl
    show yi_D zi_Ms d zi_m253 k (19, [(1, .inl z85), (0, .inr (.inr (some 11)))], [], (I8, L9, R, Y), 0, 0) _
    refine yi_D_run 1 (20, [(1, .inl z85), (0, .inr (.inr (some 11)))], [.inr (.inr (some 11))], (I8, L9, R, Y), 0, 0) (fun _ => rfl) ?_
    refine yi_D_gi (v := I8 11 11) rfl rfl rfl rfl (fun _ => ?_)
    have h86 : ¬ ((I8 11 11) = 0) := by omega
    refine yi_D_if1 true rfl (yi_ne_t h86) ?_
    refine yi_D_retv rfl ?_
    exact ⟨_, _, _, _, _, _, rfl, cs_H_F hF80, Or.inr ⟨_, hx84, hz82, he11⟩⟩
theorem p_readLawC {d : Nat} {I L : Nat → Nat → Int} {R : Nat → Nat → Option Nat} {Y : (Nat → Nat) × (Nat → Nat) × Nat} {K P V : Nat → Int} {te q a : Nat} {ld : Nat → Int} {nm : Int → Int} (hW : cs_W I L R Y K P V te q ld nm) (hf : I 11 11 = 0) (hA : cs_A I L K te a) (cs : List (Int × Int)) (hk : K a = 10) {u : Nat} (hln : ln_S I R Y q u ld cs) (hua : u ≤ a) : yi_P zi_Ms d 259 [.inr (.inr (some 11))] (I, L, R, Y) (cs_QLC I L R Y K P V te (2, a, 0, [], ld, nm, cs) q a) := by
  refine yi_P_of (M := zi_m259) rfl (fun d k => ?_)
  obtain ⟨ly1, ly2, ly3, ly4⟩ := hW.2.2.1.2.2.2
  have lb := hW.2.2.2.2.1
  have hq0 := hW.2.2.1.1
  have hcc := cc_S_0 (tr := trP) (cs := cs) hln.1.1 hln.1.2
  have hle0 := hA.2.1
  have hte0 := hW.2.1.1
  show yi_D zi_Ms d zi_m259 k (0, [(0, .inr (.inr (some 11)))], [], (I, L, R, Y), 0, 0) _
  refine yi_D_run 1 (1, [(0, .inr (.inr (some 11)))], [.inr (.inr (some 11))], (I, L, R, Y), 0, 0) (fun _ => rfl) ?_
  refine yi_D_gr (v := some q) rfl rfl rfl hW.2.2.1.2.1 (fun _ => ?_)
  refine yi_D_gi (v := ld 4) rfl rfl (Nat.ble_eq_true_of_le (by omega)) hW.2.2.2.1.2.2.2.2.1 (fun _ => ?_)
  refine yi_D_run 1 (8, [(0, .inr (.inr (some 11)))], [.inl 4, .inl (ld 4)], (I, L, R, Y), 0, 0) (fun _ => rfl) ?_
  by_cases h1 : (ld 4) < 4
  · refine yi_D_if2 true rfl (yi_lt_t h1) ?_
    refine yi_D_run 2 (19, [(0, .inr (.inr (some 11)))], [.inl 10, .inr (.inr (some 11))], (I, L, R, Y), 0, 0) (fun _ => rfl) ?_
    refine yi_D_callv rfl (p_takeKind_z (by omega) hW hf hA) ?_
    rintro _ (⟨c2, I3, L4, rfl, hGa5, hf6, hA7⟩ | ⟨c8, I9, L10, rfl, hGa11, he12⟩)
    · have hA7 : cs_A I3 L4 K te (a + 1) := hA7
      have hW13 := cs_W_t hW (cs_G_F hGa5)
      have hF14 := (cs_G_F hGa5)
      have hG15 := hGa5
      have hcc16 := cc_G hcc hGa5
      show yi_D zi_Ms d zi_m259 k (22, [(0, .inr (.inr (some 11)))], [], (I3, L4, R, Y), 0, 0) _
      refine yi_D_run 1 (23, [(0, .inr (.inr (some 11)))], [.inr (.inr (some 11))], (I3, L4, R, Y), 0, 0) (fun _ => rfl) ?_
      have r17 : I3 11 3 = (u : Int) := by rw [hGa5.1 11 3 (by omega), hln.1.1]
      refine yi_D_gi (v := (u : Int)) rfl rfl rfl r17 (fun _ => ?_)
      refine yi_D_run 3 (29, [(1, .inl (u : Int)), (0, .inr (.inr (some 11)))], [.inl 0, .inr (.inr (some 11))], (I3, L4, R, Y), 0, 0) (fun _ => rfl) ?_
      have hst18 : sp_R K P V (2, a, 0, [], ld, nm, cs) (.inl (3, a + 1, 0, [10, 20], sp_up ld (21 + (ld 4).toNat) cs.length, nm, cs)) := sp_R_1 (by
        show sp_line K P V a ld nm cs = _
        unfold sp_line
        repeat (first | rw [if_pos (by omega)] | rw [if_neg (by omega)]))
      have hW19 := cs_W_ld (ld' := sp_up ld (21 + (ld 4).toNat) cs.length) hW13 (fun j hj => by repeat rw [sp_up_n _ _ (by omega)])
      have hcc20 := cc_tr (tr2 := trF (ld 0).toNat 0) hcc16
      refine yi_D_callv rfl (p_readFormulaC 0 [20] cs hW19 hf6 hA7 (by omega) (by (repeat rw [sp_up_n _ _ (by omega)]); omega) hcc20 (by omega)) ?_
      rintro _ ⟨I21, L22, rfl, hFr23, (⟨a24, cs25, hR26, lt27, hf28, hA29, hcc30, ll31⟩ | ⟨f32, hR33, hz34, he35⟩)⟩
      · have hW36 := cs_W_t hW19 hFr23
        have hF37 := cs_F_t hF14 hFr23
        have hF38 : ∀ p k, (p ≠ 11 ∧ p ≠ 19) → I21 p k = I3 p k := fun p k h => hFr23.1 p k h.1 h.2
        have hlehA29 := hA29.2.1
        have hclhcc30 := cc_le hcc30
        have hR39 : sp_R K P V (2, a, 0, [], ld, nm, cs) (.inl (1, a24, 0, [], sp_up (sp_up ld (21 + (ld 4).toNat) cs.length) 4 ((sp_up ld (21 + (ld 4).toNat) cs.length) 4 + 1), nm, cs25 ++ [(0, 0)])) := sp_R_s (sp_R_t hst18 hR26) rfl
        show yi_D zi_Ms d zi_m259 k (32, [(1, .inl (u : Int)), (0, .inr (.inr (some 11)))], [], (I21, L22, R, Y), 0, 0) _
        refine yi_D_run 2 (35, [(1, .inl (u : Int)), (0, .inr (.inr (some 11)))], [.inl 59, .inr (.inr (some 11))], (I21, L22, R, Y), 0, 0) (fun _ => rfl) ?_
        refine yi_D_callv rfl (p_takeKind_z (by omega) hW36 hf28 hA29) ?_
        rintro _ (⟨c40, I41, L42, rfl, hGa43, hf44, hA45⟩ | ⟨c46, I47, L48, rfl, hGa49, he50⟩)
        · have hA45 : cs_A I41 L42 K te (a24 + 1) := hA45
          have hW51 := cs_W_t hW36 (cs_G_F hGa43)
          have hF52 := cs_F_t hF37 (cs_G_F hGa43)
          have hcc53 := cc_G hcc30 hGa43
          have hR54 : sp_R K P V (2, a, 0, [], ld, nm, cs) (.inl (2, a24 + 1, 0, [], sp_up (sp_up ld (21 + (ld 4).toNat) cs.length) 4 ((sp_up ld (21 + (ld 4).toNat) cs.length) 4 + 1), nm, cs25 ++ [(0, 0)])) := sp_R_s hR39 (by
            show (if K _ = 59 then _ else _) = _
            rw [if_pos (by omega)])
          show yi_D zi_Ms d zi_m259 k (38, [(1, .inl (u : Int)), (0, .inr (.inr (some 11)))], [], (I41, L42, R, Y), 0, 0) _
          refine yi_D_run 1 (39, [(1, .inl (u : Int)), (0, .inr (.inr (some 11)))], [.inr (.inr (some 11))], (I41, L42, R, Y), 0, 0) (fun _ => rfl) ?_
          refine yi_D_gi (v := 0) rfl rfl rfl hf44 (fun _ => ?_)
          refine yi_D_if1 false rfl (by decide) ?_
          refine yi_D_run 1 (46, [(1, .inl (u : Int)), (0, .inr (.inr (some 11)))], [.inr (.inr (some 11))], (I41, L42, R, Y), 0, 0) (fun _ => rfl) ?_
          refine yi_D_gr (v := some q) rfl rfl rfl hW.2.2.1.2.1 (fun _ => ?_)
          refine yi_D_run 2 (51, [(1, .inl (u : Int)), (0, .inr (.inr (some 11)))], [.inr (.inr (some 11)), .inl (u : Int), .inr (.inr (some q))], (I41, L42, R, Y), 0, 0) (fun _ => rfl) ?_
          have r55 : I41 11 3 = I21 11 3 := by rw [hGa43.1 11 3 (by omega)]
          refine yi_D_gi (v := I21 11 3) rfl rfl rfl r55 (fun _ => ?_)
          have h61 : (sp_up ld (21 + (ld 4).toNat) cs.length) 4 < 4 := by
            (repeat rw [sp_up_n _ _ (by omega)])
            omega
          refine yi_D_callv rfl (p_addLawE (n := (ld 4).toNat) hq0 (hW51.2.2.1.2.2.1 8 (by omega)) (hW51.2.2.1.2.2.1 9 (by omega)) (hW51.2.2.2.1.2.2.2.2.1.trans (by (repeat rw [sp_up_n _ _ (by omega)]); omega)) (by omega)) ?_
          rintro _ ⟨I56, rfl, e57, e58, e59, f60⟩
          have ho62 : (∀ p k, (p = q → ¬ k = 18) ∧ (p ≤ q + 6 ∨ q + 14 ≤ p) → I56 p k = I41 p k) := fun p k h => f60 p k (by omega)
          show yi_D zi_Ms d zi_m259 k (57, [(1, .inl (u : Int)), (0, .inr (.inr (some 11)))], [], (I56, L42, R, Y), 0, 0) _
          refine yi_D_retv rfl ?_
          have hfin := cs_fin hF52 hW51 hf44 hA45 (fun p k _ h => ⟨ho62 p k (by omega), rfl⟩) (fun _ _ _ => rfl) ⟨Nat.le_refl _, fun _ _ => ⟨rfl, rfl⟩⟩ (cs_Ld_law hW51.2.2 h61 (e59.trans (by (repeat rw [sp_up_n _ _ (by omega)]); omega)) ho62)
          have hln2 := ln_law hln hF52 hcc53 (n := (ld 4).toNat) (by omega) (by omega) (by omega) hq0 e57 (e58.trans hcc30.2.1) f60
          exact ⟨_, _, _, _, _, _, rfl, hfin.1, Or.inl ⟨_, _, _, _, _, hR54, by omega, hfin.2.1, hfin.2.2.1, hfin.2.2.2, hln2, by omega⟩⟩
        · have hW63 := cs_W_t hW36 (cs_G_F hGa49)
          have hF64 := cs_F_t hF37 (cs_G_F hGa49)
          have hz65 : ¬ sp_f P a24 1 = 0 := sp_f_ne hW36 hA29.2.1 (by omega)
          have hn66 : ¬ I47 11 11 = 0 := by rw [he50]; exact hz65
          have hx67 : sp_R K P V (2, a, 0, [], ld, nm, cs) (.inr (sp_f P a24 1)) := sp_R_s hR39 (by
            show (if K _ = 59 then _ else _) = _
            rw [if_neg (by omega)])
          show yi_D zi_Ms d zi_m259 k (38, [(1, .inl (u : Int)), (0, .inr (.inr (some 11)))], [], (I47, L48, R, Y), 0, 0) _
          refine yi_D_run 1 (39, [(1, .inl (u : Int)), (0, .inr (.inr (some 11)))], [.inr (.inr (some 11))], (I47, L48, R, Y), 0, 0) (fun _ => rfl) ?_
          refine yi_D_gi (v := I47 11 11) rfl rfl rfl rfl (fun _ => ?_)
          have h68 : ¬ ((I47 11 11) = 0) := by omega
          refine yi_D_if1 true rfl (yi_ne_t h68) ?_
          refine yi_D_retv rfl ?_
          exact ⟨_, _, _, _, _, _, rfl, cs_H_F hF64, Or.inr ⟨_, hx67, hz65, he50⟩⟩
      · have hW69 := cs_W_t hW19 hFr23
        have hF70 := cs_F_t hF14 hFr23
        have hF71 : ∀ p k, (p ≠ 11 ∧ p ≠ 19) → I21 p k = I3 p k := fun p k h => hFr23.1 p k h.1 h.2
        have hn72 : ¬ I21 11 11 = 0 := by rw [he35]; exact hz34
        have hx73 : sp_R K P V (2, a, 0, [], ld, nm, cs) (.inr f32) := sp_R_t hst18 hR33
        show yi_D zi_Ms d zi_m259 k (32, [(1, .inl (u : Int)), (0, .inr (.inr (some 11)))], [], (I21, L22, R, Y), 0, 0) _
        refine yi_D_run 2 (35, [(1, .inl (u : Int)), (0, .inr (.inr (some 11)))], [.inl 59, .inr (.inr (some 11))], (I21, L22, R, Y), 0, 0) (fun _ => rfl) ?_
        refine yi_D_callv rfl (p_takeKind_f hW69 hn72) ?_
        rintro _ rfl
        show yi_D zi_Ms d zi_m259 k (38, [(1, .inl (u : Int)), (0, .inr (.inr (some 11)))], [], (I21, L22, R, Y), 0, 0) _
        refine yi_D_run 1 (39, [(1, .inl (u : Int)), (0, .inr (.inr (some 11)))], [.inr (.inr (some 11))], (I21, L22, R, Y), 0, 0) (fun _ => rfl) ?_
        refine yi_D_gi (v := I21 11 11) rfl rfl rfl rfl (fun _ => ?_)
        have h74 : ¬ ((I21 11 11) = 0) := by omega
        refine yi_D_if1 true rfl (yi_ne_t h74) ?_
        refine yi_D_retv rfl ?_
        exact ⟨_, _, _, _, _, _, rfl, cs_H_F hF70, Or.inr ⟨_, hx73, hz34, he35⟩⟩
    · exfalso; omega
  · refine yi_D_if2 false rfl (yi_lt_f h1) ?_
    refine yi_D_run 2 (13, [(0, .inr (.inr (some 11)))], [.inl 5, .inr (.inr (some 11))], (I, L, R, Y), 0, 0) (fun _ => rfl) ?_
    refine yi_D_callv rfl (p_wrong_z ⟨by omega, by omega⟩ hW hf hA) ?_
    rintro _ ⟨I75, rfl, hg76, he77⟩
    have hGw78 : cs_G I L I75 L := ⟨fun p k hp => hg76 p k (by omega), fun _ _ _ => rfl⟩
    have hW79 := cs_W_t hW (cs_G_F hGw78)
    have hF80 := (cs_G_F hGw78)
    have hG81 := hGw78
    have hz82 : ¬ sp_f P a 5 = 0 := sp_f_ne hW hA.2.1 (by omega)
    have hn83 : ¬ I75 11 11 = 0 := by rw [he77]; exact hz82
    have hx84 : sp_R K P V (2, a, 0, [], ld, nm, cs) (.inr (sp_f P a 5)) := sp_R_1 (by
      show sp_line K P V a ld nm cs = _
      first
      | (exfalso; omega)
      | (unfold sp_line; repeat (first | rw [if_pos (by omega)] | rw [if_neg (by omega)])))
    show yi_D zi_Ms d zi_m259 k (16, [(0, .inr (.inr (some 11)))], [], (I75, L, R, Y), 0, 0) _
    refine yi_D_run 2 (19, [(0, .inr (.inr (some 11)))], [.inl 10, .inr (.inr (some 11))], (I75, L, R, Y), 0, 0) (fun _ => rfl) ?_
    refine yi_D_callv rfl (p_takeKind_f hW79 hn83) ?_
    rintro _ rfl
    show yi_D zi_Ms d zi_m259 k (22, [(0, .inr (.inr (some 11)))], [], (I75, L, R, Y), 0, 0) _
    refine yi_D_run 1 (23, [(0, .inr (.inr (some 11)))], [.inr (.inr (some 11))], (I75, L, R, Y), 0, 0) (fun _ => rfl) ?_
    have r85 : I75 11 3 = (u : Int) := by rw [hGw78.1 11 3 (by omega), hln.1.1]
    refine yi_D_gi (v := (u : Int)) rfl rfl rfl r85 (fun _ => ?_)
    refine yi_D_run 3 (29, [(1, .inl (u : Int)), (0, .inr (.inr (some 11)))], [.inl 0, .inr (.inr (some 11))], (I75, L, R, Y), 0, 0) (fun _ => rfl) ?_
    refine yi_D_callv rfl (p_readFormula_f hW79 hn83) ?_
    rintro _ rfl
    show yi_D zi_Ms d zi_m259 k (32, [(1, .inl (u : Int)), (0, .inr (.inr (some 11)))], [], (I75, L, R, Y), 0, 0) _
    refine yi_D_run 2 (35, [(1, .inl (u : Int)), (0, .inr (.inr (some 11)))], [.inl 59, .inr (.inr (some 11))], (I75, L, R, Y), 0, 0) (fun _ => rfl) ?_
    refine yi_D_callv rfl (p_takeKind_f hW79 hn83) ?_
    rintro _ rfl
    show yi_D zi_Ms d zi_m259 k (38, [(1, .inl (u : Int)), (0, .inr (.inr (some 11)))], [], (I75, L, R, Y), 0, 0) _
    refine yi_D_run 1 (39, [(1, .inl (u : Int)), (0, .inr (.inr (some 11)))], [.inr (.inr (some 11))], (I75, L, R, Y), 0, 0) (fun _ => rfl) ?_
    refine yi_D_gi (v := I75 11 11) rfl rfl rfl rfl (fun _ => ?_)
    have h86 : ¬ ((I75 11 11) = 0) := by omega
    refine yi_D_if1 true rfl (yi_ne_t h86) ?_
    refine yi_D_retv rfl ?_
    exact ⟨_, _, _, _, _, _, rfl, cs_H_F hF80, Or.inr ⟨_, hx84, hz82, he77⟩⟩
theorem p_readPriceC {d : Nat} {I L : Nat → Nat → Int} {R : Nat → Nat → Option Nat} {Y : (Nat → Nat) × (Nat → Nat) × Nat} {K P V : Nat → Int} {te q a : Nat} {ld : Nat → Int} {nm : Int → Int} (hW : cs_W I L R Y K P V te q ld nm) (hf : I 11 11 = 0) (hA : cs_A I L K te a) (cs : List (Int × Int)) (hk : K a = 13) {u : Nat} (hln : ln_S I R Y q u ld cs) (hua : u ≤ a) : yi_P zi_Ms d 263 [.inr (.inr (some 11))] (I, L, R, Y) (cs_QLC I L R Y K P V te (2, a, 0, [], ld, nm, cs) q a) := by
  refine yi_P_of (M := zi_m263) rfl (fun d k => ?_)
  obtain ⟨ly1, ly2, ly3, ly4⟩ := hW.2.2.1.2.2.2
  have lb := hW.2.2.2.2.1
  have hq0 := hW.2.2.1.1
  have hcc := cc_S_0 (tr := trP) (cs := cs) hln.1.1 hln.1.2
  have hle0 := hA.2.1
  have hte0 := hW.2.1.1
  have hpr := hW.2.2.2.2.2.1
  show yi_D zi_Ms d zi_m263 k (0, [(0, .inr (.inr (some 11)))], [], (I, L, R, Y), 0, 0) _
  refine yi_D_run 1 (1, [(0, .inr (.inr (some 11)))], [.inr (.inr (some 11))], (I, L, R, Y), 0, 0) (fun _ => rfl) ?_
  refine yi_D_gr (v := some q) rfl rfl rfl hW.2.2.1.2.1 (fun _ => ?_)
  refine yi_D_gi (v := I q 13) rfl rfl (Nat.ble_eq_true_of_le (by omega)) rfl (fun _ => ?_)
  by_cases h1 : (I q 13) = 0
  · refine yi_D_if1 true rfl (yi_eq_t h1) ?_
    refine yi_D_run 2 (18, [(0, .inr (.inr (some 11)))], [.inl 13, .inr (.inr (some 11))], (I, L, R, Y), 0, 0) (fun _ => rfl) ?_
    refine yi_D_callv rfl (p_takeKind_z (by omega) hW hf hA) ?_
    rintro _ (⟨c2, I3, L4, rfl, hGa5, hf6, hA7⟩ | ⟨c8, I9, L10, rfl, hGa11, he12⟩)
    · have hA7 : cs_A I3 L4 K te (a + 1) := hA7
      have hW13 := cs_W_t hW (cs_G_F hGa5)
      have hF14 := (cs_G_F hGa5)
      have hG15 := hGa5
      have hcc16 := cc_G hcc hGa5
      show yi_D zi_Ms d zi_m263 k (21, [(0, .inr (.inr (some 11)))], [], (I3, L4, R, Y), 0, 0) _
      refine yi_D_run 1 (22, [(0, .inr (.inr (some 11)))], [.inr (.inr (some 11))], (I3, L4, R, Y), 0, 0) (fun _ => rfl) ?_
      have r17 : I3 11 3 = (u : Int) := by rw [hGa5.1 11 3 (by omega), hln.1.1]
      refine yi_D_gi (v := (u : Int)) rfl rfl rfl r17 (fun _ => ?_)
      refine yi_D_run 4 (29, [(1, .inl (u : Int)), (0, .inr (.inr (some 11)))], [.inl 0, .inl 0, .inr (.inr (some 11))], (I3, L4, R, Y), 0, 0) (fun _ => rfl) ?_
      have hst18 : sp_R K P V (2, a, 0, [], ld, nm, cs) (.inl (8, a + 1, 0, [7, cs.length], ld, nm, cs)) := sp_R_1 (by
        show sp_line K P V a ld nm cs = _
        unfold sp_line
        repeat (first | rw [if_pos (by omega)] | rw [if_neg (by omega)]))
      have hcc19 := cc_tr (tr2 := trP) hcc16
      refine yi_D_callv rfl (p_readExpressionC 0 [7, cs.length] cs hW13 hf6 hA7 (by omega) hcc19 (by omega)) ?_
      rintro _ ⟨I20, L21, rfl, hFr22, (⟨a23, cs24, hR25, lt26, hf27, hA28, hcc29, ll30⟩ | ⟨f31, hR32, hz33, he34⟩)⟩
      · have hW35 := cs_W_t hW13 hFr22
        have hF36 := cs_F_t hF14 hFr22
        have hF37 : ∀ p k, (p ≠ 11 ∧ p ≠ 19) → I20 p k = I3 p k := fun p k h => hFr22.1 p k h.1 h.2
        have hlehA28 := hA28.2.1
        have hclhcc29 := cc_le hcc29
        have hR38 : sp_R K P V (2, a, 0, [], ld, nm, cs) (.inl (1, a23, 0, [], sp_up ld 6 (cs.length : Nat), nm, cs24 ++ [(0, 0)])) := sp_R_s (sp_R_t hst18 hR25) rfl
        show yi_D zi_Ms d zi_m263 k (32, [(1, .inl (u : Int)), (0, .inr (.inr (some 11)))], [], (I20, L21, R, Y), 0, 0) _
        refine yi_D_run 2 (35, [(1, .inl (u : Int)), (0, .inr (.inr (some 11)))], [.inl 59, .inr (.inr (some 11))], (I20, L21, R, Y), 0, 0) (fun _ => rfl) ?_
        refine yi_D_callv rfl (p_takeKind_z (by omega) hW35 hf27 hA28) ?_
        rintro _ (⟨c39, I40, L41, rfl, hGa42, hf43, hA44⟩ | ⟨c45, I46, L47, rfl, hGa48, he49⟩)
        · have hA44 : cs_A I40 L41 K te (a23 + 1) := hA44
          have hW50 := cs_W_t hW35 (cs_G_F hGa42)
          have hF51 := cs_F_t hF36 (cs_G_F hGa42)
          have hcc52 := cc_G hcc29 hGa42
          have hR53 : sp_R K P V (2, a, 0, [], ld, nm, cs) (.inl (2, a23 + 1, 0, [], sp_up ld 6 (cs.length : Nat), nm, cs24 ++ [(0, 0)])) := sp_R_s hR38 (by
            show (if K _ = 59 then _ else _) = _
            rw [if_pos (by omega)])
          show yi_D zi_Ms d zi_m263 k (38, [(1, .inl (u : Int)), (0, .inr (.inr (some 11)))], [], (I40, L41, R, Y), 0, 0) _
          refine yi_D_run 1 (39, [(1, .inl (u : Int)), (0, .inr (.inr (some 11)))], [.inr (.inr (some 11))], (I40, L41, R, Y), 0, 0) (fun _ => rfl) ?_
          refine yi_D_gi (v := 0) rfl rfl rfl hf43 (fun _ => ?_)
          refine yi_D_if1 false rfl (by decide) ?_
          refine yi_D_run 1 (46, [(1, .inl (u : Int)), (0, .inr (.inr (some 11)))], [.inr (.inr (some 11))], (I40, L41, R, Y), 0, 0) (fun _ => rfl) ?_
          refine yi_D_gr (v := some q) rfl rfl rfl hW.2.2.1.2.1 (fun _ => ?_)
          refine yi_D_run 1 (50, [(1, .inl (u : Int)), (0, .inr (.inr (some 11)))], [.inr (.inr (some 11)), .inr (.inr (some q))], (I40, L41, R, Y), 0, 0) (fun _ => rfl) ?_
          refine yi_D_gr (v := some 19) rfl rfl rfl hW.1.1.2.2 (fun _ => ?_)
          refine yi_D_run 2 (55, [(1, .inl (u : Int)), (0, .inr (.inr (some 11)))], [.inr (.inr (some 11)), .inl (u : Int), .inr (.inr (some 19)), .inr (.inr (some q))], (I40, L41, R, Y), 0, 0) (fun _ => rfl) ?_
          have r54 : I40 11 3 = I20 11 3 := by rw [hGa42.1 11 3 (by omega)]
          refine yi_D_gi (v := I20 11 3) rfl rfl rfl r54 (fun _ => ?_)
          refine yi_D_callv rfl (p_setPriceI (fr := u) (m := cs24.length - cs.length) ⟨hq0, by omega⟩ (by omega) (hW50.1.2.2.2.2.2.2.2.2) (by omega) rfl hcc29.2.1) ?_
          rintro _ ⟨I55, L56, R57, Y58, n59, m60, pp61, rfl, f62, f63, f64, f65, f66, f67, f68, f69, f70⟩
          show yi_D zi_Ms d zi_m263 k (61, [(1, .inl (u : Int)), (0, .inr (.inr (some 11)))], [], (I55, L56, R57, Y58), (0 + n59), (0 + m60)) _
          refine yi_D_retv rfl ?_
          have hfin := cs_fin hF51 hW50 hf43 hA44 (fun p k hp h => ⟨f65 p k hp (by omega), f66 p k hp⟩) (fun p k hp => f68 p k hp.1 hp.2) ⟨f69, fun p hp => ⟨(f70 p hp).2, (f70 p hp).1⟩⟩ (cs_Ld_price (n := cs.length) hW50.2.2 f67 (fun p k hp => f65 p k hp.1 hp.2) f66 (fun p k hp => f68 p k hp.1 hp.2) ⟨f69, fun p hp => ⟨(f70 p hp).2, (f70 p hp).1⟩⟩)
          have hln2 := ln_price hln hF51 hcc52 hq0 f62 f63 f64 f65 ⟨f69, fun p hp => ⟨(f70 p hp).2, (f70 p hp).1⟩⟩
          exact ⟨_, _, _, _, _, _, rfl, hfin.1, Or.inl ⟨_, _, _, _, _, hR53, by omega, hfin.2.1, hfin.2.2.1, hfin.2.2.2, hln2, by omega⟩⟩
        · have hW71 := cs_W_t hW35 (cs_G_F hGa48)
          have hF72 := cs_F_t hF36 (cs_G_F hGa48)
          have hz73 : ¬ sp_f P a23 1 = 0 := sp_f_ne hW35 hA28.2.1 (by omega)
          have hn74 : ¬ I46 11 11 = 0 := by rw [he49]; exact hz73
          have hx75 : sp_R K P V (2, a, 0, [], ld, nm, cs) (.inr (sp_f P a23 1)) := sp_R_s hR38 (by
            show (if K _ = 59 then _ else _) = _
            rw [if_neg (by omega)])
          show yi_D zi_Ms d zi_m263 k (38, [(1, .inl (u : Int)), (0, .inr (.inr (some 11)))], [], (I46, L47, R, Y), 0, 0) _
          refine yi_D_run 1 (39, [(1, .inl (u : Int)), (0, .inr (.inr (some 11)))], [.inr (.inr (some 11))], (I46, L47, R, Y), 0, 0) (fun _ => rfl) ?_
          refine yi_D_gi (v := I46 11 11) rfl rfl rfl rfl (fun _ => ?_)
          have h76 : ¬ ((I46 11 11) = 0) := by omega
          refine yi_D_if1 true rfl (yi_ne_t h76) ?_
          refine yi_D_retv rfl ?_
          exact ⟨_, _, _, _, _, _, rfl, cs_H_F hF72, Or.inr ⟨_, hx75, hz73, he49⟩⟩
      · have hW77 := cs_W_t hW13 hFr22
        have hF78 := cs_F_t hF14 hFr22
        have hF79 : ∀ p k, (p ≠ 11 ∧ p ≠ 19) → I20 p k = I3 p k := fun p k h => hFr22.1 p k h.1 h.2
        have hn80 : ¬ I20 11 11 = 0 := by rw [he34]; exact hz33
        have hx81 : sp_R K P V (2, a, 0, [], ld, nm, cs) (.inr f31) := sp_R_t hst18 hR32
        show yi_D zi_Ms d zi_m263 k (32, [(1, .inl (u : Int)), (0, .inr (.inr (some 11)))], [], (I20, L21, R, Y), 0, 0) _
        refine yi_D_run 2 (35, [(1, .inl (u : Int)), (0, .inr (.inr (some 11)))], [.inl 59, .inr (.inr (some 11))], (I20, L21, R, Y), 0, 0) (fun _ => rfl) ?_
        refine yi_D_callv rfl (p_takeKind_f hW77 hn80) ?_
        rintro _ rfl
        show yi_D zi_Ms d zi_m263 k (38, [(1, .inl (u : Int)), (0, .inr (.inr (some 11)))], [], (I20, L21, R, Y), 0, 0) _
        refine yi_D_run 1 (39, [(1, .inl (u : Int)), (0, .inr (.inr (some 11)))], [.inr (.inr (some 11))], (I20, L21, R, Y), 0, 0) (fun _ => rfl) ?_
        refine yi_D_gi (v := I20 11 11) rfl rfl rfl rfl (fun _ => ?_)
        have h82 : ¬ ((I20 11 11) = 0) := by omega
        refine yi_D_if1 true rfl (yi_ne_t h82) ?_
        refine yi_D_retv rfl ?_
        exact ⟨_, _, _, _, _, _, rfl, cs_H_F hF78, Or.inr ⟨_, hx81, hz33, he34⟩⟩
    · exfalso; omega
  · refine yi_D_if1 false rfl (yi_eq_f h1) ?_
    refine yi_D_run 2 (12, [(0, .inr (.inr (some 11)))], [.inl 3, .inr (.inr (some 11))], (I, L, R, Y), 0, 0) (fun _ => rfl) ?_
    refine yi_D_callv rfl (p_wrong_z ⟨by omega, by omega⟩ hW hf hA) ?_
    rintro _ ⟨I83, rfl, hg84, he85⟩
    have hGw86 : cs_G I L I83 L := ⟨fun p k hp => hg84 p k (by omega), fun _ _ _ => rfl⟩
    have hW87 := cs_W_t hW (cs_G_F hGw86)
    have hF88 := (cs_G_F hGw86)
    have hG89 := hGw86
    have hz90 : ¬ sp_f P a 3 = 0 := sp_f_ne hW hA.2.1 (by omega)
    have hn91 : ¬ I83 11 11 = 0 := by rw [he85]; exact hz90
    have hx92 : sp_R K P V (2, a, 0, [], ld, nm, cs) (.inr (sp_f P a 3)) := sp_R_1 (by
      show sp_line K P V a ld nm cs = _
      first
      | (exfalso; omega)
      | (unfold sp_line; repeat (first | rw [if_pos (by omega)] | rw [if_neg (by omega)])))
    show yi_D zi_Ms d zi_m263 k (15, [(0, .inr (.inr (some 11)))], [], (I83, L, R, Y), 0, 0) _
    refine yi_D_run 2 (18, [(0, .inr (.inr (some 11)))], [.inl 13, .inr (.inr (some 11))], (I83, L, R, Y), 0, 0) (fun _ => rfl) ?_
    refine yi_D_callv rfl (p_takeKind_f hW87 hn91) ?_
    rintro _ rfl
    show yi_D zi_Ms d zi_m263 k (21, [(0, .inr (.inr (some 11)))], [], (I83, L, R, Y), 0, 0) _
    refine yi_D_run 1 (22, [(0, .inr (.inr (some 11)))], [.inr (.inr (some 11))], (I83, L, R, Y), 0, 0) (fun _ => rfl) ?_
    have r93 : I83 11 3 = (u : Int) := by rw [hGw86.1 11 3 (by omega), hln.1.1]
    refine yi_D_gi (v := (u : Int)) rfl rfl rfl r93 (fun _ => ?_)
    refine yi_D_run 4 (29, [(1, .inl (u : Int)), (0, .inr (.inr (some 11)))], [.inl 0, .inl 0, .inr (.inr (some 11))], (I83, L, R, Y), 0, 0) (fun _ => rfl) ?_
    refine yi_D_callv rfl ((p_readExpression_f _) hW87 hn91) ?_
    rintro _ rfl
    show yi_D zi_Ms d zi_m263 k (32, [(1, .inl (u : Int)), (0, .inr (.inr (some 11)))], [], (I83, L, R, Y), 0, 0) _
    refine yi_D_run 2 (35, [(1, .inl (u : Int)), (0, .inr (.inr (some 11)))], [.inl 59, .inr (.inr (some 11))], (I83, L, R, Y), 0, 0) (fun _ => rfl) ?_
    refine yi_D_callv rfl (p_takeKind_f hW87 hn91) ?_
    rintro _ rfl
    show yi_D zi_Ms d zi_m263 k (38, [(1, .inl (u : Int)), (0, .inr (.inr (some 11)))], [], (I83, L, R, Y), 0, 0) _
    refine yi_D_run 1 (39, [(1, .inl (u : Int)), (0, .inr (.inr (some 11)))], [.inr (.inr (some 11))], (I83, L, R, Y), 0, 0) (fun _ => rfl) ?_
    refine yi_D_gi (v := I83 11 11) rfl rfl rfl rfl (fun _ => ?_)
    have h94 : ¬ ((I83 11 11) = 0) := by omega
    refine yi_D_if1 true rfl (yi_ne_t h94) ?_
    refine yi_D_retv rfl ?_
    exact ⟨_, _, _, _, _, _, rfl, cs_H_F hF88, Or.inr ⟨_, hx92, hz90, he85⟩⟩
theorem p_readWishC {d : Nat} {I L : Nat → Nat → Int} {R : Nat → Nat → Option Nat} {Y : (Nat → Nat) × (Nat → Nat) × Nat} {K P V : Nat → Int} {te q a : Nat} {ld : Nat → Int} {nm : Int → Int} (hW : cs_W I L R Y K P V te q ld nm) (hf : I 11 11 = 0) (hA : cs_A I L K te a) (cs : List (Int × Int)) (hk : K a = 11) {u : Nat} (hln : ln_S I R Y q u ld cs) (hua : u ≤ a) : yi_P zi_Ms d 267 [.inr (.inr (some 11))] (I, L, R, Y) (cs_QLC I L R Y K P V te (2, a, 0, [], ld, nm, cs) q a) := by
  refine yi_P_of (M := zi_m267) rfl (fun d k => ?_)
  obtain ⟨ly1, ly2, ly3, ly4⟩ := hW.2.2.1.2.2.2
  have lb := hW.2.2.2.2.1
  have hq0 := hW.2.2.1.1
  have hcc := cc_S_0 (tr := trP) (cs := cs) hln.1.1 hln.1.2
  have hle0 := hA.2.1
  have hte0 := hW.2.1.1
  have jn138f : ∀ (y4 : Int) (y3 : Int) (y2 : Int) (y1 : Int) (J G : Nat → Nat → Int) (f : Int), cs_F I L J G → J 11 11 = f → ¬ f = 0 → sp_R K P V (2, a, 0, [], ld, nm, cs) (.inr f) → yi_D zi_Ms d zi_m267 k (138, [(4, .inl y4), (3, .inl y3), (2, .inl y2), (1, .inl y1), (0, .inr (.inr (some 11)))], [], (J, G, R, Y), 0, 0) (cs_QLC I L R Y K P V te (2, a, 0, [], ld, nm, cs) q a) := by
    intro y4 y3 y2 y1 J G f jF je jn jsp 
    have jW := cs_W_t hW jF
    have jf : ¬ J 11 11 = 0 := by rw [je]; exact jn
    have jF1 : ∀ p k, (p ≠ 11 ∧ p ≠ 19) → J p k = I p k := fun p k h => jF.1 p k h.1 h.2
    have jF2 := jF.2
    refine yi_D_run 1 (139, [(4, .inl y4), (3, .inl y3), (2, .inl y2), (1, .inl y1), (0, .inr (.inr (some 11)))], [.inr (.inr (some 11))], (J, G, R, Y), 0, 0) (fun _ => rfl) ?_
    refine yi_D_gi (v := J 11 11) rfl rfl rfl rfl (fun _ => ?_)
    have h1 : ¬ ((J 11 11) = 0) := by omega
    refine yi_D_if1 true rfl (yi_ne_t h1) ?_
    refine yi_D_retv rfl ?_
    exact ⟨_, _, _, _, _, _, rfl, cs_H_F jF, Or.inr ⟨_, jsp, jn, je⟩⟩
  have jn106f : ∀ (y4 : Int) (y3 : Int) (y2 : Int) (y1 : Int) (J G : Nat → Nat → Int) (f : Int), cs_F I L J G → J 11 11 = f → ¬ f = 0 → sp_R K P V (2, a, 0, [], ld, nm, cs) (.inr f) → yi_D zi_Ms d zi_m267 k (106, [(4, .inl y4), (3, .inl y3), (2, .inl y2), (1, .inl y1), (0, .inr (.inr (some 11)))], [], (J, G, R, Y), 0, 0) (cs_QLC I L R Y K P V te (2, a, 0, [], ld, nm, cs) q a) := by
    intro y4 y3 y2 y1 J G f jF je jn jsp 
    have jW := cs_W_t hW jF
    have jf : ¬ J 11 11 = 0 := by rw [je]; exact jn
    have jF1 : ∀ p k, (p ≠ 11 ∧ p ≠ 19) → J p k = I p k := fun p k h => jF.1 p k h.1 h.2
    have jF2 := jF.2
    refine yi_D_run 2 (108, [(4, .inl y4), (3, .inl y3), (2, .inl y2), (1, .inl y1), (0, .inr (.inr (some 11)))], [.inl 2, .inl y2], (J, G, R, Y), 0, 0) (fun _ => rfl) ?_
    
    by_cases h2 : y2 = 2
    · refine yi_D_if2 false rfl (yi_ne_f h2) ?_
      refine yi_D_run 2 (113, [(4, .inl y4), (3, .inl y3), (2, .inl y2), (1, .inl y1), (0, .inr (.inr (some 11)))], [.inl 1, .inr (.inr (some 11))], (J, G, R, Y), 0, 0) (fun _ => rfl) ?_
      refine yi_D_callv rfl (p_emit jW) ?_
      rintro _ ⟨I3, rfl, hE4⟩
      have hW5 := cs_W_t jW (cs_E_F (L := G) hE4)
      have hF6 := cs_F_t jF (cs_E_F hE4)
      have hf7 : ¬ I3 11 11 = 0 := by rw [hE4 11 11 (by omega) (by omega)]; exact jf
      have he8 := (hE4 11 11 (by omega) (by omega)).trans je
      show yi_D zi_Ms d zi_m267 k (116, [(4, .inl y4), (3, .inl y3), (2, .inl y2), (1, .inl y1), (0, .inr (.inr (some 11)))], [], (I3, G, R, Y), 0, 0) _
      refine yi_D_run 2 (118, [(4, .inl y4), (3, .inl y3), (2, .inl y2), (1, .inl y1), (0, .inr (.inr (some 11)))], [.inl 4, .inl y2], (I3, G, R, Y), 0, 0) (fun _ => rfl) ?_
      have h9 : ¬ (y2 = 4) := by omega
      refine yi_D_if2 true rfl (yi_ne_t h9) ?_
      exact yi_D_mono (jn138f y4 y3 y2 y1 _ _ _ hF6 he8 jn jsp ) (by omega)
    · refine yi_D_if2 true rfl (yi_ne_t h2) ?_
      refine yi_D_run 2 (118, [(4, .inl y4), (3, .inl y3), (2, .inl y2), (1, .inl y1), (0, .inr (.inr (some 11)))], [.inl 4, .inl y2], (J, G, R, Y), 0, 0) (fun _ => rfl) ?_
      by_cases h10 : y2 = 4
      · refine yi_D_if2 false rfl (yi_ne_f h10) ?_
        refine yi_D_run 1 (122, [(4, .inl y4), (3, .inl y3), (2, .inl y2), (1, .inl y1), (0, .inr (.inr (some 11)))], [.inr (.inr (some 11))], (J, G, R, Y), 0, 0) (fun _ => rfl) ?_
        refine yi_D_gi (v := J 11 5) rfl rfl rfl rfl (fun _ => ?_)
        by_cases h11 : (J 11 5) = 0
        · refine yi_D_if1 true rfl (yi_eq_t h11) ?_
          exact yi_D_mono (jn138f y4 y3 y2 y1 _ _ _ jF je jn jsp ) (by omega)
        · refine yi_D_if1 false rfl (yi_eq_f h11) ?_
          refine yi_D_run 2 (130, [(4, .inl y4), (3, .inl y3), (2, .inl y2), (1, .inl y1), (0, .inr (.inr (some 11)))], [.inl 0, .inr (.inr (some 11))], (J, G, R, Y), 0, 0) (fun _ => rfl) ?_
          refine yi_D_callv rfl (p_emit jW) ?_
          rintro _ ⟨I12, rfl, hE13⟩
          have hW14 := cs_W_t jW (cs_E_F (L := G) hE13)
          have hF15 := cs_F_t jF (cs_E_F hE13)
          have hf16 : ¬ I12 11 11 = 0 := by rw [hE13 11 11 (by omega) (by omega)]; exact jf
          have he17 := (hE13 11 11 (by omega) (by omega)).trans je
          show yi_D zi_Ms d zi_m267 k (133, [(4, .inl y4), (3, .inl y3), (2, .inl y2), (1, .inl y1), (0, .inr (.inr (some 11)))], [], (I12, G, R, Y), 0, 0) _
          refine yi_D_run 2 (135, [(4, .inl y4), (3, .inl y3), (2, .inl y2), (1, .inl y1), (0, .inr (.inr (some 11)))], [.inl 2, .inr (.inr (some 11))], (I12, G, R, Y), 0, 0) (fun _ => rfl) ?_
          refine yi_D_callv rfl (p_emit hW14) ?_
          rintro _ ⟨I18, rfl, hE19⟩
          have hW20 := cs_W_t hW14 (cs_E_F (L := G) hE19)
          have hF21 := cs_F_t hF15 (cs_E_F hE19)
          have hf22 : ¬ I18 11 11 = 0 := by rw [hE19 11 11 (by omega) (by omega)]; exact hf16
          have he23 := (hE19 11 11 (by omega) (by omega)).trans he17
          show yi_D zi_Ms d zi_m267 k (138, [(4, .inl y4), (3, .inl y3), (2, .inl y2), (1, .inl y1), (0, .inr (.inr (some 11)))], [], (I18, G, R, Y), 0, 0) _
          exact yi_D_mono (jn138f y4 y3 y2 y1 _ _ _ hF21 he23 jn jsp ) (by omega)
      · refine yi_D_if2 true rfl (yi_ne_t h10) ?_
        exact yi_D_mono (jn138f y4 y3 y2 y1 _ _ _ jF je jn jsp ) (by omega)
  have jn90f : ∀ (y4 : Int) (y3 : Int) (y2 : Int) (y1 : Int) (J G : Nat → Nat → Int) (f : Int), cs_F I L J G → J 11 11 = f → ¬ f = 0 → sp_R K P V (2, a, 0, [], ld, nm, cs) (.inr f) → yi_D zi_Ms d zi_m267 k (90, [(4, .inl y4), (3, .inl y3), (2, .inl y2), (1, .inl y1), (0, .inr (.inr (some 11)))], [], (J, G, R, Y), 0, 0) (cs_QLC I L R Y K P V te (2, a, 0, [], ld, nm, cs) q a) := by
    intro y4 y3 y2 y1 J G f jF je jn jsp 
    have jW := cs_W_t hW jF
    have jf : ¬ J 11 11 = 0 := by rw [je]; exact jn
    have jF1 : ∀ p k, (p ≠ 11 ∧ p ≠ 19) → J p k = I p k := fun p k h => jF.1 p k h.1 h.2
    have jF2 := jF.2
    refine yi_D_run 2 (92, [(4, .inl y4), (3, .inl y3), (2, .inl y2), (1, .inl y1), (0, .inr (.inr (some 11)))], [.inl 0, .inr (.inr (some 11))], (J, G, R, Y), 0, 0) (fun _ => rfl) ?_
    refine yi_D_callv rfl (p_readFormula_f jW jf) ?_
    rintro _ rfl
    show yi_D zi_Ms d zi_m267 k (95, [(4, .inl y4), (3, .inl y3), (2, .inl y2), (1, .inl y1), (0, .inr (.inr (some 11)))], [], (J, G, R, Y), 0, 0) _
    refine yi_D_run 2 (97, [(4, .inl y4), (3, .inl y3), (2, .inl y2), (1, .inl y1), (0, .inr (.inr (some 11)))], [.inl 0, .inr (.inr (some 11))], (J, G, R, Y), 0, 0) (fun _ => rfl) ?_
    refine yi_D_pi rfl (fun _ => ?_)
    generalize w25 : yi_u J 11 7 0 = I24
    have hE26 : cs_E J I24 := fun p k hp0 hp1 => by rw [← w25, yi_u_ne _ _ (by omega)]
    have hW27 := cs_W_t jW (cs_E_F (L := G) hE26)
    have hF28 := cs_F_t jF (cs_E_F hE26)
    have hf29 : ¬ I24 11 11 = 0 := by rw [hE26 11 11 (by omega) (by omega)]; exact jf
    have he30 := (hE26 11 11 (by omega) (by omega)).trans je
    refine yi_D_run 2 (103, [(4, .inl y4), (3, .inl y3), (2, .inl y2), (1, .inl y1), (0, .inr (.inr (some 11)))], [.inl 59, .inr (.inr (some 11))], (I24, G, R, Y), 0, 0) (fun _ => rfl) ?_
    refine yi_D_callv rfl (p_takeKind_f hW27 hf29) ?_
    rintro _ rfl
    show yi_D zi_Ms d zi_m267 k (106, [(4, .inl y4), (3, .inl y3), (2, .inl y2), (1, .inl y1), (0, .inr (.inr (some 11)))], [], (I24, G, R, Y), 0, 0) _
    exact yi_D_mono (jn106f y4 y3 y2 y1 _ _ _ hF28 he30 jn jsp ) (by omega)
  have jn51f : ∀ (y2 : Int) (y1 : Int) (J G : Nat → Nat → Int) (f : Int), cs_F I L J G → J 11 11 = f → ¬ f = 0 → sp_R K P V (2, a, 0, [], ld, nm, cs) (.inr f) → yi_D zi_Ms d zi_m267 k (51, [(2, .inl y2), (1, .inl y1), (0, .inr (.inr (some 11)))], [], (J, G, R, Y), 0, 0) (cs_QLC I L R Y K P V te (2, a, 0, [], ld, nm, cs) q a) := by
    intro y2 y1 J G f jF je jn jsp 
    have jW := cs_W_t hW jF
    have jf : ¬ J 11 11 = 0 := by rw [je]; exact jn
    have jF1 : ∀ p k, (p ≠ 11 ∧ p ≠ 19) → J p k = I p k := fun p k h => jF.1 p k h.1 h.2
    have jF2 := jF.2
    refine yi_D_run 2 (54, [(2, .inl y2), (1, .inl y1), (0, .inr (.inr (some 11)))], [.inl 12, .inr (.inr (some 11))], (J, G, R, Y), 0, 0) (fun _ => rfl) ?_
    refine yi_D_callv rfl (p_takeKind_f jW jf) ?_
    rintro _ rfl
    show yi_D zi_Ms d zi_m267 k (57, [(2, .inl y2), (1, .inl y1), (0, .inr (.inr (some 11)))], [], (J, G, R, Y), 0, 0) _
    refine yi_D_run 3 (61, [(2, .inl y2), (1, .inl y1), (0, .inr (.inr (some 11)))], [.inl 99, .inl 0, .inr (.inr (some 11))], (J, G, R, Y), 0, 0) (fun _ => rfl) ?_
    refine yi_D_callv rfl (p_takeNumber_f jW jf) ?_
    rintro _ ⟨z31, rfl⟩
    show yi_D zi_Ms d zi_m267 k (64, [(2, .inl y2), (1, .inl y1), (0, .inr (.inr (some 11)))], [.inl z31], (J, G, R, Y), 0, 0) _
    refine yi_D_run 2 (66, [(3, .inl z31), (2, .inl y2), (1, .inl y1), (0, .inr (.inr (some 11)))], [.inr (.inr (some 11))], (J, G, R, Y), 0, 0) (fun _ => rfl) ?_
    
    refine yi_D_gi (v := J 11 3) rfl rfl rfl rfl (fun _ => ?_)
    refine yi_D_run 3 (73, [(4, .inl (J 11 3)), (3, .inl z31), (2, .inl y2), (1, .inl y1), (0, .inr (.inr (some 11)))], [.inl 0, .inr (.inr (some 11))], (J, G, R, Y), 0, 0) (fun _ => rfl) ?_
    refine yi_D_pi rfl (fun _ => ?_)
    generalize w33 : yi_u J 11 5 0 = I32
    have hE34 : cs_E J I32 := fun p k hp0 hp1 => by rw [← w33, yi_u_ne _ _ (by omega)]
    have hW35 := cs_W_t jW (cs_E_F (L := G) hE34)
    have hF36 := cs_F_t jF (cs_E_F hE34)
    have hf37 : ¬ I32 11 11 = 0 := by rw [hE34 11 11 (by omega) (by omega)]; exact jf
    have he38 := (hE34 11 11 (by omega) (by omega)).trans je
    refine yi_D_run 3 (79, [(4, .inl (J 11 3)), (3, .inl z31), (2, .inl y2), (1, .inl y1), (0, .inr (.inr (some 11)))], [.inl 1, .inl y2, .inr (.inr (some 11))], (I32, G, R, Y), 0, 0) (fun _ => rfl) ?_
    by_cases h39 : y2 = 1
    · refine yi_D_if2 false rfl (yi_ne_f h39) ?_
      refine yi_D_run 2 (87, [(4, .inl (J 11 3)), (3, .inl z31), (2, .inl y2), (1, .inl y1), (0, .inr (.inr (some 11)))], [.inl 1, .inr (.inr (some 11))], (I32, G, R, Y), 0, 0) (fun _ => rfl) ?_
      refine yi_D_pi rfl (fun _ => ?_)
      generalize w41 : yi_u I32 11 7 1 = I40
      have hE42 : cs_E I32 I40 := fun p k hp0 hp1 => by rw [← w41, yi_u_ne _ _ (by omega)]
      have hW43 := cs_W_t hW35 (cs_E_F (L := G) hE42)
      have hF44 := cs_F_t hF36 (cs_E_F hE42)
      have hf45 : ¬ I40 11 11 = 0 := by rw [hE42 11 11 (by omega) (by omega)]; exact hf37
      have he46 := (hE42 11 11 (by omega) (by omega)).trans he38
      exact yi_D_mono (jn90f (J 11 3) z31 y2 y1 _ _ _ hF44 he46 jn jsp ) (by omega)
    · refine yi_D_if2 true rfl (yi_ne_t h39) ?_
      refine yi_D_run 1 (87, [(4, .inl (J 11 3)), (3, .inl z31), (2, .inl y2), (1, .inl y1), (0, .inr (.inr (some 11)))], [.inl 0, .inr (.inr (some 11))], (I32, G, R, Y), 0, 0) (fun _ => rfl) ?_
      refine yi_D_pi rfl (fun _ => ?_)
      generalize w48 : yi_u I32 11 7 0 = I47
      have hE49 : cs_E I32 I47 := fun p k hp0 hp1 => by rw [← w48, yi_u_ne _ _ (by omega)]
      have hW50 := cs_W_t hW35 (cs_E_F (L := G) hE49)
      have hF51 := cs_F_t hF36 (cs_E_F hE49)
      have hf52 : ¬ I47 11 11 = 0 := by rw [hE49 11 11 (by omega) (by omega)]; exact hf37
      have he53 := (hE49 11 11 (by omega) (by omega)).trans he38
      exact yi_D_mono (jn90f (J 11 3) z31 y2 y1 _ _ _ hF51 he53 jn jsp ) (by omega)
  show yi_D zi_Ms d zi_m267 k (0, [(0, .inr (.inr (some 11)))], [], (I, L, R, Y), 0, 0) _
  refine yi_D_run 1 (1, [(0, .inr (.inr (some 11)))], [.inr (.inr (some 11))], (I, L, R, Y), 0, 0) (fun _ => rfl) ?_
  refine yi_D_gr (v := some q) rfl rfl rfl hW.2.2.1.2.1 (fun _ => ?_)
  refine yi_D_gi (v := ld 5) rfl rfl (Nat.ble_eq_true_of_le (by omega)) hW.2.2.2.1.2.2.2.2.2 (fun _ => ?_)
  refine yi_D_run 1 (9, [(0, .inr (.inr (some 11)))], [.inl 6, .inl (ld 5)], (I, L, R, Y), 0, 0) (fun _ => rfl) ?_
  by_cases h54 : (ld 5) < 6
  · refine yi_D_if2 true rfl (yi_lt_t h54) ?_
    refine yi_D_run 2 (20, [(0, .inr (.inr (some 11)))], [.inl 11, .inr (.inr (some 11))], (I, L, R, Y), 0, 0) (fun _ => rfl) ?_
    refine yi_D_callv rfl (p_takeKind_z (by omega) hW hf hA) ?_
    rintro _ (⟨c55, I56, L57, rfl, hGa58, hf59, hA60⟩ | ⟨c61, I62, L63, rfl, hGa64, he65⟩)
    · have hA60 : cs_A I56 L57 K te (a + 1) := hA60
      have hW66 := cs_W_t hW (cs_G_F hGa58)
      have hF67 := (cs_G_F hGa58)
      have hG68 := hGa58
      have hcc69 := cc_G hcc hGa58
      show yi_D zi_Ms d zi_m267 k (23, [(0, .inr (.inr (some 11)))], [], (I56, L57, R, Y), 0, 0) _
      refine yi_D_run 2 (25, [(0, .inr (.inr (some 11)))], [.inr (.inr (some 11)), .inr (.inr (some 11))], (I56, L57, R, Y), 0, 0) (fun _ => rfl) ?_
      refine yi_D_gr (v := some q) rfl rfl rfl hW.2.2.1.2.1 (fun _ => ?_)
      refine yi_D_gr (v := some (q + 3)) rfl rfl (Nat.ble_eq_true_of_le (by omega)) (hW.2.2.1.2.2.1 2 (by omega)) (fun _ => ?_)
      refine yi_D_run 1 (32, [(0, .inr (.inr (some 11)))], [.inr (.inr (some 11)), .inr (.inr (some (q + 3))), .inr (.inr (some 11))], (I56, L57, R, Y), 0, 0) (fun _ => rfl) ?_
      refine yi_D_gr (v := some q) rfl rfl rfl hW.2.2.1.2.1 (fun _ => ?_)
      have r70 : I56 q 17 = ld 3 := by rw [hGa58.1 q 17 (by omega), hW.2.2.2.1.2.2.2.1]
      refine yi_D_gi (v := ld 3) rfl rfl (Nat.ble_eq_true_of_le (by omega)) r70 (fun _ => ?_)
      refine yi_D_callv rfl (p_takeName_z (by omega) ⟨by omega, by omega, by omega⟩ hW66 hf59 hA60 (by omega) hW66.2.2.2.2.2.2.2.1.2.2) ?_
      rintro _ (⟨c71, c72, I73, L74, rfl, hGa75, hf76, hA77⟩ | ⟨c78, z83, I79, L80, rfl, hGa81, he82⟩ | ⟨c84, z89, I85, L86, rfl, hGa87, he88⟩)
      · have hA77 : cs_A I73 L74 K te (a + 2) := hA77
        have hW90 := cs_W_t hW66 (cs_G_F hGa75)
        have hF91 := cs_F_t hF67 (cs_G_F hGa75)
        have hG92 := cs_G_t hG68 hGa75
        have hcc93 := cc_G hcc69 hGa75
        show yi_D zi_Ms d zi_m267 k (41, [(0, .inr (.inr (some 11)))], [.inl (nm (V (a + 1)) - 8)], (I73, L74, R, Y), 0, 0) _
        refine yi_D_run 2 (43, [(1, .inl (nm (V (a + 1)) - 8)), (0, .inr (.inr (some 11)))], [.inr (.inr (some 11))], (I73, L74, R, Y), 0, 0) (fun _ => rfl) ?_
        refine yi_D_gr (v := some q) rfl rfl rfl hW.2.2.1.2.1 (fun _ => ?_)
        refine yi_D_run 1 (47, [(1, .inl (nm (V (a + 1)) - 8)), (0, .inr (.inr (some 11)))], [.inl (nm (V (a + 1)) - 8), .inr (.inr (some q))], (I73, L74, R, Y), 0, 0) (fun _ => rfl) ?_
        have hpl := (hW90.2.2.2.2.2.2.2.1.2.2.2.2 (V (a + 1)) (by omega) (by omega)).1
        refine yi_D_callv rfl (p_kindOfX hW90 ⟨by omega, by omega⟩) ?_
        rintro _ ⟨z94, rfl, hk95⟩
        show yi_D zi_Ms d zi_m267 k (50, [(1, .inl (nm (V (a + 1)) - 8)), (0, .inr (.inr (some 11)))], [.inl z94], (I73, L74, R, Y), 0, 0) _
        refine yi_D_run 3 (54, [(2, .inl z94), (1, .inl (nm (V (a + 1)) - 8)), (0, .inr (.inr (some 11)))], [.inl 12, .inr (.inr (some 11))], (I73, L74, R, Y), 0, 0) (fun _ => rfl) ?_
        refine yi_D_callv rfl (p_takeKind_z (by omega) hW90 hf76 hA77) ?_
        rintro _ (⟨c96, I97, L98, rfl, hGa99, hf100, hA101⟩ | ⟨c102, I103, L104, rfl, hGa105, he106⟩)
        · have hA101 : cs_A I97 L98 K te (a + 3) := hA101
          have hW107 := cs_W_t hW90 (cs_G_F hGa99)
          have hF108 := cs_F_t hF91 (cs_G_F hGa99)
          have hG109 := cs_G_t hG92 hGa99
          have hcc110 := cc_G hcc93 hGa99
          show yi_D zi_Ms d zi_m267 k (57, [(2, .inl z94), (1, .inl (nm (V (a + 1)) - 8)), (0, .inr (.inr (some 11)))], [], (I97, L98, R, Y), 0, 0) _
          refine yi_D_run 3 (61, [(2, .inl z94), (1, .inl (nm (V (a + 1)) - 8)), (0, .inr (.inr (some 11)))], [.inl 99, .inl 0, .inr (.inr (some 11))], (I97, L98, R, Y), 0, 0) (fun _ => rfl) ?_
          refine yi_D_callv rfl (p_takeNumber_z (lo := 0) (hi := 99) hW107 hf100 hA101) ?_
          rintro _ (⟨c111, c112, I113, L114, rfl, hGa115, hf116, hA117⟩ | ⟨c118, z123, I119, L120, rfl, hGa121, he122⟩ | ⟨c124, z129, I125, L126, rfl, hGa127, he128⟩)
          · have hA117 : cs_A I113 L114 K te (a + 4) := hA117
            have hW130 := cs_W_t hW107 (cs_G_F hGa115)
            have hF131 := cs_F_t hF108 (cs_G_F hGa115)
            have hG132 := cs_G_t hG109 hGa115
            have hcc133 := cc_G hcc110 hGa115
            show yi_D zi_Ms d zi_m267 k (64, [(2, .inl z94), (1, .inl (nm (V (a + 1)) - 8)), (0, .inr (.inr (some 11)))], [.inl (V (a + 3))], (I113, L114, R, Y), 0, 0) _
            refine yi_D_run 2 (66, [(3, .inl (V (a + 3))), (2, .inl z94), (1, .inl (nm (V (a + 1)) - 8)), (0, .inr (.inr (some 11)))], [.inr (.inr (some 11))], (I113, L114, R, Y), 0, 0) (fun _ => rfl) ?_
            have hst134 : sp_R K P V (2, a, 0, [], ld, nm, cs) (.inl (3, a + 4, 0, [10, 21], sp_up (sp_up (sp_up ld (25 + 3 * (ld 5).toNat) (nm (V (a + 1)) - 8)) (26 + 3 * (ld 5).toNat) (V (a + 3))) (27 + 3 * (ld 5).toNat) cs.length, nm, cs)) := sp_R_1 (by
              show sp_line K P V a ld nm cs = _
              unfold sp_line
              repeat (first | rw [if_pos (by omega)] | rw [if_neg (by omega)])
              unfold sp_wish
              repeat (first | rw [if_pos (by omega)] | rw [if_neg (by omega)]))
            have r135 : I113 11 3 = (u : Int) := by rw [hGa115.1 11 3 (by omega), hGa99.1 11 3 (by omega), hGa75.1 11 3 (by omega), hGa58.1 11 3 (by omega), hln.1.1]
            refine yi_D_gi (v := (u : Int)) rfl rfl rfl r135 (fun _ => ?_)
            refine yi_D_run 3 (73, [(4, .inl (u : Int)), (3, .inl (V (a + 3))), (2, .inl z94), (1, .inl (nm (V (a + 1)) - 8)), (0, .inr (.inr (some 11)))], [.inl 0, .inr (.inr (some 11))], (I113, L114, R, Y), 0, 0) (fun _ => rfl) ?_
            refine yi_D_pi rfl (fun _ => ?_)
            generalize w137 : yi_u I113 11 5 0 = I136
            have hE138 : cs_E I113 I136 := fun p k hp0 hp1 => by rw [← w137, yi_u_ne _ _ (by omega)]
            have hW139 := cs_W_t hW130 (cs_E_F (L := L114) hE138)
            have hF140 := cs_F_t hF131 (cs_E_F hE138)
            have hf141 : I136 11 11 = 0 := (hE138 11 11 (by omega) (by omega)).trans hf116
            have hA142 := cs_A_e hA117 hE138
            have hcc143 := cc_n0 (I' := I136) (b1 := 0) hcc133 (by rw [← w137, yi_u_eq]) (fun p k h => by rw [← w137, yi_u_ne _ _ h])
            refine yi_D_run 3 (79, [(4, .inl (u : Int)), (3, .inl (V (a + 3))), (2, .inl z94), (1, .inl (nm (V (a + 1)) - 8)), (0, .inr (.inr (some 11)))], [.inl 1, .inl z94, .inr (.inr (some 11))], (I136, L114, R, Y), 0, 0) (fun _ => rfl) ?_
            by_cases h144 : z94 = 1
            · refine yi_D_if2 false rfl (yi_ne_f h144) ?_
              refine yi_D_run 2 (87, [(4, .inl (u : Int)), (3, .inl (V (a + 3))), (2, .inl z94), (1, .inl (nm (V (a + 1)) - 8)), (0, .inr (.inr (some 11)))], [.inl 1, .inr (.inr (some 11))], (I136, L114, R, Y), 0, 0) (fun _ => rfl) ?_
              refine yi_D_pi rfl (fun _ => ?_)
              generalize w146 : yi_u I136 11 7 1 = I145
              have hE147 : cs_E I136 I145 := fun p k hp0 hp1 => by rw [← w146, yi_u_ne _ _ (by omega)]
              have hW148 := cs_W_t hW139 (cs_E_F (L := L114) hE147)
              have hF149 := cs_F_t hF140 (cs_E_F hE147)
              have hf150 : I145 11 11 = 0 := (hE147 11 11 (by omega) (by omega)).trans hf141
              have hA151 := cs_A_e hA142 hE147
              have hcc152 := cc_sf (I' := I145) (v2 := wvg z94) hcc143 (by rw [← w146, yi_u_eq]; unfold wvg; rw [if_pos (by omega)]) (fun p k h => by rw [← w146, yi_u_ne _ _ h])
              refine yi_D_run 2 (92, [(4, .inl (u : Int)), (3, .inl (V (a + 3))), (2, .inl z94), (1, .inl (nm (V (a + 1)) - 8)), (0, .inr (.inr (some 11)))], [.inl 0, .inr (.inr (some 11))], (I145, L114, R, Y), 0, 0) (fun _ => rfl) ?_
              have hW153 := cs_W_ld (ld' := sp_up (sp_up (sp_up ld (25 + 3 * (ld 5).toNat) (nm (V (a + 1)) - 8)) (26 + 3 * (ld 5).toNat) (V (a + 3))) (27 + 3 * (ld 5).toNat) cs.length) hW148 (fun j hj => by repeat rw [sp_up_n _ _ (by omega)])
              have hcc154 := cc_tr (tr2 := trF (ld 0).toNat (wvg z94)) hcc152
              refine yi_D_callv rfl (p_readFormulaC 0 [21] cs hW153 hf150 hA151 (by omega) (by (repeat rw [sp_up_n _ _ (by omega)]); omega) hcc154 (by omega)) ?_
              rintro _ ⟨I155, L156, rfl, hFr157, (⟨a158, cs159, hR160, lt161, hf162, hA163, hcc164, ll165⟩ | ⟨f166, hR167, hz168, he169⟩)⟩
              · have hW170 := cs_W_t hW153 hFr157
                have hF171 := cs_F_t hF149 hFr157
                have hF172 : ∀ p k, (p ≠ 11 ∧ p ≠ 19) → I155 p k = I145 p k := fun p k h => hFr157.1 p k h.1 h.2
                have hlehA163 := hA163.2.1
                have hclhcc164 := cc_le hcc164
                have hR173 : sp_R K P V (2, a, 0, [], ld, nm, cs) (.inl (1, a158, 0, [], sp_up (sp_up (sp_up (sp_up ld (25 + 3 * (ld 5).toNat) (nm (V (a + 1)) - 8)) (26 + 3 * (ld 5).toNat) (V (a + 3))) (27 + 3 * (ld 5).toNat) cs.length) 5 ((sp_up (sp_up (sp_up ld (25 + 3 * (ld 5).toNat) (nm (V (a + 1)) - 8)) (26 + 3 * (ld 5).toNat) (V (a + 3))) (27 + 3 * (ld 5).toNat) cs.length) 5 + 1), nm, cs159 ++ [(0, 0)])) := sp_R_s (sp_R_t hst134 hR160) rfl
                show yi_D zi_Ms d zi_m267 k (95, [(4, .inl (u : Int)), (3, .inl (V (a + 3))), (2, .inl z94), (1, .inl (nm (V (a + 1)) - 8)), (0, .inr (.inr (some 11)))], [], (I155, L156, R, Y), 0, 0) _
                refine yi_D_run 2 (97, [(4, .inl (u : Int)), (3, .inl (V (a + 3))), (2, .inl z94), (1, .inl (nm (V (a + 1)) - 8)), (0, .inr (.inr (some 11)))], [.inl 0, .inr (.inr (some 11))], (I155, L156, R, Y), 0, 0) (fun _ => rfl) ?_
                refine yi_D_pi rfl (fun _ => ?_)
                generalize w175 : yi_u I155 11 7 0 = I174
                have hE176 : cs_E I155 I174 := fun p k hp0 hp1 => by rw [← w175, yi_u_ne _ _ (by omega)]
                have hW177 := cs_W_t hW170 (cs_E_F (L := L156) hE176)
                have hF178 := cs_F_t hF171 (cs_E_F hE176)
                have hf179 : I174 11 11 = 0 := (hE176 11 11 (by omega) (by omega)).trans hf162
                have hA180 := cs_A_e hA163 hE176
                have hcc181 := cc_sf (I' := I174) (v2 := 0) hcc164 (by rw [← w175, yi_u_eq]) (fun p k h => by rw [← w175, yi_u_ne _ _ h])
                refine yi_D_run 2 (103, [(4, .inl (u : Int)), (3, .inl (V (a + 3))), (2, .inl z94), (1, .inl (nm (V (a + 1)) - 8)), (0, .inr (.inr (some 11)))], [.inl 59, .inr (.inr (some 11))], (I174, L156, R, Y), 0, 0) (fun _ => rfl) ?_
                refine yi_D_callv rfl (p_takeKind_z (by omega) hW177 hf179 hA180) ?_
                rintro _ (⟨c182, I183, L184, rfl, hGa185, hf186, hA187⟩ | ⟨c188, I189, L190, rfl, hGa191, he192⟩)
                · have hA187 : cs_A I183 L184 K te (a158 + 1) := hA187
                  have hW193 := cs_W_t hW177 (cs_G_F hGa185)
                  have hF194 := cs_F_t hF178 (cs_G_F hGa185)
                  have hcc195 := cc_G hcc181 hGa185
                  have hR196 : sp_R K P V (2, a, 0, [], ld, nm, cs) (.inl (2, a158 + 1, 0, [], sp_up (sp_up (sp_up (sp_up ld (25 + 3 * (ld 5).toNat) (nm (V (a + 1)) - 8)) (26 + 3 * (ld 5).toNat) (V (a + 3))) (27 + 3 * (ld 5).toNat) cs.length) 5 ((sp_up (sp_up (sp_up ld (25 + 3 * (ld 5).toNat) (nm (V (a + 1)) - 8)) (26 + 3 * (ld 5).toNat) (V (a + 3))) (27 + 3 * (ld 5).toNat) cs.length) 5 + 1), nm, cs159 ++ [(0, 0)])) := sp_R_s hR173 (by
                    show (if K _ = 59 then _ else _) = _
                    rw [if_pos (by omega)])
                  show yi_D zi_Ms d zi_m267 k (106, [(4, .inl (u : Int)), (3, .inl (V (a + 3))), (2, .inl z94), (1, .inl (nm (V (a + 1)) - 8)), (0, .inr (.inr (some 11)))], [], (I183, L184, R, Y), 0, 0) _
                  refine yi_D_run 2 (108, [(4, .inl (u : Int)), (3, .inl (V (a + 3))), (2, .inl z94), (1, .inl (nm (V (a + 1)) - 8)), (0, .inr (.inr (some 11)))], [.inl 2, .inl z94], (I183, L184, R, Y), 0, 0) (fun _ => rfl) ?_
                  have htl197 := tl_0 (I1 := I183) hcc195.2.1
                  have h198 : ¬ (z94 = 2) := by omega
                  refine yi_D_if2 true rfl (yi_ne_t h198) ?_
                  refine yi_D_run 2 (118, [(4, .inl (u : Int)), (3, .inl (V (a + 3))), (2, .inl z94), (1, .inl (nm (V (a + 1)) - 8)), (0, .inr (.inr (some 11)))], [.inl 4, .inl z94], (I183, L184, R, Y), 0, 0) (fun _ => rfl) ?_
                  have h199 : ¬ (z94 = 4) := by omega
                  refine yi_D_if2 true rfl (yi_ne_t h199) ?_
                  refine yi_D_run 1 (139, [(4, .inl (u : Int)), (3, .inl (V (a + 3))), (2, .inl z94), (1, .inl (nm (V (a + 1)) - 8)), (0, .inr (.inr (some 11)))], [.inr (.inr (some 11))], (I183, L184, R, Y), 0, 0) (fun _ => rfl) ?_
                  refine yi_D_gi (v := 0) rfl rfl rfl hf186 (fun _ => ?_)
                  refine yi_D_if1 false rfl (by decide) ?_
                  refine yi_D_run 1 (146, [(4, .inl (u : Int)), (3, .inl (V (a + 3))), (2, .inl z94), (1, .inl (nm (V (a + 1)) - 8)), (0, .inr (.inr (some 11)))], [.inr (.inr (some 11))], (I183, L184, R, Y), 0, 0) (fun _ => rfl) ?_
                  refine yi_D_gr (v := some q) rfl rfl rfl hW.2.2.1.2.1 (fun _ => ?_)
                  refine yi_D_run 4 (154, [(4, .inl (u : Int)), (3, .inl (V (a + 3))), (2, .inl z94), (1, .inl (nm (V (a + 1)) - 8)), (0, .inr (.inr (some 11)))], [.inr (.inr (some 11)), .inl (u : Int), .inl (V (a + 3)), .inl (nm (V (a + 1)) - 8), .inr (.inr (some q))], (I183, L184, R, Y), 0, 0) (fun _ => rfl) ?_
                  have r200 : I183 11 3 = I155 11 3 := by rw [hGa185.1 11 3 (by omega), ← w175, yi_u_ne _ _ (by omega)]
                  refine yi_D_gi (v := I155 11 3) rfl rfl rfl r200 (fun _ => ?_)
                  have h208 : (sp_up (sp_up (sp_up ld (25 + 3 * (ld 5).toNat) (nm (V (a + 1)) - 8)) (26 + 3 * (ld 5).toNat) (V (a + 3))) (27 + 3 * (ld 5).toNat) cs.length) 5 < 6 := by
                    (repeat rw [sp_up_n _ _ (by omega)])
                    omega
                  refine yi_D_callv rfl (p_addWishE (n := (ld 5).toNat) hq0 (hW193.2.2.1.2.2.1 6 (by omega)) (hW193.2.2.1.2.2.1 7 (by omega)) (hW193.2.2.1.2.2.1 10 (by omega)) (hW193.2.2.1.2.2.1 11 (by omega)) (hW193.2.2.2.1.2.2.2.2.2.trans (by (repeat rw [sp_up_n _ _ (by omega)]); omega)) (by omega)) ?_
                  rintro _ ⟨I201, rfl, e202, e203, e204, e205, e206, f207⟩
                  have ho209 : (∀ p k, (p = q → ¬ k = 19) ∧ (p ≤ q + 6 ∨ q + 14 ≤ p) → I201 p k = I183 p k) := fun p k h => f207 p k (by omega)
                  show yi_D zi_Ms d zi_m267 k (160, [(4, .inl (u : Int)), (3, .inl (V (a + 3))), (2, .inl z94), (1, .inl (nm (V (a + 1)) - 8)), (0, .inr (.inr (some 11)))], [], (I201, L184, R, Y), 0, 0) _
                  refine yi_D_retv rfl ?_
                  have hfin := cs_fin hF194 hW193 hf186 hA187 (fun p k _ h => ⟨ho209 p k (by omega), rfl⟩) (fun _ _ _ => rfl) ⟨Nat.le_refl _, fun _ _ => ⟨rfl, rfl⟩⟩ (cs_Ld_wish hW193.2.2 h208 (e206.trans (by (repeat rw [sp_up_n _ _ (by omega)]); omega)) ho209)
                  have hln2 := ln_wish hln hF194 hF194 (kd := z94) (who := nm (V (a + 1)) - 8) hk95 ⟨by omega, by omega, by omega⟩ (by omega) hcc195 htl197 (t := []) (by unfold wtl; first | (rw [if_pos (by omega)]; rfl) | (rw [if_neg (by omega), if_pos ⟨by omega, decide_eq_true (by omega)⟩]; rfl) | (rw [if_neg (by omega), if_neg (fun z => by omega)]) | (rw [if_neg (by omega), if_neg (fun z => by have := of_decide_eq_true z.2; omega)])) (n := (ld 5).toNat) (by omega) (by omega) hq0 rfl e202 e203 e204 (e205.trans hcc164.2.1) f207 (ld' := sp_up (sp_up (sp_up (sp_up ld (25 + 3 * (ld 5).toNat) (nm (V (a + 1)) - 8)) (26 + 3 * (ld 5).toNat) (V (a + 3))) (27 + 3 * (ld 5).toNat) cs.length) 5 ((sp_up (sp_up (sp_up ld (25 + 3 * (ld 5).toNat) (nm (V (a + 1)) - 8)) (26 + 3 * (ld 5).toNat) (V (a + 3))) (27 + 3 * (ld 5).toNat) cs.length) 5 + 1)) rfl
                  have hul : u + (cs159.length - cs.length) + ([] : List Nat).length = u + (cs159.length - cs.length) + 0 := rfl
                  exact ⟨_, _, _, _, _, _, rfl, hfin.1, Or.inl ⟨_, _, _, _, _, hR196, by omega, hfin.2.1, hfin.2.2.1, hfin.2.2.2, hln2, by omega⟩⟩
                · have hW210 := cs_W_t hW177 (cs_G_F hGa191)
                  have hF211 := cs_F_t hF178 (cs_G_F hGa191)
                  have hz212 : ¬ sp_f P a158 1 = 0 := sp_f_ne hW177 hA180.2.1 (by omega)
                  have hn213 : ¬ I189 11 11 = 0 := by rw [he192]; exact hz212
                  have hx214 : sp_R K P V (2, a, 0, [], ld, nm, cs) (.inr (sp_f P a158 1)) := sp_R_s hR173 (by
                    show (if K _ = 59 then _ else _) = _
                    rw [if_neg (by omega)])
                  show yi_D zi_Ms d zi_m267 k (106, [(4, .inl (u : Int)), (3, .inl (V (a + 3))), (2, .inl z94), (1, .inl (nm (V (a + 1)) - 8)), (0, .inr (.inr (some 11)))], [], (I189, L190, R, Y), 0, 0) _
                  exact yi_D_mono (jn106f (u : Int) (V (a + 3)) z94 (nm (V (a + 1)) - 8) _ _ _ hF211 he192 hz212 hx214 ) (by omega)
              · have hW215 := cs_W_t hW153 hFr157
                have hF216 := cs_F_t hF149 hFr157
                have hF217 : ∀ p k, (p ≠ 11 ∧ p ≠ 19) → I155 p k = I145 p k := fun p k h => hFr157.1 p k h.1 h.2
                have hn218 : ¬ I155 11 11 = 0 := by rw [he169]; exact hz168
                have hx219 : sp_R K P V (2, a, 0, [], ld, nm, cs) (.inr f166) := sp_R_t hst134 hR167
                show yi_D zi_Ms d zi_m267 k (95, [(4, .inl (u : Int)), (3, .inl (V (a + 3))), (2, .inl z94), (1, .inl (nm (V (a + 1)) - 8)), (0, .inr (.inr (some 11)))], [], (I155, L156, R, Y), 0, 0) _
                refine yi_D_run 2 (97, [(4, .inl (u : Int)), (3, .inl (V (a + 3))), (2, .inl z94), (1, .inl (nm (V (a + 1)) - 8)), (0, .inr (.inr (some 11)))], [.inl 0, .inr (.inr (some 11))], (I155, L156, R, Y), 0, 0) (fun _ => rfl) ?_
                refine yi_D_pi rfl (fun _ => ?_)
                generalize w221 : yi_u I155 11 7 0 = I220
                have hE222 : cs_E I155 I220 := fun p k hp0 hp1 => by rw [← w221, yi_u_ne _ _ (by omega)]
                have hW223 := cs_W_t hW215 (cs_E_F (L := L156) hE222)
                have hF224 := cs_F_t hF216 (cs_E_F hE222)
                have hf225 : ¬ I220 11 11 = 0 := by rw [hE222 11 11 (by omega) (by omega)]; exact hn218
                have he226 := (hE222 11 11 (by omega) (by omega)).trans he169
                refine yi_D_run 2 (103, [(4, .inl (u : Int)), (3, .inl (V (a + 3))), (2, .inl z94), (1, .inl (nm (V (a + 1)) - 8)), (0, .inr (.inr (some 11)))], [.inl 59, .inr (.inr (some 11))], (I220, L156, R, Y), 0, 0) (fun _ => rfl) ?_
                refine yi_D_callv rfl (p_takeKind_f hW223 hf225) ?_
                rintro _ rfl
                show yi_D zi_Ms d zi_m267 k (106, [(4, .inl (u : Int)), (3, .inl (V (a + 3))), (2, .inl z94), (1, .inl (nm (V (a + 1)) - 8)), (0, .inr (.inr (some 11)))], [], (I220, L156, R, Y), 0, 0) _
                exact yi_D_mono (jn106f (u : Int) (V (a + 3)) z94 (nm (V (a + 1)) - 8) _ _ _ hF224 he226 hz168 hx219 ) (by omega)
            · refine yi_D_if2 true rfl (yi_ne_t h144) ?_
              refine yi_D_run 1 (87, [(4, .inl (u : Int)), (3, .inl (V (a + 3))), (2, .inl z94), (1, .inl (nm (V (a + 1)) - 8)), (0, .inr (.inr (some 11)))], [.inl 0, .inr (.inr (some 11))], (I136, L114, R, Y), 0, 0) (fun _ => rfl) ?_
              refine yi_D_pi rfl (fun _ => ?_)
              generalize w228 : yi_u I136 11 7 0 = I227
              have hE229 : cs_E I136 I227 := fun p k hp0 hp1 => by rw [← w228, yi_u_ne _ _ (by omega)]
              have hW230 := cs_W_t hW139 (cs_E_F (L := L114) hE229)
              have hF231 := cs_F_t hF140 (cs_E_F hE229)
              have hf232 : I227 11 11 = 0 := (hE229 11 11 (by omega) (by omega)).trans hf141
              have hA233 := cs_A_e hA142 hE229
              have hcc234 := cc_sf (I' := I227) (v2 := wvg z94) hcc143 (by rw [← w228, yi_u_eq]; unfold wvg; rw [if_neg (by omega)]) (fun p k h => by rw [← w228, yi_u_ne _ _ h])
              refine yi_D_run 2 (92, [(4, .inl (u : Int)), (3, .inl (V (a + 3))), (2, .inl z94), (1, .inl (nm (V (a + 1)) - 8)), (0, .inr (.inr (some 11)))], [.inl 0, .inr (.inr (some 11))], (I227, L114, R, Y), 0, 0) (fun _ => rfl) ?_
              have hW235 := cs_W_ld (ld' := sp_up (sp_up (sp_up ld (25 + 3 * (ld 5).toNat) (nm (V (a + 1)) - 8)) (26 + 3 * (ld 5).toNat) (V (a + 3))) (27 + 3 * (ld 5).toNat) cs.length) hW230 (fun j hj => by repeat rw [sp_up_n _ _ (by omega)])
              have hcc236 := cc_tr (tr2 := trF (ld 0).toNat (wvg z94)) hcc234
              refine yi_D_callv rfl (p_readFormulaC 0 [21] cs hW235 hf232 hA233 (by omega) (by (repeat rw [sp_up_n _ _ (by omega)]); omega) hcc236 (by omega)) ?_
              rintro _ ⟨I237, L238, rfl, hFr239, (⟨a240, cs241, hR242, lt243, hf244, hA245, hcc246, ll247⟩ | ⟨f248, hR249, hz250, he251⟩)⟩
              · have hW252 := cs_W_t hW235 hFr239
                have hF253 := cs_F_t hF231 hFr239
                have hF254 : ∀ p k, (p ≠ 11 ∧ p ≠ 19) → I237 p k = I227 p k := fun p k h => hFr239.1 p k h.1 h.2
                have hlehA245 := hA245.2.1
                have hclhcc246 := cc_le hcc246
                have hR255 : sp_R K P V (2, a, 0, [], ld, nm, cs) (.inl (1, a240, 0, [], sp_up (sp_up (sp_up (sp_up ld (25 + 3 * (ld 5).toNat) (nm (V (a + 1)) - 8)) (26 + 3 * (ld 5).toNat) (V (a + 3))) (27 + 3 * (ld 5).toNat) cs.length) 5 ((sp_up (sp_up (sp_up ld (25 + 3 * (ld 5).toNat) (nm (V (a + 1)) - 8)) (26 + 3 * (ld 5).toNat) (V (a + 3))) (27 + 3 * (ld 5).toNat) cs.length) 5 + 1), nm, cs241 ++ [(0, 0)])) := sp_R_s (sp_R_t hst134 hR242) rfl
                show yi_D zi_Ms d zi_m267 k (95, [(4, .inl (u : Int)), (3, .inl (V (a + 3))), (2, .inl z94), (1, .inl (nm (V (a + 1)) - 8)), (0, .inr (.inr (some 11)))], [], (I237, L238, R, Y), 0, 0) _
                refine yi_D_run 2 (97, [(4, .inl (u : Int)), (3, .inl (V (a + 3))), (2, .inl z94), (1, .inl (nm (V (a + 1)) - 8)), (0, .inr (.inr (some 11)))], [.inl 0, .inr (.inr (some 11))], (I237, L238, R, Y), 0, 0) (fun _ => rfl) ?_
                refine yi_D_pi rfl (fun _ => ?_)
                generalize w257 : yi_u I237 11 7 0 = I256
                have hE258 : cs_E I237 I256 := fun p k hp0 hp1 => by rw [← w257, yi_u_ne _ _ (by omega)]
                have hW259 := cs_W_t hW252 (cs_E_F (L := L238) hE258)
                have hF260 := cs_F_t hF253 (cs_E_F hE258)
                have hf261 : I256 11 11 = 0 := (hE258 11 11 (by omega) (by omega)).trans hf244
                have hA262 := cs_A_e hA245 hE258
                have hcc263 := cc_sf (I' := I256) (v2 := 0) hcc246 (by rw [← w257, yi_u_eq]) (fun p k h => by rw [← w257, yi_u_ne _ _ h])
                refine yi_D_run 2 (103, [(4, .inl (u : Int)), (3, .inl (V (a + 3))), (2, .inl z94), (1, .inl (nm (V (a + 1)) - 8)), (0, .inr (.inr (some 11)))], [.inl 59, .inr (.inr (some 11))], (I256, L238, R, Y), 0, 0) (fun _ => rfl) ?_
                refine yi_D_callv rfl (p_takeKind_z (by omega) hW259 hf261 hA262) ?_
                rintro _ (⟨c264, I265, L266, rfl, hGa267, hf268, hA269⟩ | ⟨c270, I271, L272, rfl, hGa273, he274⟩)
                · have hA269 : cs_A I265 L266 K te (a240 + 1) := hA269
                  have hW275 := cs_W_t hW259 (cs_G_F hGa267)
                  have hF276 := cs_F_t hF260 (cs_G_F hGa267)
                  have hcc277 := cc_G hcc263 hGa267
                  have hR278 : sp_R K P V (2, a, 0, [], ld, nm, cs) (.inl (2, a240 + 1, 0, [], sp_up (sp_up (sp_up (sp_up ld (25 + 3 * (ld 5).toNat) (nm (V (a + 1)) - 8)) (26 + 3 * (ld 5).toNat) (V (a + 3))) (27 + 3 * (ld 5).toNat) cs.length) 5 ((sp_up (sp_up (sp_up ld (25 + 3 * (ld 5).toNat) (nm (V (a + 1)) - 8)) (26 + 3 * (ld 5).toNat) (V (a + 3))) (27 + 3 * (ld 5).toNat) cs.length) 5 + 1), nm, cs241 ++ [(0, 0)])) := sp_R_s hR255 (by
                    show (if K _ = 59 then _ else _) = _
                    rw [if_pos (by omega)])
                  show yi_D zi_Ms d zi_m267 k (106, [(4, .inl (u : Int)), (3, .inl (V (a + 3))), (2, .inl z94), (1, .inl (nm (V (a + 1)) - 8)), (0, .inr (.inr (some 11)))], [], (I265, L266, R, Y), 0, 0) _
                  refine yi_D_run 2 (108, [(4, .inl (u : Int)), (3, .inl (V (a + 3))), (2, .inl z94), (1, .inl (nm (V (a + 1)) - 8)), (0, .inr (.inr (some 11)))], [.inl 2, .inl z94], (I265, L266, R, Y), 0, 0) (fun _ => rfl) ?_
                  have htl279 := tl_0 (I1 := I265) hcc277.2.1
                  by_cases h280 : z94 = 2
                  · refine yi_D_if2 false rfl (yi_ne_f h280) ?_
                    refine yi_D_run 2 (113, [(4, .inl (u : Int)), (3, .inl (V (a + 3))), (2, .inl z94), (1, .inl (nm (V (a + 1)) - 8)), (0, .inr (.inr (some 11)))], [.inl 1, .inr (.inr (some 11))], (I265, L266, R, Y), 0, 0) (fun _ => rfl) ?_
                    refine yi_D_callv rfl (p_emitC hW275 hf268 htl279.1 (show u + (cs241.length - cs.length) + 0 < 1002 by omega)) ?_
                    rintro _ ⟨I281, rfl, hE282⟩
                    have hE283 := cc_E_E hE282
                    have htl284 := tl_p (e := 1) htl279 hE282
                    have hW285 := cs_W_t hW275 (cs_E_F (L := L266) hE283)
                    have hF286 := cs_F_t hF276 (cs_E_F hE283)
                    have hf287 : I281 11 11 = 0 := (hE283 11 11 (by omega) (by omega)).trans hf268
                    have hA288 := cs_A_e hA269 hE283
                    show yi_D zi_Ms d zi_m267 k (116, [(4, .inl (u : Int)), (3, .inl (V (a + 3))), (2, .inl z94), (1, .inl (nm (V (a + 1)) - 8)), (0, .inr (.inr (some 11)))], [], (I281, L266, R, Y), 0, 0) _
                    refine yi_D_run 2 (118, [(4, .inl (u : Int)), (3, .inl (V (a + 3))), (2, .inl z94), (1, .inl (nm (V (a + 1)) - 8)), (0, .inr (.inr (some 11)))], [.inl 4, .inl z94], (I281, L266, R, Y), 0, 0) (fun _ => rfl) ?_
                    have h289 : ¬ (z94 = 4) := by omega
                    refine yi_D_if2 true rfl (yi_ne_t h289) ?_
                    refine yi_D_run 1 (139, [(4, .inl (u : Int)), (3, .inl (V (a + 3))), (2, .inl z94), (1, .inl (nm (V (a + 1)) - 8)), (0, .inr (.inr (some 11)))], [.inr (.inr (some 11))], (I281, L266, R, Y), 0, 0) (fun _ => rfl) ?_
                    refine yi_D_gi (v := 0) rfl rfl rfl hf287 (fun _ => ?_)
                    refine yi_D_if1 false rfl (by decide) ?_
                    refine yi_D_run 1 (146, [(4, .inl (u : Int)), (3, .inl (V (a + 3))), (2, .inl z94), (1, .inl (nm (V (a + 1)) - 8)), (0, .inr (.inr (some 11)))], [.inr (.inr (some 11))], (I281, L266, R, Y), 0, 0) (fun _ => rfl) ?_
                    refine yi_D_gr (v := some q) rfl rfl rfl hW.2.2.1.2.1 (fun _ => ?_)
                    refine yi_D_run 4 (154, [(4, .inl (u : Int)), (3, .inl (V (a + 3))), (2, .inl z94), (1, .inl (nm (V (a + 1)) - 8)), (0, .inr (.inr (some 11)))], [.inr (.inr (some 11)), .inl (u : Int), .inl (V (a + 3)), .inl (nm (V (a + 1)) - 8), .inr (.inr (some q))], (I281, L266, R, Y), 0, 0) (fun _ => rfl) ?_
                    refine yi_D_gi (v := I281 11 3) rfl rfl rfl rfl (fun _ => ?_)
                    have h297 : (sp_up (sp_up (sp_up ld (25 + 3 * (ld 5).toNat) (nm (V (a + 1)) - 8)) (26 + 3 * (ld 5).toNat) (V (a + 3))) (27 + 3 * (ld 5).toNat) cs.length) 5 < 6 := by
                      (repeat rw [sp_up_n _ _ (by omega)])
                      omega
                    refine yi_D_callv rfl (p_addWishE (n := (ld 5).toNat) hq0 (hW285.2.2.1.2.2.1 6 (by omega)) (hW285.2.2.1.2.2.1 7 (by omega)) (hW285.2.2.1.2.2.1 10 (by omega)) (hW285.2.2.1.2.2.1 11 (by omega)) (hW285.2.2.2.1.2.2.2.2.2.trans (by (repeat rw [sp_up_n _ _ (by omega)]); omega)) (by omega)) ?_
                    rintro _ ⟨I290, rfl, e291, e292, e293, e294, e295, f296⟩
                    have ho298 : (∀ p k, (p = q → ¬ k = 19) ∧ (p ≤ q + 6 ∨ q + 14 ≤ p) → I290 p k = I281 p k) := fun p k h => f296 p k (by omega)
                    show yi_D zi_Ms d zi_m267 k (160, [(4, .inl (u : Int)), (3, .inl (V (a + 3))), (2, .inl z94), (1, .inl (nm (V (a + 1)) - 8)), (0, .inr (.inr (some 11)))], [], (I290, L266, R, Y), 0, 0) _
                    refine yi_D_retv rfl ?_
                    have hfin := cs_fin hF286 hW285 hf287 hA288 (fun p k _ h => ⟨ho298 p k (by omega), rfl⟩) (fun _ _ _ => rfl) ⟨Nat.le_refl _, fun _ _ => ⟨rfl, rfl⟩⟩ (cs_Ld_wish hW285.2.2 h297 (e295.trans (by (repeat rw [sp_up_n _ _ (by omega)]); omega)) ho298)
                    have hln2 := ln_wish hln hF276 hF286 (kd := z94) (who := nm (V (a + 1)) - 8) hk95 ⟨by omega, by omega, by omega⟩ (by omega) hcc277 htl284 (t := ([] ++ [1])) (by unfold wtl; first | (rw [if_pos (by omega)]; rfl) | (rw [if_neg (by omega), if_pos ⟨by omega, decide_eq_true (by omega)⟩]; rfl) | (rw [if_neg (by omega), if_neg (fun z => by omega)]) | (rw [if_neg (by omega), if_neg (fun z => by have := of_decide_eq_true z.2; omega)])) (n := (ld 5).toNat) (by omega) (by omega) hq0 rfl e291 e292 e293 (e294.trans htl284.1) f296 (ld' := sp_up (sp_up (sp_up (sp_up ld (25 + 3 * (ld 5).toNat) (nm (V (a + 1)) - 8)) (26 + 3 * (ld 5).toNat) (V (a + 3))) (27 + 3 * (ld 5).toNat) cs.length) 5 ((sp_up (sp_up (sp_up ld (25 + 3 * (ld 5).toNat) (nm (V (a + 1)) - 8)) (26 + 3 * (ld 5).toNat) (V (a + 3))) (27 + 3 * (ld 5).toNat) cs.length) 5 + 1)) rfl
                    have hul : u + (cs241.length - cs.length) + (([] ++ [1]) : List Nat).length = u + (cs241.length - cs.length) + 1 := rfl
                    exact ⟨_, _, _, _, _, _, rfl, hfin.1, Or.inl ⟨_, _, _, _, _, hR278, by omega, hfin.2.1, hfin.2.2.1, hfin.2.2.2, hln2, by omega⟩⟩
                  · refine yi_D_if2 true rfl (yi_ne_t h280) ?_
                    refine yi_D_run 2 (118, [(4, .inl (u : Int)), (3, .inl (V (a + 3))), (2, .inl z94), (1, .inl (nm (V (a + 1)) - 8)), (0, .inr (.inr (some 11)))], [.inl 4, .inl z94], (I265, L266, R, Y), 0, 0) (fun _ => rfl) ?_
                    by_cases h299 : z94 = 4
                    · refine yi_D_if2 false rfl (yi_ne_f h299) ?_
                      refine yi_D_run 1 (122, [(4, .inl (u : Int)), (3, .inl (V (a + 3))), (2, .inl z94), (1, .inl (nm (V (a + 1)) - 8)), (0, .inr (.inr (some 11)))], [.inr (.inr (some 11))], (I265, L266, R, Y), 0, 0) (fun _ => rfl) ?_
                      have r300 : I265 11 5 = I237 11 5 := by rw [hGa267.1 11 5 (by omega), ← w257, yi_u_ne _ _ (by omega)]
                      refine yi_D_gi (v := I237 11 5) rfl rfl rfl r300 (fun _ => ?_)
                      by_cases h301 : (I237 11 5) = 0
                      · refine yi_D_if1 true rfl (yi_eq_t h301) ?_
                        refine yi_D_run 1 (139, [(4, .inl (u : Int)), (3, .inl (V (a + 3))), (2, .inl z94), (1, .inl (nm (V (a + 1)) - 8)), (0, .inr (.inr (some 11)))], [.inr (.inr (some 11))], (I265, L266, R, Y), 0, 0) (fun _ => rfl) ?_
                        refine yi_D_gi (v := 0) rfl rfl rfl hf268 (fun _ => ?_)
                        refine yi_D_if1 false rfl (by decide) ?_
                        refine yi_D_run 1 (146, [(4, .inl (u : Int)), (3, .inl (V (a + 3))), (2, .inl z94), (1, .inl (nm (V (a + 1)) - 8)), (0, .inr (.inr (some 11)))], [.inr (.inr (some 11))], (I265, L266, R, Y), 0, 0) (fun _ => rfl) ?_
                        refine yi_D_gr (v := some q) rfl rfl rfl hW.2.2.1.2.1 (fun _ => ?_)
                        refine yi_D_run 4 (154, [(4, .inl (u : Int)), (3, .inl (V (a + 3))), (2, .inl z94), (1, .inl (nm (V (a + 1)) - 8)), (0, .inr (.inr (some 11)))], [.inr (.inr (some 11)), .inl (u : Int), .inl (V (a + 3)), .inl (nm (V (a + 1)) - 8), .inr (.inr (some q))], (I265, L266, R, Y), 0, 0) (fun _ => rfl) ?_
                        have r302 : I265 11 3 = I237 11 3 := by rw [hGa267.1 11 3 (by omega), ← w257, yi_u_ne _ _ (by omega)]
                        refine yi_D_gi (v := I237 11 3) rfl rfl rfl r302 (fun _ => ?_)
                        have h310 : (sp_up (sp_up (sp_up ld (25 + 3 * (ld 5).toNat) (nm (V (a + 1)) - 8)) (26 + 3 * (ld 5).toNat) (V (a + 3))) (27 + 3 * (ld 5).toNat) cs.length) 5 < 6 := by
                          (repeat rw [sp_up_n _ _ (by omega)])
                          omega
                        refine yi_D_callv rfl (p_addWishE (n := (ld 5).toNat) hq0 (hW275.2.2.1.2.2.1 6 (by omega)) (hW275.2.2.1.2.2.1 7 (by omega)) (hW275.2.2.1.2.2.1 10 (by omega)) (hW275.2.2.1.2.2.1 11 (by omega)) (hW275.2.2.2.1.2.2.2.2.2.trans (by (repeat rw [sp_up_n _ _ (by omega)]); omega)) (by omega)) ?_
                        rintro _ ⟨I303, rfl, e304, e305, e306, e307, e308, f309⟩
                        have ho311 : (∀ p k, (p = q → ¬ k = 19) ∧ (p ≤ q + 6 ∨ q + 14 ≤ p) → I303 p k = I265 p k) := fun p k h => f309 p k (by omega)
                        show yi_D zi_Ms d zi_m267 k (160, [(4, .inl (u : Int)), (3, .inl (V (a + 3))), (2, .inl z94), (1, .inl (nm (V (a + 1)) - 8)), (0, .inr (.inr (some 11)))], [], (I303, L266, R, Y), 0, 0) _
                        refine yi_D_retv rfl ?_
                        have hfin := cs_fin hF276 hW275 hf268 hA269 (fun p k _ h => ⟨ho311 p k (by omega), rfl⟩) (fun _ _ _ => rfl) ⟨Nat.le_refl _, fun _ _ => ⟨rfl, rfl⟩⟩ (cs_Ld_wish hW275.2.2 h310 (e308.trans (by (repeat rw [sp_up_n _ _ (by omega)]); omega)) ho311)
                        have hln2 := ln_wish hln hF276 hF276 (kd := z94) (who := nm (V (a + 1)) - 8) hk95 ⟨by omega, by omega, by omega⟩ (by omega) hcc277 htl279 (t := []) (by unfold wtl; first | (rw [if_pos (by omega)]; rfl) | (rw [if_neg (by omega), if_pos ⟨by omega, decide_eq_true (by omega)⟩]; rfl) | (rw [if_neg (by omega), if_neg (fun z => by omega)]) | (rw [if_neg (by omega), if_neg (fun z => by have := of_decide_eq_true z.2; omega)])) (n := (ld 5).toNat) (by omega) (by omega) hq0 rfl e304 e305 e306 (e307.trans hcc246.2.1) f309 (ld' := sp_up (sp_up (sp_up (sp_up ld (25 + 3 * (ld 5).toNat) (nm (V (a + 1)) - 8)) (26 + 3 * (ld 5).toNat) (V (a + 3))) (27 + 3 * (ld 5).toNat) cs.length) 5 ((sp_up (sp_up (sp_up ld (25 + 3 * (ld 5).toNat) (nm (V (a + 1)) - 8)) (26 + 3 * (ld 5).toNat) (V (a + 3))) (27 + 3 * (ld 5).toNat) cs.length) 5 + 1)) rfl
                        have hul : u + (cs241.length - cs.length) + ([] : List Nat).length = u + (cs241.length - cs.length) + 0 := rfl
                        exact ⟨_, _, _, _, _, _, rfl, hfin.1, Or.inl ⟨_, _, _, _, _, hR278, by omega, hfin.2.1, hfin.2.2.1, hfin.2.2.2, hln2, by omega⟩⟩
                      · refine yi_D_if1 false rfl (yi_eq_f h301) ?_
                        refine yi_D_run 2 (130, [(4, .inl (u : Int)), (3, .inl (V (a + 3))), (2, .inl z94), (1, .inl (nm (V (a + 1)) - 8)), (0, .inr (.inr (some 11)))], [.inl 0, .inr (.inr (some 11))], (I265, L266, R, Y), 0, 0) (fun _ => rfl) ?_
                        refine yi_D_callv rfl (p_emitC hW275 hf268 htl279.1 (show u + (cs241.length - cs.length) + 0 < 1002 by omega)) ?_
                        rintro _ ⟨I312, rfl, hE313⟩
                        have hE314 := cc_E_E hE313
                        have htl315 := tl_p (e := 0) htl279 hE313
                        have hW316 := cs_W_t hW275 (cs_E_F (L := L266) hE314)
                        have hF317 := cs_F_t hF276 (cs_E_F hE314)
                        have hf318 : I312 11 11 = 0 := (hE314 11 11 (by omega) (by omega)).trans hf268
                        have hA319 := cs_A_e hA269 hE314
                        show yi_D zi_Ms d zi_m267 k (133, [(4, .inl (u : Int)), (3, .inl (V (a + 3))), (2, .inl z94), (1, .inl (nm (V (a + 1)) - 8)), (0, .inr (.inr (some 11)))], [], (I312, L266, R, Y), 0, 0) _
                        refine yi_D_run 2 (135, [(4, .inl (u : Int)), (3, .inl (V (a + 3))), (2, .inl z94), (1, .inl (nm (V (a + 1)) - 8)), (0, .inr (.inr (some 11)))], [.inl 2, .inr (.inr (some 11))], (I312, L266, R, Y), 0, 0) (fun _ => rfl) ?_
                        refine yi_D_callv rfl (p_emitC hW316 hf318 htl315.1 (show u + (cs241.length - cs.length) + 1 < 1002 by omega)) ?_
                        rintro _ ⟨I320, rfl, hE321⟩
                        have hE322 := cc_E_E hE321
                        have htl323 := tl_p (e := 2) htl315 hE321
                        have hW324 := cs_W_t hW316 (cs_E_F (L := L266) hE322)
                        have hF325 := cs_F_t hF317 (cs_E_F hE322)
                        have hf326 : I320 11 11 = 0 := (hE322 11 11 (by omega) (by omega)).trans hf318
                        have hA327 := cs_A_e hA319 hE322
                        show yi_D zi_Ms d zi_m267 k (138, [(4, .inl (u : Int)), (3, .inl (V (a + 3))), (2, .inl z94), (1, .inl (nm (V (a + 1)) - 8)), (0, .inr (.inr (some 11)))], [], (I320, L266, R, Y), 0, 0) _
                        refine yi_D_run 1 (139, [(4, .inl (u : Int)), (3, .inl (V (a + 3))), (2, .inl z94), (1, .inl (nm (V (a + 1)) - 8)), (0, .inr (.inr (some 11)))], [.inr (.inr (some 11))], (I320, L266, R, Y), 0, 0) (fun _ => rfl) ?_
                        refine yi_D_gi (v := 0) rfl rfl rfl hf326 (fun _ => ?_)
                        refine yi_D_if1 false rfl (by decide) ?_
                        refine yi_D_run 1 (146, [(4, .inl (u : Int)), (3, .inl (V (a + 3))), (2, .inl z94), (1, .inl (nm (V (a + 1)) - 8)), (0, .inr (.inr (some 11)))], [.inr (.inr (some 11))], (I320, L266, R, Y), 0, 0) (fun _ => rfl) ?_
                        refine yi_D_gr (v := some q) rfl rfl rfl hW.2.2.1.2.1 (fun _ => ?_)
                        refine yi_D_run 4 (154, [(4, .inl (u : Int)), (3, .inl (V (a + 3))), (2, .inl z94), (1, .inl (nm (V (a + 1)) - 8)), (0, .inr (.inr (some 11)))], [.inr (.inr (some 11)), .inl (u : Int), .inl (V (a + 3)), .inl (nm (V (a + 1)) - 8), .inr (.inr (some q))], (I320, L266, R, Y), 0, 0) (fun _ => rfl) ?_
                        refine yi_D_gi (v := I320 11 3) rfl rfl rfl rfl (fun _ => ?_)
                        have h335 : (sp_up (sp_up (sp_up ld (25 + 3 * (ld 5).toNat) (nm (V (a + 1)) - 8)) (26 + 3 * (ld 5).toNat) (V (a + 3))) (27 + 3 * (ld 5).toNat) cs.length) 5 < 6 := by
                          (repeat rw [sp_up_n _ _ (by omega)])
                          omega
                        refine yi_D_callv rfl (p_addWishE (n := (ld 5).toNat) hq0 (hW324.2.2.1.2.2.1 6 (by omega)) (hW324.2.2.1.2.2.1 7 (by omega)) (hW324.2.2.1.2.2.1 10 (by omega)) (hW324.2.2.1.2.2.1 11 (by omega)) (hW324.2.2.2.1.2.2.2.2.2.trans (by (repeat rw [sp_up_n _ _ (by omega)]); omega)) (by omega)) ?_
                        rintro _ ⟨I328, rfl, e329, e330, e331, e332, e333, f334⟩
                        have ho336 : (∀ p k, (p = q → ¬ k = 19) ∧ (p ≤ q + 6 ∨ q + 14 ≤ p) → I328 p k = I320 p k) := fun p k h => f334 p k (by omega)
                        show yi_D zi_Ms d zi_m267 k (160, [(4, .inl (u : Int)), (3, .inl (V (a + 3))), (2, .inl z94), (1, .inl (nm (V (a + 1)) - 8)), (0, .inr (.inr (some 11)))], [], (I328, L266, R, Y), 0, 0) _
                        refine yi_D_retv rfl ?_
                        have hfin := cs_fin hF325 hW324 hf326 hA327 (fun p k _ h => ⟨ho336 p k (by omega), rfl⟩) (fun _ _ _ => rfl) ⟨Nat.le_refl _, fun _ _ => ⟨rfl, rfl⟩⟩ (cs_Ld_wish hW324.2.2 h335 (e333.trans (by (repeat rw [sp_up_n _ _ (by omega)]); omega)) ho336)
                        have hln2 := ln_wish hln hF276 hF325 (kd := z94) (who := nm (V (a + 1)) - 8) hk95 ⟨by omega, by omega, by omega⟩ (by omega) hcc277 htl323 (t := (([] ++ [0]) ++ [2])) (by unfold wtl; first | (rw [if_pos (by omega)]; rfl) | (rw [if_neg (by omega), if_pos ⟨by omega, decide_eq_true (by omega)⟩]; rfl) | (rw [if_neg (by omega), if_neg (fun z => by omega)]) | (rw [if_neg (by omega), if_neg (fun z => by have := of_decide_eq_true z.2; omega)])) (n := (ld 5).toNat) (by omega) (by omega) hq0 rfl e329 e330 e331 (e332.trans htl323.1) f334 (ld' := sp_up (sp_up (sp_up (sp_up ld (25 + 3 * (ld 5).toNat) (nm (V (a + 1)) - 8)) (26 + 3 * (ld 5).toNat) (V (a + 3))) (27 + 3 * (ld 5).toNat) cs.length) 5 ((sp_up (sp_up (sp_up ld (25 + 3 * (ld 5).toNat) (nm (V (a + 1)) - 8)) (26 + 3 * (ld 5).toNat) (V (a + 3))) (27 + 3 * (ld 5).toNat) cs.length) 5 + 1)) rfl
                        have hul : u + (cs241.length - cs.length) + ((([] ++ [0]) ++ [2]) : List Nat).length = u + (cs241.length - cs.length) + 2 := rfl
                        exact ⟨_, _, _, _, _, _, rfl, hfin.1, Or.inl ⟨_, _, _, _, _, hR278, by omega, hfin.2.1, hfin.2.2.1, hfin.2.2.2, hln2, by omega⟩⟩
                    · refine yi_D_if2 true rfl (yi_ne_t h299) ?_
                      refine yi_D_run 1 (139, [(4, .inl (u : Int)), (3, .inl (V (a + 3))), (2, .inl z94), (1, .inl (nm (V (a + 1)) - 8)), (0, .inr (.inr (some 11)))], [.inr (.inr (some 11))], (I265, L266, R, Y), 0, 0) (fun _ => rfl) ?_
                      refine yi_D_gi (v := 0) rfl rfl rfl hf268 (fun _ => ?_)
                      refine yi_D_if1 false rfl (by decide) ?_
                      refine yi_D_run 1 (146, [(4, .inl (u : Int)), (3, .inl (V (a + 3))), (2, .inl z94), (1, .inl (nm (V (a + 1)) - 8)), (0, .inr (.inr (some 11)))], [.inr (.inr (some 11))], (I265, L266, R, Y), 0, 0) (fun _ => rfl) ?_
                      refine yi_D_gr (v := some q) rfl rfl rfl hW.2.2.1.2.1 (fun _ => ?_)
                      refine yi_D_run 4 (154, [(4, .inl (u : Int)), (3, .inl (V (a + 3))), (2, .inl z94), (1, .inl (nm (V (a + 1)) - 8)), (0, .inr (.inr (some 11)))], [.inr (.inr (some 11)), .inl (u : Int), .inl (V (a + 3)), .inl (nm (V (a + 1)) - 8), .inr (.inr (some q))], (I265, L266, R, Y), 0, 0) (fun _ => rfl) ?_
                      have r337 : I265 11 3 = I237 11 3 := by rw [hGa267.1 11 3 (by omega), ← w257, yi_u_ne _ _ (by omega)]
                      refine yi_D_gi (v := I237 11 3) rfl rfl rfl r337 (fun _ => ?_)
                      have h345 : (sp_up (sp_up (sp_up ld (25 + 3 * (ld 5).toNat) (nm (V (a + 1)) - 8)) (26 + 3 * (ld 5).toNat) (V (a + 3))) (27 + 3 * (ld 5).toNat) cs.length) 5 < 6 := by
                        (repeat rw [sp_up_n _ _ (by omega)])
                        omega
                      refine yi_D_callv rfl (p_addWishE (n := (ld 5).toNat) hq0 (hW275.2.2.1.2.2.1 6 (by omega)) (hW275.2.2.1.2.2.1 7 (by omega)) (hW275.2.2.1.2.2.1 10 (by omega)) (hW275.2.2.1.2.2.1 11 (by omega)) (hW275.2.2.2.1.2.2.2.2.2.trans (by (repeat rw [sp_up_n _ _ (by omega)]); omega)) (by omega)) ?_
                      rintro _ ⟨I338, rfl, e339, e340, e341, e342, e343, f344⟩
                      have ho346 : (∀ p k, (p = q → ¬ k = 19) ∧ (p ≤ q + 6 ∨ q + 14 ≤ p) → I338 p k = I265 p k) := fun p k h => f344 p k (by omega)
                      show yi_D zi_Ms d zi_m267 k (160, [(4, .inl (u : Int)), (3, .inl (V (a + 3))), (2, .inl z94), (1, .inl (nm (V (a + 1)) - 8)), (0, .inr (.inr (some 11)))], [], (I338, L266, R, Y), 0, 0) _
                      refine yi_D_retv rfl ?_
                      have hfin := cs_fin hF276 hW275 hf268 hA269 (fun p k _ h => ⟨ho346 p k (by omega), rfl⟩) (fun _ _ _ => rfl) ⟨Nat.le_refl _, fun _ _ => ⟨rfl, rfl⟩⟩ (cs_Ld_wish hW275.2.2 h345 (e343.trans (by (repeat rw [sp_up_n _ _ (by omega)]); omega)) ho346)
                      have hln2 := ln_wish hln hF276 hF276 (kd := z94) (who := nm (V (a + 1)) - 8) hk95 ⟨by omega, by omega, by omega⟩ (by omega) hcc277 htl279 (t := []) (by unfold wtl; first | (rw [if_pos (by omega)]; rfl) | (rw [if_neg (by omega), if_pos ⟨by omega, decide_eq_true (by omega)⟩]; rfl) | (rw [if_neg (by omega), if_neg (fun z => by omega)]) | (rw [if_neg (by omega), if_neg (fun z => by have := of_decide_eq_true z.2; omega)])) (n := (ld 5).toNat) (by omega) (by omega) hq0 rfl e339 e340 e341 (e342.trans hcc246.2.1) f344 (ld' := sp_up (sp_up (sp_up (sp_up ld (25 + 3 * (ld 5).toNat) (nm (V (a + 1)) - 8)) (26 + 3 * (ld 5).toNat) (V (a + 3))) (27 + 3 * (ld 5).toNat) cs.length) 5 ((sp_up (sp_up (sp_up ld (25 + 3 * (ld 5).toNat) (nm (V (a + 1)) - 8)) (26 + 3 * (ld 5).toNat) (V (a + 3))) (27 + 3 * (ld 5).toNat) cs.length) 5 + 1)) rfl
                      have hul : u + (cs241.length - cs.length) + ([] : List Nat).length = u + (cs241.length - cs.length) + 0 := rfl
                      exact ⟨_, _, _, _, _, _, rfl, hfin.1, Or.inl ⟨_, _, _, _, _, hR278, by omega, hfin.2.1, hfin.2.2.1, hfin.2.2.2, hln2, by omega⟩⟩
                · have hW347 := cs_W_t hW259 (cs_G_F hGa273)
                  have hF348 := cs_F_t hF260 (cs_G_F hGa273)
                  have hz349 : ¬ sp_f P a240 1 = 0 := sp_f_ne hW259 hA262.2.1 (by omega)
                  have hn350 : ¬ I271 11 11 = 0 := by rw [he274]; exact hz349
                  have hx351 : sp_R K P V (2, a, 0, [], ld, nm, cs) (.inr (sp_f P a240 1)) := sp_R_s hR255 (by
                    show (if K _ = 59 then _ else _) = _
                    rw [if_neg (by omega)])
                  show yi_D zi_Ms d zi_m267 k (106, [(4, .inl (u : Int)), (3, .inl (V (a + 3))), (2, .inl z94), (1, .inl (nm (V (a + 1)) - 8)), (0, .inr (.inr (some 11)))], [], (I271, L272, R, Y), 0, 0) _
                  exact yi_D_mono (jn106f (u : Int) (V (a + 3)) z94 (nm (V (a + 1)) - 8) _ _ _ hF348 he274 hz349 hx351 ) (by omega)
              · have hW352 := cs_W_t hW235 hFr239
                have hF353 := cs_F_t hF231 hFr239
                have hF354 : ∀ p k, (p ≠ 11 ∧ p ≠ 19) → I237 p k = I227 p k := fun p k h => hFr239.1 p k h.1 h.2
                have hn355 : ¬ I237 11 11 = 0 := by rw [he251]; exact hz250
                have hx356 : sp_R K P V (2, a, 0, [], ld, nm, cs) (.inr f248) := sp_R_t hst134 hR249
                show yi_D zi_Ms d zi_m267 k (95, [(4, .inl (u : Int)), (3, .inl (V (a + 3))), (2, .inl z94), (1, .inl (nm (V (a + 1)) - 8)), (0, .inr (.inr (some 11)))], [], (I237, L238, R, Y), 0, 0) _
                refine yi_D_run 2 (97, [(4, .inl (u : Int)), (3, .inl (V (a + 3))), (2, .inl z94), (1, .inl (nm (V (a + 1)) - 8)), (0, .inr (.inr (some 11)))], [.inl 0, .inr (.inr (some 11))], (I237, L238, R, Y), 0, 0) (fun _ => rfl) ?_
                refine yi_D_pi rfl (fun _ => ?_)
                generalize w358 : yi_u I237 11 7 0 = I357
                have hE359 : cs_E I237 I357 := fun p k hp0 hp1 => by rw [← w358, yi_u_ne _ _ (by omega)]
                have hW360 := cs_W_t hW352 (cs_E_F (L := L238) hE359)
                have hF361 := cs_F_t hF353 (cs_E_F hE359)
                have hf362 : ¬ I357 11 11 = 0 := by rw [hE359 11 11 (by omega) (by omega)]; exact hn355
                have he363 := (hE359 11 11 (by omega) (by omega)).trans he251
                refine yi_D_run 2 (103, [(4, .inl (u : Int)), (3, .inl (V (a + 3))), (2, .inl z94), (1, .inl (nm (V (a + 1)) - 8)), (0, .inr (.inr (some 11)))], [.inl 59, .inr (.inr (some 11))], (I357, L238, R, Y), 0, 0) (fun _ => rfl) ?_
                refine yi_D_callv rfl (p_takeKind_f hW360 hf362) ?_
                rintro _ rfl
                show yi_D zi_Ms d zi_m267 k (106, [(4, .inl (u : Int)), (3, .inl (V (a + 3))), (2, .inl z94), (1, .inl (nm (V (a + 1)) - 8)), (0, .inr (.inr (some 11)))], [], (I357, L238, R, Y), 0, 0) _
                exact yi_D_mono (jn106f (u : Int) (V (a + 3)) z94 (nm (V (a + 1)) - 8) _ _ _ hF361 he363 hz250 hx356 ) (by omega)
          · have hW364 := cs_W_t hW107 (cs_G_F hGa121)
            have hF365 := cs_F_t hF108 (cs_G_F hGa121)
            have hG366 := cs_G_t hG109 hGa121
            have hz367 : ¬ sp_f P (a + 3) 1 = 0 := sp_f_ne hW107 hA101.2.1 (by omega)
            have hn368 : ¬ I119 11 11 = 0 := by rw [he122]; exact hz367
            have hx369 : sp_R K P V (2, a, 0, [], ld, nm, cs) (.inr (sp_f P (a + 3) 1)) := sp_R_1 (by
              show sp_line K P V a ld nm cs = _
              first
              | (exfalso; omega)
              | (unfold sp_line; repeat (first | rw [if_pos (by omega)] | rw [if_neg (by omega)]); unfold sp_wish; repeat (first | rw [if_pos (by omega)] | rw [if_neg (by omega)])))
            show yi_D zi_Ms d zi_m267 k (64, [(2, .inl z94), (1, .inl (nm (V (a + 1)) - 8)), (0, .inr (.inr (some 11)))], [.inl z123], (I119, L120, R, Y), 0, 0) _
            refine yi_D_run 2 (66, [(3, .inl z123), (2, .inl z94), (1, .inl (nm (V (a + 1)) - 8)), (0, .inr (.inr (some 11)))], [.inr (.inr (some 11))], (I119, L120, R, Y), 0, 0) (fun _ => rfl) ?_
            
            have r370 : I119 11 3 = (u : Int) := by rw [hGa121.1 11 3 (by omega), hGa99.1 11 3 (by omega), hGa75.1 11 3 (by omega), hGa58.1 11 3 (by omega), hln.1.1]
            refine yi_D_gi (v := (u : Int)) rfl rfl rfl r370 (fun _ => ?_)
            refine yi_D_run 3 (73, [(4, .inl (u : Int)), (3, .inl z123), (2, .inl z94), (1, .inl (nm (V (a + 1)) - 8)), (0, .inr (.inr (some 11)))], [.inl 0, .inr (.inr (some 11))], (I119, L120, R, Y), 0, 0) (fun _ => rfl) ?_
            refine yi_D_pi rfl (fun _ => ?_)
            generalize w372 : yi_u I119 11 5 0 = I371
            have hE373 : cs_E I119 I371 := fun p k hp0 hp1 => by rw [← w372, yi_u_ne _ _ (by omega)]
            have hW374 := cs_W_t hW364 (cs_E_F (L := L120) hE373)
            have hF375 := cs_F_t hF365 (cs_E_F hE373)
            have hf376 : ¬ I371 11 11 = 0 := by rw [hE373 11 11 (by omega) (by omega)]; exact hn368
            have he377 := (hE373 11 11 (by omega) (by omega)).trans he122
            refine yi_D_run 3 (79, [(4, .inl (u : Int)), (3, .inl z123), (2, .inl z94), (1, .inl (nm (V (a + 1)) - 8)), (0, .inr (.inr (some 11)))], [.inl 1, .inl z94, .inr (.inr (some 11))], (I371, L120, R, Y), 0, 0) (fun _ => rfl) ?_
            by_cases h378 : z94 = 1
            · refine yi_D_if2 false rfl (yi_ne_f h378) ?_
              refine yi_D_run 2 (87, [(4, .inl (u : Int)), (3, .inl z123), (2, .inl z94), (1, .inl (nm (V (a + 1)) - 8)), (0, .inr (.inr (some 11)))], [.inl 1, .inr (.inr (some 11))], (I371, L120, R, Y), 0, 0) (fun _ => rfl) ?_
              refine yi_D_pi rfl (fun _ => ?_)
              generalize w380 : yi_u I371 11 7 1 = I379
              have hE381 : cs_E I371 I379 := fun p k hp0 hp1 => by rw [← w380, yi_u_ne _ _ (by omega)]
              have hW382 := cs_W_t hW374 (cs_E_F (L := L120) hE381)
              have hF383 := cs_F_t hF375 (cs_E_F hE381)
              have hf384 : ¬ I379 11 11 = 0 := by rw [hE381 11 11 (by omega) (by omega)]; exact hf376
              have he385 := (hE381 11 11 (by omega) (by omega)).trans he377
              exact yi_D_mono (jn90f (u : Int) z123 z94 (nm (V (a + 1)) - 8) _ _ _ hF383 he385 hz367 hx369 ) (by omega)
            · refine yi_D_if2 true rfl (yi_ne_t h378) ?_
              refine yi_D_run 1 (87, [(4, .inl (u : Int)), (3, .inl z123), (2, .inl z94), (1, .inl (nm (V (a + 1)) - 8)), (0, .inr (.inr (some 11)))], [.inl 0, .inr (.inr (some 11))], (I371, L120, R, Y), 0, 0) (fun _ => rfl) ?_
              refine yi_D_pi rfl (fun _ => ?_)
              generalize w387 : yi_u I371 11 7 0 = I386
              have hE388 : cs_E I371 I386 := fun p k hp0 hp1 => by rw [← w387, yi_u_ne _ _ (by omega)]
              have hW389 := cs_W_t hW374 (cs_E_F (L := L120) hE388)
              have hF390 := cs_F_t hF375 (cs_E_F hE388)
              have hf391 : ¬ I386 11 11 = 0 := by rw [hE388 11 11 (by omega) (by omega)]; exact hf376
              have he392 := (hE388 11 11 (by omega) (by omega)).trans he377
              exact yi_D_mono (jn90f (u : Int) z123 z94 (nm (V (a + 1)) - 8) _ _ _ hF390 he392 hz367 hx369 ) (by omega)
          · have hW393 := cs_W_t hW107 (cs_G_F hGa127)
            have hF394 := cs_F_t hF108 (cs_G_F hGa127)
            have hG395 := cs_G_t hG109 hGa127
            have hz396 : ¬ sp_f P (a + 3) 4 = 0 := sp_f_ne hW107 hA101.2.1 (by omega)
            have hn397 : ¬ I125 11 11 = 0 := by rw [he128]; exact hz396
            have hx398 : sp_R K P V (2, a, 0, [], ld, nm, cs) (.inr (sp_f P (a + 3) 4)) := sp_R_1 (by
              show sp_line K P V a ld nm cs = _
              first
              | (exfalso; omega)
              | (unfold sp_line; repeat (first | rw [if_pos (by omega)] | rw [if_neg (by omega)]); unfold sp_wish; repeat (first | rw [if_pos (by omega)] | rw [if_neg (by omega)])))
            show yi_D zi_Ms d zi_m267 k (64, [(2, .inl z94), (1, .inl (nm (V (a + 1)) - 8)), (0, .inr (.inr (some 11)))], [.inl z129], (I125, L126, R, Y), 0, 0) _
            refine yi_D_run 2 (66, [(3, .inl z129), (2, .inl z94), (1, .inl (nm (V (a + 1)) - 8)), (0, .inr (.inr (some 11)))], [.inr (.inr (some 11))], (I125, L126, R, Y), 0, 0) (fun _ => rfl) ?_
            
            have r399 : I125 11 3 = (u : Int) := by rw [hGa127.1 11 3 (by omega), hGa99.1 11 3 (by omega), hGa75.1 11 3 (by omega), hGa58.1 11 3 (by omega), hln.1.1]
            refine yi_D_gi (v := (u : Int)) rfl rfl rfl r399 (fun _ => ?_)
            refine yi_D_run 3 (73, [(4, .inl (u : Int)), (3, .inl z129), (2, .inl z94), (1, .inl (nm (V (a + 1)) - 8)), (0, .inr (.inr (some 11)))], [.inl 0, .inr (.inr (some 11))], (I125, L126, R, Y), 0, 0) (fun _ => rfl) ?_
            refine yi_D_pi rfl (fun _ => ?_)
            generalize w401 : yi_u I125 11 5 0 = I400
            have hE402 : cs_E I125 I400 := fun p k hp0 hp1 => by rw [← w401, yi_u_ne _ _ (by omega)]
            have hW403 := cs_W_t hW393 (cs_E_F (L := L126) hE402)
            have hF404 := cs_F_t hF394 (cs_E_F hE402)
            have hf405 : ¬ I400 11 11 = 0 := by rw [hE402 11 11 (by omega) (by omega)]; exact hn397
            have he406 := (hE402 11 11 (by omega) (by omega)).trans he128
            refine yi_D_run 3 (79, [(4, .inl (u : Int)), (3, .inl z129), (2, .inl z94), (1, .inl (nm (V (a + 1)) - 8)), (0, .inr (.inr (some 11)))], [.inl 1, .inl z94, .inr (.inr (some 11))], (I400, L126, R, Y), 0, 0) (fun _ => rfl) ?_
            by_cases h407 : z94 = 1
            · refine yi_D_if2 false rfl (yi_ne_f h407) ?_
              refine yi_D_run 2 (87, [(4, .inl (u : Int)), (3, .inl z129), (2, .inl z94), (1, .inl (nm (V (a + 1)) - 8)), (0, .inr (.inr (some 11)))], [.inl 1, .inr (.inr (some 11))], (I400, L126, R, Y), 0, 0) (fun _ => rfl) ?_
              refine yi_D_pi rfl (fun _ => ?_)
              generalize w409 : yi_u I400 11 7 1 = I408
              have hE410 : cs_E I400 I408 := fun p k hp0 hp1 => by rw [← w409, yi_u_ne _ _ (by omega)]
              have hW411 := cs_W_t hW403 (cs_E_F (L := L126) hE410)
              have hF412 := cs_F_t hF404 (cs_E_F hE410)
              have hf413 : ¬ I408 11 11 = 0 := by rw [hE410 11 11 (by omega) (by omega)]; exact hf405
              have he414 := (hE410 11 11 (by omega) (by omega)).trans he406
              exact yi_D_mono (jn90f (u : Int) z129 z94 (nm (V (a + 1)) - 8) _ _ _ hF412 he414 hz396 hx398 ) (by omega)
            · refine yi_D_if2 true rfl (yi_ne_t h407) ?_
              refine yi_D_run 1 (87, [(4, .inl (u : Int)), (3, .inl z129), (2, .inl z94), (1, .inl (nm (V (a + 1)) - 8)), (0, .inr (.inr (some 11)))], [.inl 0, .inr (.inr (some 11))], (I400, L126, R, Y), 0, 0) (fun _ => rfl) ?_
              refine yi_D_pi rfl (fun _ => ?_)
              generalize w416 : yi_u I400 11 7 0 = I415
              have hE417 : cs_E I400 I415 := fun p k hp0 hp1 => by rw [← w416, yi_u_ne _ _ (by omega)]
              have hW418 := cs_W_t hW403 (cs_E_F (L := L126) hE417)
              have hF419 := cs_F_t hF404 (cs_E_F hE417)
              have hf420 : ¬ I415 11 11 = 0 := by rw [hE417 11 11 (by omega) (by omega)]; exact hf405
              have he421 := (hE417 11 11 (by omega) (by omega)).trans he406
              exact yi_D_mono (jn90f (u : Int) z129 z94 (nm (V (a + 1)) - 8) _ _ _ hF419 he421 hz396 hx398 ) (by omega)
        · have hW422 := cs_W_t hW90 (cs_G_F hGa105)
          have hF423 := cs_F_t hF91 (cs_G_F hGa105)
          have hG424 := cs_G_t hG92 hGa105
          have hz425 : ¬ sp_f P (a + 2) 1 = 0 := sp_f_ne hW90 hA77.2.1 (by omega)
          have hn426 : ¬ I103 11 11 = 0 := by rw [he106]; exact hz425
          have hx427 : sp_R K P V (2, a, 0, [], ld, nm, cs) (.inr (sp_f P (a + 2) 1)) := sp_R_1 (by
            show sp_line K P V a ld nm cs = _
            first
            | (exfalso; omega)
            | (unfold sp_line; repeat (first | rw [if_pos (by omega)] | rw [if_neg (by omega)]); unfold sp_wish; repeat (first | rw [if_pos (by omega)] | rw [if_neg (by omega)])))
          show yi_D zi_Ms d zi_m267 k (57, [(2, .inl z94), (1, .inl (nm (V (a + 1)) - 8)), (0, .inr (.inr (some 11)))], [], (I103, L104, R, Y), 0, 0) _
          refine yi_D_run 3 (61, [(2, .inl z94), (1, .inl (nm (V (a + 1)) - 8)), (0, .inr (.inr (some 11)))], [.inl 99, .inl 0, .inr (.inr (some 11))], (I103, L104, R, Y), 0, 0) (fun _ => rfl) ?_
          refine yi_D_callv rfl (p_takeNumber_f hW422 hn426) ?_
          rintro _ ⟨z428, rfl⟩
          show yi_D zi_Ms d zi_m267 k (64, [(2, .inl z94), (1, .inl (nm (V (a + 1)) - 8)), (0, .inr (.inr (some 11)))], [.inl z428], (I103, L104, R, Y), 0, 0) _
          refine yi_D_run 2 (66, [(3, .inl z428), (2, .inl z94), (1, .inl (nm (V (a + 1)) - 8)), (0, .inr (.inr (some 11)))], [.inr (.inr (some 11))], (I103, L104, R, Y), 0, 0) (fun _ => rfl) ?_
          
          have r429 : I103 11 3 = (u : Int) := by rw [hGa105.1 11 3 (by omega), hGa75.1 11 3 (by omega), hGa58.1 11 3 (by omega), hln.1.1]
          refine yi_D_gi (v := (u : Int)) rfl rfl rfl r429 (fun _ => ?_)
          refine yi_D_run 3 (73, [(4, .inl (u : Int)), (3, .inl z428), (2, .inl z94), (1, .inl (nm (V (a + 1)) - 8)), (0, .inr (.inr (some 11)))], [.inl 0, .inr (.inr (some 11))], (I103, L104, R, Y), 0, 0) (fun _ => rfl) ?_
          refine yi_D_pi rfl (fun _ => ?_)
          generalize w431 : yi_u I103 11 5 0 = I430
          have hE432 : cs_E I103 I430 := fun p k hp0 hp1 => by rw [← w431, yi_u_ne _ _ (by omega)]
          have hW433 := cs_W_t hW422 (cs_E_F (L := L104) hE432)
          have hF434 := cs_F_t hF423 (cs_E_F hE432)
          have hf435 : ¬ I430 11 11 = 0 := by rw [hE432 11 11 (by omega) (by omega)]; exact hn426
          have he436 := (hE432 11 11 (by omega) (by omega)).trans he106
          refine yi_D_run 3 (79, [(4, .inl (u : Int)), (3, .inl z428), (2, .inl z94), (1, .inl (nm (V (a + 1)) - 8)), (0, .inr (.inr (some 11)))], [.inl 1, .inl z94, .inr (.inr (some 11))], (I430, L104, R, Y), 0, 0) (fun _ => rfl) ?_
          by_cases h437 : z94 = 1
          · refine yi_D_if2 false rfl (yi_ne_f h437) ?_
            refine yi_D_run 2 (87, [(4, .inl (u : Int)), (3, .inl z428), (2, .inl z94), (1, .inl (nm (V (a + 1)) - 8)), (0, .inr (.inr (some 11)))], [.inl 1, .inr (.inr (some 11))], (I430, L104, R, Y), 0, 0) (fun _ => rfl) ?_
            refine yi_D_pi rfl (fun _ => ?_)
            generalize w439 : yi_u I430 11 7 1 = I438
            have hE440 : cs_E I430 I438 := fun p k hp0 hp1 => by rw [← w439, yi_u_ne _ _ (by omega)]
            have hW441 := cs_W_t hW433 (cs_E_F (L := L104) hE440)
            have hF442 := cs_F_t hF434 (cs_E_F hE440)
            have hf443 : ¬ I438 11 11 = 0 := by rw [hE440 11 11 (by omega) (by omega)]; exact hf435
            have he444 := (hE440 11 11 (by omega) (by omega)).trans he436
            exact yi_D_mono (jn90f (u : Int) z428 z94 (nm (V (a + 1)) - 8) _ _ _ hF442 he444 hz425 hx427 ) (by omega)
          · refine yi_D_if2 true rfl (yi_ne_t h437) ?_
            refine yi_D_run 1 (87, [(4, .inl (u : Int)), (3, .inl z428), (2, .inl z94), (1, .inl (nm (V (a + 1)) - 8)), (0, .inr (.inr (some 11)))], [.inl 0, .inr (.inr (some 11))], (I430, L104, R, Y), 0, 0) (fun _ => rfl) ?_
            refine yi_D_pi rfl (fun _ => ?_)
            generalize w446 : yi_u I430 11 7 0 = I445
            have hE447 : cs_E I430 I445 := fun p k hp0 hp1 => by rw [← w446, yi_u_ne _ _ (by omega)]
            have hW448 := cs_W_t hW433 (cs_E_F (L := L104) hE447)
            have hF449 := cs_F_t hF434 (cs_E_F hE447)
            have hf450 : ¬ I445 11 11 = 0 := by rw [hE447 11 11 (by omega) (by omega)]; exact hf435
            have he451 := (hE447 11 11 (by omega) (by omega)).trans he436
            exact yi_D_mono (jn90f (u : Int) z428 z94 (nm (V (a + 1)) - 8) _ _ _ hF449 he451 hz425 hx427 ) (by omega)
      · have hW452 := cs_W_t hW66 (cs_G_F hGa81)
        have hF453 := cs_F_t hF67 (cs_G_F hGa81)
        have hG454 := cs_G_t hG68 hGa81
        have hz455 : ¬ sp_f P (a + 1) 1 = 0 := sp_f_ne hW66 hA60.2.1 (by omega)
        have hn456 : ¬ I79 11 11 = 0 := by rw [he82]; exact hz455
        have hx457 : sp_R K P V (2, a, 0, [], ld, nm, cs) (.inr (sp_f P (a + 1) 1)) := sp_R_1 (by
          show sp_line K P V a ld nm cs = _
          first
          | (exfalso; omega)
          | (unfold sp_line; repeat (first | rw [if_pos (by omega)] | rw [if_neg (by omega)]); unfold sp_wish; repeat (first | rw [if_pos (by omega)] | rw [if_neg (by omega)])))
        show yi_D zi_Ms d zi_m267 k (41, [(0, .inr (.inr (some 11)))], [.inl z83], (I79, L80, R, Y), 0, 0) _
        refine yi_D_run 2 (43, [(1, .inl z83), (0, .inr (.inr (some 11)))], [.inr (.inr (some 11))], (I79, L80, R, Y), 0, 0) (fun _ => rfl) ?_
        refine yi_D_gr (v := some q) rfl rfl rfl hW.2.2.1.2.1 (fun _ => ?_)
        refine yi_D_run 1 (47, [(1, .inl z83), (0, .inr (.inr (some 11)))], [.inl z83, .inr (.inr (some q))], (I79, L80, R, Y), 0, 0) (fun _ => rfl) ?_
        refine yi_D_callv rfl (p_kindOf_w hW452) ?_
        rintro _ ⟨z458, rfl⟩
        show yi_D zi_Ms d zi_m267 k (50, [(1, .inl z83), (0, .inr (.inr (some 11)))], [.inl z458], (I79, L80, R, Y), 0, 0) _
        refine yi_D_run 1 (51, [(2, .inl z458), (1, .inl z83), (0, .inr (.inr (some 11)))], [], (I79, L80, R, Y), 0, 0) (fun _ => rfl) ?_
        exact yi_D_mono (jn51f z458 z83 _ _ _ hF453 he82 hz455 hx457 ) (by omega)
      · have hW459 := cs_W_t hW66 (cs_G_F hGa87)
        have hF460 := cs_F_t hF67 (cs_G_F hGa87)
        have hG461 := cs_G_t hG68 hGa87
        have hz462 : ¬ sp_f P (a + 1) 2 = 0 := sp_f_ne hW66 hA60.2.1 (by omega)
        have hn463 : ¬ I85 11 11 = 0 := by rw [he88]; exact hz462
        have hx464 : sp_R K P V (2, a, 0, [], ld, nm, cs) (.inr (sp_f P (a + 1) 2)) := sp_R_1 (by
          show sp_line K P V a ld nm cs = _
          first
          | (exfalso; omega)
          | (unfold sp_line; repeat (first | rw [if_pos (by omega)] | rw [if_neg (by omega)]); unfold sp_wish; repeat (first | rw [if_pos (by omega)] | rw [if_neg (by omega)])))
        show yi_D zi_Ms d zi_m267 k (41, [(0, .inr (.inr (some 11)))], [.inl z89], (I85, L86, R, Y), 0, 0) _
        refine yi_D_run 2 (43, [(1, .inl z89), (0, .inr (.inr (some 11)))], [.inr (.inr (some 11))], (I85, L86, R, Y), 0, 0) (fun _ => rfl) ?_
        refine yi_D_gr (v := some q) rfl rfl rfl hW.2.2.1.2.1 (fun _ => ?_)
        refine yi_D_run 1 (47, [(1, .inl z89), (0, .inr (.inr (some 11)))], [.inl z89, .inr (.inr (some q))], (I85, L86, R, Y), 0, 0) (fun _ => rfl) ?_
        refine yi_D_callv rfl (p_kindOf_w hW459) ?_
        rintro _ ⟨z465, rfl⟩
        show yi_D zi_Ms d zi_m267 k (50, [(1, .inl z89), (0, .inr (.inr (some 11)))], [.inl z465], (I85, L86, R, Y), 0, 0) _
        refine yi_D_run 1 (51, [(2, .inl z465), (1, .inl z89), (0, .inr (.inr (some 11)))], [], (I85, L86, R, Y), 0, 0) (fun _ => rfl) ?_
        exact yi_D_mono (jn51f z465 z89 _ _ _ hF460 he88 hz462 hx464 ) (by omega)
    · exfalso; omega
  · refine yi_D_if2 false rfl (yi_lt_f h54) ?_
    refine yi_D_run 2 (14, [(0, .inr (.inr (some 11)))], [.inl 5, .inr (.inr (some 11))], (I, L, R, Y), 0, 0) (fun _ => rfl) ?_
    refine yi_D_callv rfl (p_wrong_z ⟨by omega, by omega⟩ hW hf hA) ?_
    rintro _ ⟨I466, rfl, hg467, he468⟩
    have hGw469 : cs_G I L I466 L := ⟨fun p k hp => hg467 p k (by omega), fun _ _ _ => rfl⟩
    have hW470 := cs_W_t hW (cs_G_F hGw469)
    have hF471 := (cs_G_F hGw469)
    have hG472 := hGw469
    have hz473 : ¬ sp_f P a 5 = 0 := sp_f_ne hW hA.2.1 (by omega)
    have hn474 : ¬ I466 11 11 = 0 := by rw [he468]; exact hz473
    have hx475 : sp_R K P V (2, a, 0, [], ld, nm, cs) (.inr (sp_f P a 5)) := sp_R_1 (by
      show sp_line K P V a ld nm cs = _
      first
      | (exfalso; omega)
      | (unfold sp_line; repeat (first | rw [if_pos (by omega)] | rw [if_neg (by omega)]); unfold sp_wish; repeat (first | rw [if_pos (by omega)] | rw [if_neg (by omega)])))
    show yi_D zi_Ms d zi_m267 k (17, [(0, .inr (.inr (some 11)))], [], (I466, L, R, Y), 0, 0) _
    refine yi_D_run 2 (20, [(0, .inr (.inr (some 11)))], [.inl 11, .inr (.inr (some 11))], (I466, L, R, Y), 0, 0) (fun _ => rfl) ?_
    refine yi_D_callv rfl (p_takeKind_f hW470 hn474) ?_
    rintro _ rfl
    show yi_D zi_Ms d zi_m267 k (23, [(0, .inr (.inr (some 11)))], [], (I466, L, R, Y), 0, 0) _
    refine yi_D_run 2 (25, [(0, .inr (.inr (some 11)))], [.inr (.inr (some 11)), .inr (.inr (some 11))], (I466, L, R, Y), 0, 0) (fun _ => rfl) ?_
    refine yi_D_gr (v := some q) rfl rfl rfl hW.2.2.1.2.1 (fun _ => ?_)
    refine yi_D_gr (v := some (q + 3)) rfl rfl (Nat.ble_eq_true_of_le (by omega)) (hW.2.2.1.2.2.1 2 (by omega)) (fun _ => ?_)
    refine yi_D_run 1 (32, [(0, .inr (.inr (some 11)))], [.inr (.inr (some 11)), .inr (.inr (some (q + 3))), .inr (.inr (some 11))], (I466, L, R, Y), 0, 0) (fun _ => rfl) ?_
    refine yi_D_gr (v := some q) rfl rfl rfl hW.2.2.1.2.1 (fun _ => ?_)
    have r476 : I466 q 17 = ld 3 := by rw [hGw469.1 q 17 (by omega), hW.2.2.2.1.2.2.2.1]
    refine yi_D_gi (v := ld 3) rfl rfl (Nat.ble_eq_true_of_le (by omega)) r476 (fun _ => ?_)
    refine yi_D_callv rfl (p_takeName_f (by omega) ⟨by omega, by omega, by omega⟩ hW470 hn474) ?_
    rintro _ ⟨z477, rfl⟩
    show yi_D zi_Ms d zi_m267 k (41, [(0, .inr (.inr (some 11)))], [.inl z477], (I466, L, R, Y), 0, 0) _
    refine yi_D_run 2 (43, [(1, .inl z477), (0, .inr (.inr (some 11)))], [.inr (.inr (some 11))], (I466, L, R, Y), 0, 0) (fun _ => rfl) ?_
    refine yi_D_gr (v := some q) rfl rfl rfl hW.2.2.1.2.1 (fun _ => ?_)
    refine yi_D_run 1 (47, [(1, .inl z477), (0, .inr (.inr (some 11)))], [.inl z477, .inr (.inr (some q))], (I466, L, R, Y), 0, 0) (fun _ => rfl) ?_
    refine yi_D_callv rfl (p_kindOf_w hW470) ?_
    rintro _ ⟨z478, rfl⟩
    show yi_D zi_Ms d zi_m267 k (50, [(1, .inl z477), (0, .inr (.inr (some 11)))], [.inl z478], (I466, L, R, Y), 0, 0) _
    refine yi_D_run 1 (51, [(2, .inl z478), (1, .inl z477), (0, .inr (.inr (some 11)))], [], (I466, L, R, Y), 0, 0) (fun _ => rfl) ?_
    exact yi_D_mono (jn51f z478 z477 _ _ _ hF471 he468 hz473 hx475 ) (by omega)
