/-! What programmes say of futures: the class's bits, the check's values. -/
theorem rn_f {fa fa' : Nat → Int} {hcl : Int → Bool} : ∀ (x : List (Int × Int)) (st : List Int), (∀ c ∈ x, ¬ c.1 = 2) → rn fa hcl x st = rn fa' hcl x st
  | [], _, _ => rfl
  | a :: x, st, h => by
    have h2 : ¬ a.1 = 2 := h a (List.mem_cons_self ..)
    have e : stp fa hcl a.1 a.2 st = stp fa' hcl a.1 a.2 st := by
      unfold stp
      rw [if_neg h2, if_neg h2]
    show (match stp fa hcl a.1 a.2 st with
      | some st' => if st'.length ≤ 64 then rn fa hcl x st' else none
      | none => none) = (match stp fa' hcl a.1 a.2 st with
      | some st' => if st'.length ≤ 64 then rn fa' hcl x st' else none
      | none => none)
    rw [e]
    cases stp fa' hcl a.1 a.2 st with
    | none => rfl
    | some st' =>
      show (if st'.length ≤ 64 then rn fa hcl x st' else none) = (if st'.length ≤ 64 then rn fa' hcl x st' else none)
      rw [rn_f x st' (fun c hc => h c (List.mem_cons_of_mem _ hc))]
/-- does a programme hold in a future -/
def rnv (fa : Nat → Int) (da pe ev : Nat) (vg : Int) (x : List (Int × Int)) (f : Nat) : Int := ((rn fa (hclD da pe ev vg f) x []).getD []).headD 0
def vB (da pe ev : Nat) (vg : Int) (x : List (Int × Int)) (f : Nat) : Bool := nz (rnv (fun _ => 0) da pe ev vg x f)
/-- as its prophet tells it -/
def wB (da pe ev : Nat) (kd : Int) (x : List (Int × Int)) (f : Nat) : Bool := if kd = 2 then !vB da pe ev (wvg kd) x f else if kd = 4 ∧ x.any isnm = true then false else vB da pe ev (wvg kd) x f
section VAL
variable {da pe ev n T fr f m F N : Nat} {vg ki kd : Int} {x : List (Int × Int)} {fa : Nat → Int} {cd : Nat → Nat} {I : Nat → Nat → Int}
theorem rnv_s (hw : wfN 13 x) : rn fa (hclD da pe ev vg f) x [] = some [rnv fa da pe ev vg x f] := by
  obtain ⟨w, h⟩ := hw fa (hclD da pe ev vg f) [] (by show 0 + 13 ≤ 64; omega)
  unfold rnv
  rw [h]
  rfl
theorem vB_s (hw : wfN 13 x) (hp : ∀ c ∈ x, pF c) : vB da pe ev vg x f = nz (rnv fa da pe ev vg x f) := by
  have h2 : ∀ c ∈ x, ¬ c.1 = 2 := fun c hc => by
    rcases hp c hc with z | ⟨z, -⟩ <;> omega
  unfold vB rnv
  rw [rn_f (fa' := fa) x [] h2]
theorem trF_nn {c : Int × Int} : 0 ≤ trF da vg c := by
  unfold trF
  split
  · omega
  · split
    · omega
    · split <;> omega
theorem prg_V (bld : da ≤ 6 ∧ pe ≤ 4 ∧ ev ≤ 4) (hn : T ≤ 64 * n) (hw : wfN 13 x) (hp : ∀ c ∈ x, pF c) (hz : ∀ c ∈ x, c.1 = 11 → okz da pe ev c.2) (hcd : ∀ k, k < x.length → (cd (fr + k) : Int) = trF da vg (x.getD k (0, 0))) : prg_S1 cd n T da pe ev fr x.length (vB da pe ev vg x) :=
  prg_of (fa := fun _ => 0) (hclF := fun f => hclD da pe ev vg f) hw hp hcd (fun c hc h => cok_of bld (hz c hc h)) (fun f _ => ⟨_, rnv_s hw, vB_s hw hp⟩) (fun W hW f hf c hc h => cval_hC bld hW hn hf (hz c hc h))
theorem prg_e {v v' : Nat → Bool} {m' : Nat} (h : prg_S1 cd n T da pe ev fr m v) (em : m = m') (e : ∀ x, v x = v' x) : prg_S1 cd n T da pe ev fr m' v' := by
  rw [← em, show v' = v from (funext e).symm]
  exact h
/-- a wish's, what its prophet makes of it behind it -/
theorem prg_W (bld : da ≤ 6 ∧ pe ≤ 4 ∧ ev ≤ 4) (hn : T ≤ 64 * n) (hw : wfN 13 x) (hp : ∀ c ∈ x, pF c) (hz : ∀ c ∈ x, c.1 = 11 → okz da pe ev c.2) (hcd : ∀ k, k < x.length → (cd (fr + k) : Int) = trF da (wvg kd) (x.getD k (0, 0))) (htl : ∀ k, k < (wtl kd (x.any isnm)).length → cd (fr + x.length + k) = (wtl kd (x.any isnm)).getD k 0) : prg_S1 cd n T da pe ev fr (x.length + (wtl kd (x.any isnm)).length) (wB da pe ev kd x) := by
  have h := prg_V (T := T) (n := n) (fr := fr) (vg := wvg kd) bld hn hw hp hz hcd
  by_cases c2 : kd = 2
  · have e : wtl kd (x.any isnm) = [1] := if_pos c2
    rw [e] at htl ⊢
    refine prg_e (prg_not hn h (htl 0 (by decide))) rfl (fun y => ?_)
    unfold wB
    rw [if_pos c2]
  · by_cases c4 : kd = 4 ∧ x.any isnm = true
    · have e : wtl kd (x.any isnm) = [0, 2] := (if_neg c2).trans (if_pos c4)
      rw [e] at htl ⊢
      refine prg_e (prg_none hn h (htl 0 (by decide)) ?_) rfl (fun y => ?_)
      · have z := htl 1 (by decide)
        rw [← Nat.add_assoc]
        exact z
      · unfold wB
        rw [if_neg c2, if_pos c4]
    · have e : wtl kd (x.any isnm) = [] := (if_neg c2).trans (if_neg c4)
      rw [e]
      refine prg_e h rfl (fun y => ?_)
      unfold wB
      rw [if_neg c2, if_neg c4]
/-- a clause's number is none of the others -/
theorem hC_p {h0 : Nat → Int} {who e wh k : Nat} {P Q : Prop} [dP : Decidable P] [dQ : Decidable Q] (h : P ↔ Q) : hC h0 pe ev da P who e wh k = hC h0 pe ev da Q who e wh k := by
  have e := propext h
  subst e
  exact congrArg (fun d => @hC h0 pe ev da P d who e wh k) (Subsingleton.elim dP dQ)
theorem getD_any {p : Int × Int → Bool} : ∀ (x : List (Int × Int)), (x.any p = true ↔ ∃ k, k < x.length ∧ p (x.getD k (0, 0)) = true) := fun x => by
  rw [List.any_eq_true]
  constructor
  · rintro ⟨c, hc, h⟩
    obtain ⟨k, hk, e⟩ := List.getElem_of_mem hc
    refine ⟨k, hk, ?_⟩
    rw [List.getD_eq_getElem?_getD, List.getElem?_eq_getElem hk]
    show p x[k] = true
    rw [e]
    exact h
  · rintro ⟨k, hk, h⟩
    exact ⟨_, getD_mem hk, h⟩
theorem nmg_i : ∀ N, (nmg I fr N = true ↔ ∃ k, k < N ∧ (I 89 (fr + k) = 11 ∧ (I 90 (fr + k) / 512 < 4 ∨ 7 ≤ I 90 (fr + k) / 8 % 16)))
  | 0 => ⟨fun h => Bool.noConfusion h, fun ⟨k, hk, _⟩ => absurd hk (Nat.not_lt_zero k)⟩
  | N + 1 => by
    have e : nmg I fr (N + 1) = (nmg I fr N || decide (I 89 (fr + N) = 11 ∧ (I 90 (fr + N) / 512 < 4 ∨ 7 ≤ I 90 (fr + N) / 8 % 16))) := rfl
    rw [e, Bool.or_eq_true, nmg_i N, decide_eq_true_iff]
    constructor
    · rintro (⟨k, hk, h⟩ | h)
      · exact ⟨k, by omega, h⟩
      · exact ⟨N, by omega, h⟩
    · rintro ⟨k, hk, h⟩
      by_cases c : k = N
      · rw [c] at h
        exact Or.inr h
      · exact Or.inl ⟨k, by omega, h⟩
theorem nmg_any (hx : ∀ k, k < x.length → I 89 (fr + k) = (x.getD k (0, 0)).1 ∧ I 90 (fr + k) = (x.getD k (0, 0)).2) : nmg I fr x.length = x.any isnm := by
  have h : nmg I fr x.length = true ↔ x.any isnm = true := by
    rw [nmg_i, getD_any]
    constructor
    · rintro ⟨k, hk, h⟩
      refine ⟨k, hk, decide_eq_true ?_⟩
      rw [(hx k hk).1, (hx k hk).2] at h
      exact h
    · rintro ⟨k, hk, h⟩
      refine ⟨k, hk, ?_⟩
      rw [(hx k hk).1, (hx k hk).2]
      exact of_decide_eq_true h
  cases a : nmg I fr x.length with
  | true => exact (h.1 a).symm
  | false =>
    cases b : x.any isnm with
    | true => rw [h.2 b] at a; cases a
    | false => rfl
/-- the check's programme as it stands -/
theorem pgF_V (hm : m = mny da pe ev) (hx : ∀ k, k < x.length → I 89 (fr + k) = (x.getD k (0, 0)).1 ∧ I 90 (fr + k) = (x.getD k (0, 0)).2) (hend : I 89 (fr + x.length) = 0) (hl : fr + x.length ≤ 2199 ∧ x.length ≤ 1098) (hw : wfN 13 x) (hp : ∀ c ∈ x, pF c) (hz : ∀ c ∈ x, c.1 = 11 → okz da pe ev c.2) (hki : ki = 1 ↔ ¬ vg = 0) : pgF I pe ev da m F ki fa fr x.length (rnv fa da pe ev vg x) := fun f _ => by
  obtain ⟨sk, k0, k1, k2, k3⟩ := rn_sk x [] _ (rnv_s (fa := fa) (da := da) (pe := pe) (ev := ev) (vg := vg) (f := f) hw) (by show 0 ≤ 64; omega)
  refine ⟨hclD da pe ev vg f, sk, hl, fun k hk => ?_, hend, k0, k1⟩
  obtain ⟨e1, e2⟩ := hx k hk
  have hc := hp _ (getD_mem hk)
  rw [e1, e2]
  refine ⟨?_, k2 k hk, fun h => ?_, fun h => ?_⟩
  · rcases hc with z | ⟨z, -⟩ <;> omega
  · rcases hc with z | ⟨z, -⟩ <;> omega
  · obtain ⟨who, e, wh, nn, ez, hk', h3, h4, h5, h6⟩ := hz _ (getD_mem hk) h
    refine ⟨who, e, wh, nn, ez, hk', ?_⟩
    obtain ⟨q1, q2, q3, q4, -, -⟩ := hk'
    have ev0 : ¬ ev = 0 := by omega
    rw [ez, hclD_cc (by omega) q2 (by omega) (by omega), hm]
    unfold mny
    rw [if_neg ev0]
    exact hC_p hki.symm
theorem wB_v (hw : wfN 13 x) (hp : ∀ c ∈ x, pF c) : wB da pe ev kd x f = (!(decide (kd = 4) && x.any isnm) && (decide (¬ rnv fa da pe ev (wvg kd) x f = 0) != decide (kd = 2))) := by
  have e : vB da pe ev (wvg kd) x f = decide (¬ rnv fa da pe ev (wvg kd) x f = 0) := vB_s hw hp
  unfold wB
  rw [← e]
  by_cases c2 : kd = 2
  · rw [if_pos c2, decide_eq_true c2, decide_eq_false (show ¬ kd = 4 by omega), Bool.false_and]
    cases vB da pe ev (wvg kd) x f <;> rfl
  · rw [if_neg c2, decide_eq_false c2]
    by_cases c4 : kd = 4 ∧ x.any isnm = true
    · rw [if_pos c4, decide_eq_true c4.1, c4.2]
      rfl
    · rw [if_neg c4]
      have z : (decide (kd = 4) && x.any isnm) = false := by
        cases a : x.any isnm with
        | false => exact Bool.and_false _
        | true => rw [decide_eq_false (fun h => c4 ⟨h, a⟩)]; rfl
      rw [z]
      cases vB da pe ev (wvg kd) x f <;> rfl
end VAL
