/-! The class: a programme out of the check's codes. -/
def nz (v : Int) : Bool := decide (¬ v = 0)
theorem nz_t {x : Int} (h : ¬ x = 0) : nz x = true := decide_eq_true h
theorem nz_f {x : Int} (h : x = 0) : nz x = false := decide_eq_false (fun z => z h)
/-- one code on values, and on bits -/
theorem bst_of {val : Nat → Bool} {cd : Nat} {fa : Nat → Int} {hcl : Int → Bool} {c a : Int} {st st' : List Int} (h : stp fa hcl c a st = some st') (hl : st'.length ≤ 64) (hc : (c = 3 ∧ cd % 16 = 1) ∨ (c = 9 ∧ cd % 16 = 2) ∨ (c = 10 ∧ cd % 16 = 3) ∨ (c = 11 ∧ 4 ≤ cd % 16 ∧ val cd = hcl a)) : bst val cd (st.map nz) = some (st'.map nz) := by
  rcases hc with ⟨h1, h2⟩ | ⟨h1, h2⟩ | ⟨h1, h2⟩ | ⟨h1, h2, h3⟩
  · obtain ⟨x, r, e1, e2⟩ := stp_3 h h1
    rw [e1, e2]
    unfold bst
    rw [if_pos h2]
    show some ((!nz x) :: r.map nz) = some (nz (if x = 0 then 1 else 0) :: r.map nz)
    have e : nz (if x = 0 then 1 else 0) = !nz x := by
      by_cases cx : x = 0
      · rw [if_pos cx, nz_f cx]
        rfl
      · rw [if_neg cx, nz_t cx]
        rfl
    rw [e]
  · obtain ⟨y, x, r, e1, e2⟩ := stp_b h (by omega) (by omega) (by omega) (by omega)
    rw [e1, e2, h1]
    unfold bst
    rw [if_neg (by omega), if_pos h2]
    show some ((nz x && nz y) :: r.map nz) = some (nz (if ¬ x = 0 ∧ ¬ y = 0 then 1 else 0) :: r.map nz)
    have e : nz (if ¬ x = 0 ∧ ¬ y = 0 then 1 else 0) = (nz x && nz y) := by
      by_cases cx : x = 0
      · rw [if_neg (fun z => z.1 cx), nz_f cx]
        rfl
      · by_cases cy : y = 0
        · rw [if_neg (fun z => z.2 cy), nz_t cx, nz_f cy]
          rfl
        · rw [if_pos ⟨cx, cy⟩, nz_t cx, nz_t cy]
          rfl
    rw [e]
  · obtain ⟨y, x, r, e1, e2⟩ := stp_b h (by omega) (by omega) (by omega) (by omega)
    rw [e1, e2, h1]
    unfold bst
    rw [if_neg (by omega), if_neg (by omega), if_pos h2]
    show some ((nz x || nz y) :: r.map nz) = some (nz (if ¬ x = 0 ∨ ¬ y = 0 then 1 else 0) :: r.map nz)
    have e : nz (if ¬ x = 0 ∨ ¬ y = 0 then 1 else 0) = (nz x || nz y) := by
      by_cases cx : x = 0
      · by_cases cy : y = 0
        · rw [if_neg (fun z => z.elim (fun q => q cx) (fun q => q cy)), nz_f cx, nz_f cy]
          rfl
        · rw [if_pos (Or.inr cy), nz_f cx, nz_t cy]
          rfl
      · rw [if_pos (Or.inl cx), nz_t cx]
        rfl
    rw [e]
  · have e2 := stp_c h h1
    rw [e2] at hl
    have hl : st.length + 1 ≤ 64 := hl
    rw [e2]
    unfold bst
    rw [if_neg (by omega), if_neg (by omega), if_neg (by omega), if_pos (by rw [List.length_map]; omega), h3]
    show some (hcl a :: st.map nz) = some (nz (if hcl a = true then 1 else 0) :: st.map nz)
    cases hcl a <;> rfl
/-- clauses alike, values alike -/
theorem rn_e {fa : Nat → Int} {hcl hcl' : Int → Bool} : ∀ (x : List (Int × Int)) (st : List Int), (∀ c ∈ x, c.1 = 11 → hcl c.2 = hcl' c.2) → rn fa hcl x st = rn fa hcl' x st
  | [], _, _ => rfl
  | a :: x, st, h => by
    have e : stp fa hcl a.1 a.2 st = stp fa hcl' a.1 a.2 st := by
      unfold stp
      by_cases c : a.1 = 11
      · rw [h a (List.mem_cons_self ..) c]
      · rw [if_neg c, if_neg c]
    show (match stp fa hcl a.1 a.2 st with
      | some st' => if st'.length ≤ 64 then rn fa hcl x st' else none
      | none => none) = (match stp fa hcl' a.1 a.2 st with
      | some st' => if st'.length ≤ 64 then rn fa hcl' x st' else none
      | none => none)
    rw [e]
    cases stp fa hcl' a.1 a.2 st with
    | none => rfl
    | some st' =>
      show (if st'.length ≤ 64 then rn fa hcl x st' else none) = (if st'.length ≤ 64 then rn fa hcl' x st' else none)
      rw [rn_e x st' (fun c hc => h c (List.mem_cons_of_mem _ hc))]
theorem getD_mem {x : List (Int × Int)} {k : Nat} (h : k < x.length) : x.getD k (0, 0) ∈ x := by
  rw [List.getD_eq_getElem?_getD, List.getElem?_eq_getElem h]
  exact List.getElem_mem h
/-- a programme of the class that leaves one value -/
def prg_S1 (cd : Nat → Nat) (n T da pe ev fr m : Nat) (v : Nat → Bool) : Prop := (∀ k, k < m → cokX pe ev da (cd (fr + k))) ∧ ∀ W, bw_W W n T da pe ev → ∃ sk : Nat → Nat → Nat → List Bool, (∀ z, z < n → ∀ i, i < 64 → (sk z i 0 = [] ∧ ∃ w, sk z i m = [w]) ∧ ∀ k, k < m → bst (cval W pe ev da z i) (cd (fr + k)) (sk z i k) = some (sk z i (k + 1))) ∧ ∀ x, x < T → sk (x / 64) (x % 64) m = [v x]
theorem prg_1 {cd : Nat → Nat} {n T da pe ev fr m : Nat} {v : Nat → Bool} (h : prg_S1 cd n T da pe ev fr m v) : prg_S cd n T da pe ev fr m v := by
  refine ⟨h.1, fun W hW => ?_⟩
  obtain ⟨sk, h1, h2⟩ := h.2 W hW
  refine ⟨sk, fun z hz i hi => ⟨(h1 z hz i hi).1.1, (h1 z hz i hi).2⟩, fun x hx => ?_⟩
  rw [h2 x hx]
  rfl
/-- one code more -/
theorem prg_m {cd : Nat → Nat} {n T da pe ev fr m m' : Nat} {v v' : Nat → Bool} (g : Bool → Nat → List Bool) (hm : m ≤ m') (h : prg_S1 cd n T da pe ev fr m v) (hco : ∀ k, m ≤ k → k < m' → cokX pe ev da (cd (fr + k))) (hg : ∀ (W : Nat → Nat → Int) (z i : Nat) (w : Bool), g w m = [w] ∧ ∀ k, m ≤ k → k < m' → bst (cval W pe ev da z i) (cd (fr + k)) (g w k) = some (g w (k + 1))) (hl : ∀ w, ∃ w', g w m' = [w']) (hv : ∀ x, x < T → g (v x) m' = [v' x]) (hn : T ≤ 64 * n) : prg_S1 cd n T da pe ev fr m' v' := by
  refine ⟨fun k hk => ?_, fun W hW => ?_⟩
  · by_cases c : k < m
    · exact h.1 k c
    · exact hco k (by omega) hk
  · obtain ⟨sk, h1, h2⟩ := h.2 W hW
    refine ⟨fun z i k => if k ≤ m then sk z i k else g ((sk z i m).headD false) k, fun z hz i hi => ⟨⟨?_, ?_⟩, fun k hk => ?_⟩, fun x hx => ?_⟩
    · show (if 0 ≤ m then sk z i 0 else _) = []
      rw [if_pos (Nat.zero_le _)]
      exact (h1 z hz i hi).1.1
    · show ∃ w, (if m' ≤ m then sk z i m' else g ((sk z i m).headD false) m') = [w]
      by_cases c : m' ≤ m
      · rw [if_pos c, show m' = m by omega]
        exact (h1 z hz i hi).1.2
      · rw [if_neg c]
        exact hl _
    · show bst (cval W pe ev da z i) (cd (fr + k)) (if k ≤ m then sk z i k else g ((sk z i m).headD false) k) = some (if k + 1 ≤ m then sk z i (k + 1) else g ((sk z i m).headD false) (k + 1))
      obtain ⟨⟨-, w, ew⟩, h3⟩ := h1 z hz i hi
      by_cases c : k < m
      · rw [if_pos (by omega), if_pos (by omega)]
        exact h3 k c
      · rw [if_neg (show ¬ k + 1 ≤ m by omega)]
        by_cases c2 : k = m
        · rw [if_pos (by omega), c2, ew]
          have z2 := (hg W z i w)
          show bst (cval W pe ev da z i) (cd (fr + m)) [w] = some (g w (m + 1))
          rw [← z2.1]
          exact z2.2 m (by omega) (by omega)
        · rw [if_neg (by omega)]
          exact (hg W z i _).2 k (by omega) hk
    · show (if m' ≤ m then sk (x / 64) (x % 64) m' else g ((sk (x / 64) (x % 64) m).headD false) m') = [v' x]
      rw [h2 x hx]
      by_cases c : m' ≤ m
      · rw [if_pos c, show m' = m by omega, h2 x hx]
        have a := hv x hx
        rw [show m' = m by omega, (hg W 0 0 (v x)).1] at a
        exact a
      · rw [if_neg c]
        exact hv x hx
theorem prg_not {cd : Nat → Nat} {n T da pe ev fr m : Nat} {v : Nat → Bool} (hn : T ≤ 64 * n) (h : prg_S1 cd n T da pe ev fr m v) (h1 : cd (fr + m) = 1) : prg_S1 cd n T da pe ev fr (m + 1) (fun x => !v x) := by
  refine prg_m (fun w k => if k = m then [w] else [!w]) (by omega) h (fun k a b => ?_) (fun W z i w => ⟨if_pos rfl, fun k a b => ?_⟩) (fun w => ⟨!w, if_neg (by omega)⟩) (fun x hx => if_neg (by omega)) hn
  · rw [show k = m by omega, h1]
    exact ⟨by omega, Or.inl (by omega)⟩
  · rw [show k = m by omega, if_pos rfl, if_neg (by omega), h1]
    rfl
theorem prg_none {cd : Nat → Nat} {n T da pe ev fr m : Nat} {v : Nat → Bool} (hn : T ≤ 64 * n) (h : prg_S1 cd n T da pe ev fr m v) (h1 : cd (fr + m) = 0) (h2 : cd (fr + (m + 1)) = 2) : prg_S1 cd n T da pe ev fr (m + 2) (fun _ => false) := by
  refine prg_m (fun w k => if k = m then [w] else if k = m + 1 then [false, w] else [false]) (by omega) h (fun k a b => ?_) (fun W z i w => ⟨if_pos rfl, fun k a b => ?_⟩) (fun w => ⟨false, by rw [if_neg (by omega), if_neg (by omega)]⟩) (fun x hx => by rw [if_neg (by omega), if_neg (by omega)]) hn
  · by_cases c : k = m
    · rw [c, h1]
      exact ⟨by omega, Or.inl (by omega)⟩
    · rw [show k = m + 1 by omega, h2]
      exact ⟨by omega, Or.inl (by omega)⟩
  · by_cases c : k = m
    · rw [c, if_pos rfl, if_neg (by omega), if_pos rfl, h1]
      rfl
    · rw [show k = m + 1 by omega, if_neg (by omega), if_pos rfl, if_neg (by omega), if_neg (by omega), h2]
      show some [w && false] = some [false]
      rw [Bool.and_false]
/-- what the check's codes say of each future, the class's say -/
theorem prg_of {cd : Nat → Nat} {x : List (Int × Int)} {n T da pe ev fr : Nat} {vg : Int} {v : Nat → Bool} {fa : Nat → Int} {hclF : Nat → Int → Bool} (hw : wfN 13 x) (hp : ∀ c ∈ x, pF c) (hcd : ∀ k, k < x.length → (cd (fr + k) : Int) = trF da vg (x.getD k (0, 0))) (hco : ∀ c ∈ x, c.1 = 11 → cokX pe ev da (trC da vg c.2.toNat) ∧ 4 ≤ trC da vg c.2.toNat % 16) (hv : ∀ f, f < T → ∃ w, rn fa (hclF f) x [] = some [w] ∧ v f = nz w) (hval : ∀ W, bw_W W n T da pe ev → ∀ f, f < T → ∀ c ∈ x, c.1 = 11 → cval W pe ev da (f / 64) (f % 64) (trC da vg c.2.toNat) = hclF f c.2) : prg_S1 cd n T da pe ev fr x.length v := by
  have hk : ∀ k, k < x.length → ((x.getD k (0, 0)).1 = 3 ∧ cd (fr + k) = 1) ∨ ((x.getD k (0, 0)).1 = 9 ∧ cd (fr + k) = 2) ∨ ((x.getD k (0, 0)).1 = 10 ∧ cd (fr + k) = 3) ∨ ((x.getD k (0, 0)).1 = 11 ∧ cd (fr + k) = trC da vg (x.getD k (0, 0)).2.toNat) := fun k hk => by
    have e := hcd k hk
    have hq := hp _ (getD_mem hk)
    generalize x.getD k (0, 0) = c at e hq ⊢
    obtain ⟨c1, c2⟩ := c
    rcases hq with h | ⟨h, h0⟩
    · have h : c1 = 11 := h
      subst h
      rw [trF_11] at e
      have e2 : cd (fr + k) = trC da vg c2.toNat := by omega
      exact Or.inr (Or.inr (Or.inr ⟨rfl, e2⟩))
    · have h : c1 = 3 ∨ c1 = 9 ∨ c1 = 10 := h
      have h0 : c2 = 0 := h0
      subst h0
      rcases h with h | h | h
      · subst h
        rw [trF_3] at e
        exact Or.inl ⟨rfl, by omega⟩
      · subst h
        rw [trF_9] at e
        exact Or.inr (Or.inl ⟨rfl, by omega⟩)
      · subst h
        rw [trF_10] at e
        exact Or.inr (Or.inr (Or.inl ⟨rfl, by omega⟩))
  refine ⟨fun k hk1 => ?_, fun W hW => ?_⟩
  · rcases hk k hk1 with ⟨h1, h2⟩ | ⟨h1, h2⟩ | ⟨h1, h2⟩ | ⟨h1, h2⟩
    · rw [h2]; exact ⟨by omega, Or.inl (by omega)⟩
    · rw [h2]; exact ⟨by omega, Or.inl (by omega)⟩
    · rw [h2]; exact ⟨by omega, Or.inl (by omega)⟩
    · rw [h2]; exact (hco _ (getD_mem hk1) h1).1
  · have key : ∀ z i : Nat, ∃ (sk : Nat → List Int) (w : Int), sk 0 = [] ∧ sk x.length = [w] ∧ rn fa (fun c => cval W pe ev da z i (trC da vg c.toNat)) x [] = some [w] ∧ ∀ k, k < x.length → bst (cval W pe ev da z i) (cd (fr + k)) ((sk k).map nz) = some ((sk (k + 1)).map nz) := fun z i => by
      obtain ⟨w, hr⟩ := hw fa (fun c => cval W pe ev da z i (trC da vg c.toNat)) [] (by show 0 + 13 ≤ 64; omega)
      obtain ⟨sk, k0, k1, k2, k3⟩ := rn_sk x [] [w] hr (by show 0 ≤ 64; omega)
      refine ⟨sk, w, k0, k1, hr, fun k hk1 => bst_of (k2 k hk1) (k3 (k + 1) hk1) ?_⟩
      rcases hk k hk1 with ⟨h1, h2⟩ | ⟨h1, h2⟩ | ⟨h1, h2⟩ | ⟨h1, h2⟩
      · exact Or.inl ⟨h1, by rw [h2]⟩
      · exact Or.inr (Or.inl ⟨h1, by rw [h2]⟩)
      · exact Or.inr (Or.inr (Or.inl ⟨h1, by rw [h2]⟩))
      · exact Or.inr (Or.inr (Or.inr ⟨h1, by rw [h2]; exact (hco _ (getD_mem hk1) h1).2, by rw [h2]⟩))
    refine ⟨fun z i k => ((Classical.choose (key z i)) k).map nz, fun z hz i hi => ?_, fun f hf => ?_⟩
    · obtain ⟨w, k0, k1, k2, k3⟩ := Classical.choose_spec (key z i)
      refine ⟨⟨?_, nz w, ?_⟩, k3⟩
      · show ((Classical.choose (key z i)) 0).map nz = []
        rw [k0]
        rfl
      · show ((Classical.choose (key z i)) x.length).map nz = [nz w]
        rw [k1]
        rfl
    · obtain ⟨w, k0, k1, k2, k3⟩ := Classical.choose_spec (key (f / 64) (f % 64))
      obtain ⟨w', hr, e⟩ := hv f hf
      show ((Classical.choose (key (f / 64) (f % 64))) x.length).map nz = [v f]
      rw [k1, e]
      rw [rn_e x [] (hcl' := hclF f) (fun c hc h11 => hval W hW f hf c hc h11), hr] at k2
      cases k2
      rfl
