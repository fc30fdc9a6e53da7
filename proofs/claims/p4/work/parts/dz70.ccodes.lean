/-! The class's codes, as the reader makes them. -/
/-- a clause's code, from its fields -/
def cc_cd (w a b c d : Nat) : Nat := w + 16 * a + 256 * b + 4096 * c + 65536 * d
/-- the class's code of one of the check's -/
def trC (da : Nat) (vg : Int) (x : Nat) : Nat := cc_cd (cdW da (¬ vg = 0) (x / 8 % 16) (x % 8)).1 (x / 512) (x / 128 % 4) (cdW da (¬ vg = 0) (x / 8 % 16) (x % 8)).2.1 (cdW da (¬ vg = 0) (x / 8 % 16) (x % 8)).2.2
def trF (da : Nat) (vg : Int) (x : Int × Int) : Int := if x.1 = 3 then 1 else if x.1 = 9 then 2 else if x.1 = 10 then 3 else ((trC da vg x.2.toNat : Nat) : Int)
/-- does a code name somebody -/
def isnm (x : Int × Int) : Bool := decide (x.1 = 11 ∧ (x.2 / 512 < 4 ∨ 7 ≤ x.2 / 8 % 16))
/-- more codes, none of them an end -/
def neX (cb cs : List (Int × Int)) : Prop := ∃ x, cs = cb ++ x ∧ ∀ c ∈ x, ¬ c.1 = 0
theorem neX_le {cb cs : List (Int × Int)} (h : neX cb cs) : cb.length ≤ cs.length := by
  obtain ⟨x, e, -⟩ := h
  rw [e, List.length_append]
  omega
theorem neX_0 (cb : List (Int × Int)) : neX cb cb := ⟨[], (List.append_nil _).symm, fun c h => by cases h⟩
theorem neX_p {cb cs : List (Int × Int)} {x : Int × Int} (h : neX cb cs) (hx : ¬ x.1 = 0) : neX cb (cs ++ [x]) := by
  obtain ⟨y, e, k⟩ := h
  refine ⟨y ++ [x], by rw [e, List.append_assoc], fun c hc => ?_⟩
  rcases List.mem_append.1 hc with z | z
  · exact k c z
  · rw [List.mem_singleton.1 z]
    exact hx
def cc_S (tr : Int × Int → Int) (u0 : Nat) (cb : List (Int × Int)) (fx : Nat → Int) (b0 vg : Int) (nw : Bool) (I : Nat → Nat → Int) (cs : List (Int × Int)) : Prop := neX cb cs ∧ I 11 3 = ((u0 + (cs.length - cb.length) : Nat) : Int) ∧ (∀ k, k < u0 → I 19 k = fx k) ∧ (∀ k, cb.length + k < cs.length → I 19 (u0 + k) = tr (cs.getD (cb.length + k) (0, 0))) ∧ I 11 7 = vg ∧ I 11 5 = if (nw || (cs.drop cb.length).any isnm) = true then 1 else b0
/-- a code is put behind the others -/
def cc_E (I I' : Nat → Nat → Int) (u : Nat) (w : Int) : Prop := I' 19 u = w ∧ I' 11 3 = (u : Int) + 1 ∧ ∀ p k, ¬ (p = 19 ∧ k = u) → ¬ (p = 11 ∧ k = 3) → I' p k = I p k
section CCS
variable {tr : Int × Int → Int} {u0 : Nat} {cb : List (Int × Int)} {fx : Nat → Int} {b0 vg : Int} {nw : Bool} {I I' L L' : Nat → Nat → Int} {cs : List (Int × Int)} {x : Int × Int} {w : Int} {u : Nat}
theorem cc_S_0 (h3 : I 11 3 = (u0 : Int)) (h7 : I 11 7 = vg) : cc_S tr u0 cs (fun k => I 19 k) (I 11 5) vg false I cs := by
  refine ⟨neX_0 cs, by rw [h3, Nat.sub_self, Nat.add_zero], fun _ _ => rfl, fun k hk => absurd hk (by omega), h7, ?_⟩
  rw [List.drop_length]
  rfl
theorem cc_S_c (h : cc_S tr u0 cb fx b0 vg nw I cs) (f : ∀ p k, ¬ (p = 11 ∧ (k = 8 ∨ k = 9 ∨ k = 11)) → I' p k = I p k) : cc_S tr u0 cb fx b0 vg nw I' cs := by
  obtain ⟨h1, h2, h3, h4, h5, h6⟩ := h
  exact ⟨h1, (f 11 3 (by omega)).trans h2, fun k hk => (f 19 k (by omega)).trans (h3 k hk), fun k hk => (f 19 _ (by omega)).trans (h4 k hk), (f 11 7 (by omega)).trans h5, (f 11 5 (by omega)).trans h6⟩
theorem cc_G (h : cc_S tr u0 cb fx b0 vg nw I cs) (g : cs_G I L I' L') : cc_S tr u0 cb fx b0 vg nw I' cs := cc_S_c h g.1
theorem cc_nw (h : cc_S tr u0 cb fx b0 vg false I cs) (h5 : I' 11 5 = 1) (f : ∀ p k, ¬ (p = 11 ∧ k = 5) → I' p k = I p k) : cc_S tr u0 cb fx b0 vg true I' cs := by
  obtain ⟨h1, h2, h3, h4, h6, -⟩ := h
  exact ⟨h1, (f 11 3 (by omega)).trans h2, fun k hk => (f 19 k (by omega)).trans (h3 k hk), fun k hk => (f 19 _ (by omega)).trans (h4 k hk), (f 11 7 (by omega)).trans h6, by rw [h5, Bool.true_or]; rfl⟩
theorem cc_le (h : cc_S tr u0 cb fx b0 vg nw I cs) : cb.length ≤ cs.length := neX_le h.1
theorem cc_u (h : cc_S tr u0 cb fx b0 vg nw I cs) : I 11 3 = ((u0 + (cs.length - cb.length) : Nat) : Int) := h.2.1
theorem cc_push (h : cc_S tr u0 cb fx b0 vg nw I cs) (hE : cc_E I I' (u0 + (cs.length - cb.length)) w) (hx : tr x = w) (hn : isnm x = nw) (hx0 : ¬ x.1 = 0) : cc_S tr u0 cb fx b0 vg false I' (cs ++ [x]) := by
  obtain ⟨hne, h2, h3, h4, h5, h6⟩ := h
  obtain ⟨e1, e2, e3⟩ := hE
  have hl : (cs ++ [x]).length = cs.length + 1 := by rw [List.length_append, List.length_singleton]
  have h1 := neX_le hne
  refine ⟨neX_p hne hx0, by rw [e2, hl]; omega, fun k hk => (e3 19 k (by omega) (by omega)).trans (h3 k hk), fun k hk => ?_, (e3 11 7 (by omega) (by omega)).trans h5, ?_⟩
  · rw [hl] at hk
    by_cases c : cb.length + k = cs.length
    · rw [show u0 + k = u0 + (cs.length - cb.length) by omega, e1, c, ← hx, List.getD_eq_getElem?_getD, List.getElem?_append_right (Nat.le_refl _), Nat.sub_self]
      rfl
    · rw [e3 19 _ (by omega) (by omega), h4 k (by omega), List.getD_eq_getElem?_getD, List.getD_eq_getElem?_getD, List.getElem?_append_left (by omega)]
  · rw [e3 11 5 (by omega) (by omega), h6, List.drop_append_of_le_length h1, List.any_append, ← hn]
    show (if (isnm x || (cs.drop cb.length).any isnm) = true then (1 : Int) else b0) = if (false || ((cs.drop cb.length).any isnm || (isnm x || false))) = true then 1 else b0
    rw [Bool.false_or, Bool.or_false, Bool.or_comm]
theorem cd_or {k x y z : Nat} (hz : z = 2 ^ k * y) (hx : x < 2 ^ k) (h : x + z < 2147483648) : yi_ior (x : Int) (z : Int) = ((x + z : Nat) : Int) := by
  have e := Nat.two_pow_add_eq_or_of_lt hx y
  rw [← hz] at e
  show (BitVec.ofInt 32 (x : Int) ||| BitVec.ofInt 32 (z : Int)).toInt = _
  have t : (BitVec.ofInt 32 (x : Int) ||| BitVec.ofInt 32 (z : Int)).toNat = x + z := by
    rw [BitVec.toNat_or, BitVec.ofInt_natCast, BitVec.ofInt_natCast, BitVec.toNat_ofNat, BitVec.toNat_ofNat, Nat.mod_eq_of_lt (show x < 2 ^ 32 by omega), Nat.mod_eq_of_lt (show z < 2 ^ 32 by omega), Nat.or_comm, ← e]
    omega
  rw [BitVec.toInt_eq_toNat_of_lt (by rw [t]; omega), t]
theorem cd_shl {n : Nat} (h : n < 16) : yi_shl (n : Int) 4 = ((16 * n : Nat) : Int) ∧ yi_shl (n : Int) 8 = ((256 * n : Nat) : Int) ∧ yi_shl (n : Int) 12 = ((4096 * n : Nat) : Int) ∧ yi_shl (n : Int) 16 = ((65536 * n : Nat) : Int) := by
  have key : ∀ m : Nat, m < 16 → yi_shl (m : Int) 4 = ((16 * m : Nat) : Int) ∧ yi_shl (m : Int) 8 = ((256 * m : Nat) : Int) ∧ yi_shl (m : Int) 12 = ((4096 * m : Nat) : Int) ∧ yi_shl (m : Int) 16 = ((65536 * m : Nat) : Int) := by decide +kernel
  exact key n h
theorem cd_mk {w a b c d : Nat} (hw : w < 16) (ha : a < 16) (hb : b < 16) (hc : c < 16) (hd : d < 16) : yi_ior (yi_ior (yi_ior (yi_ior (w : Int) (yi_shl (a : Int) 4)) (yi_shl (b : Int) 8)) (yi_shl (c : Int) 12)) (yi_shl (d : Int) 16) = ((cc_cd w a b c d : Nat) : Int) := by
  rw [(cd_shl ha).1, (cd_shl hb).2.1, (cd_shl hc).2.2.1, (cd_shl hd).2.2.2]
  have e1 := cd_or (k := 4) (x := w) (y := a) (z := 16 * a) (by omega) (by omega) (by omega)
  have e2 := cd_or (k := 8) (x := w + 16 * a) (y := b) (z := 256 * b) (by omega) (by omega) (by omega)
  have e3 := cd_or (k := 12) (x := w + 16 * a + 256 * b) (y := c) (z := 4096 * c) (by omega) (by omega) (by omega)
  have e4 := cd_or (k := 16) (x := w + 16 * a + 256 * b + 4096 * c) (y := d) (z := 65536 * d) (by omega) (by omega) (by omega)
  rw [e1, e2, e3, e4]
  rfl
theorem trF_3 {da : Nat} {vg : Int} : trF da vg (3, 0) = 1 := rfl
theorem trF_9 {da : Nat} {vg : Int} : trF da vg (9, 0) = 2 := rfl
theorem trF_10 {da : Nat} {vg : Int} : trF da vg (10, 0) = 3 := rfl
theorem trF_11 {da : Nat} {vg : Int} {x : Int} : trF da vg (11, x) = ((trC da vg x.toNat : Nat) : Int) := rfl
/-- the fields of one of the check's clauses -/
theorem sp_cc_f {who ev wh n : Nat} (h1 : who < 8) (h2 : ev < 4) (h3 : wh < 16) (h4 : n < 8) : sp_cc (who : Int) (ev : Int) (wh : Int) (n : Int) = ((((who * 4 + ev) * 16 + wh) * 8 + n : Nat) : Int) ∧ (((who * 4 + ev) * 16 + wh) * 8 + n) / 512 = who ∧ (((who * 4 + ev) * 16 + wh) * 8 + n) / 128 % 4 = ev ∧ (((who * 4 + ev) * 16 + wh) * 8 + n) / 8 % 16 = wh ∧ (((who * 4 + ev) * 16 + wh) * 8 + n) % 8 = n := by
  refine ⟨?_, by omega, by omega, by omega, by omega⟩
  unfold sp_cc
  omega
theorem trC_cc {da who ev wh n : Nat} {vg : Int} (h1 : who < 8) (h2 : ev < 4) (h3 : wh < 16) (h4 : n < 8) : trF da vg (11, sp_cc (who : Int) (ev : Int) (wh : Int) (n : Int)) = ((cc_cd (cdW da (¬ vg = 0) wh n).1 who ev (cdW da (¬ vg = 0) wh n).2.1 (cdW da (¬ vg = 0) wh n).2.2 : Nat) : Int) := by
  obtain ⟨e, e1, e2, e3, e4⟩ := sp_cc_f h1 h2 h3 h4
  rw [trF_11, e, Int.toNat_natCast]
  unfold trC
  rw [e1, e2, e3, e4]
theorem isnm_cc {who ev wh n : Nat} (h1 : who < 8) (h2 : ev < 4) (h3 : wh < 16) (h4 : n < 8) : isnm (11, sp_cc (who : Int) (ev : Int) (wh : Int) (n : Int)) = decide (who < 4 ∨ 7 ≤ wh) := by
  obtain ⟨e, e1, e2, e3, e4⟩ := sp_cc_f h1 h2 h3 h4
  unfold isnm
  rw [e]
  apply decide_eq_decide.2
  show (11 : Int) = 11 ∧ _ ↔ _
  omega
end CCS
theorem p_emitC {d : Nat} {I L : Nat → Nat → Int} {R : Nat → Nat → Option Nat} {Y : (Nat → Nat) × (Nat → Nat) × Nat} {w : Int} {u : Nat} {K P V : Nat → Int} {te q : Nat} {ld : Nat → Int} {nm : Int → Int} (hW : cs_W I L R Y K P V te q ld nm) (hf : I 11 11 = 0) (hu : I 11 3 = (u : Int)) (h1 : u < 1002) : yi_P zi_Ms d 249 [.inr (.inr (some 11)), .inl w] (I, L, R, Y) (fun r => ∃ I', r = (none, (I', L, R, Y), 0, 0) ∧ cc_E I I' u w) := by
  refine yi_P_of (M := zi_m249) rfl (fun d k => ?_)
  show yi_D zi_Ms d zi_m249 k (0, [(0, .inr (.inr (some 11))), (1, .inl w)], [], (I, L, R, Y), 0, 0) _
  refine yi_D_run 1 (1, [(0, .inr (.inr (some 11))), (1, .inl w)], [.inr (.inr (some 11))], (I, L, R, Y), 0, 0) (fun _ => rfl) ?_
  refine yi_D_gi (v := 0) rfl rfl rfl hf (fun _ => ?_)
  refine yi_D_if1 false rfl (by decide) ?_
  refine yi_D_run 1 (8, [(0, .inr (.inr (some 11))), (1, .inl w)], [.inr (.inr (some 11))], (I, L, R, Y), 0, 0) (fun _ => rfl) ?_
  refine yi_D_gi (v := (u : Int)) rfl rfl rfl hu (fun _ => ?_)
  refine yi_D_run 1 (12, [(0, .inr (.inr (some 11))), (1, .inl w)], [.inr (.inr (some 11)), .inl (u : Int)], (I, L, R, Y), 0, 0) (fun _ => rfl) ?_
  refine yi_D_gr (v := some 19) rfl rfl rfl hW.1.1.2.2 (fun _ => ?_)
  refine yi_D_len (v := 1002) rfl rfl (by rw [hW.1.2.2.2.2.2.2.2.2]; rfl) ?_
  have h1 : ¬ (1002 ≤ (u : Int)) := by omega
  refine yi_D_if2 false rfl (yi_ge_f h1) ?_
  refine yi_D_run 1 (20, [(0, .inr (.inr (some 11))), (1, .inl w)], [.inr (.inr (some 11))], (I, L, R, Y), 0, 0) (fun _ => rfl) ?_
  refine yi_D_gr (v := some 19) rfl rfl rfl hW.1.1.2.2 (fun _ => ?_)
  refine yi_D_run 1 (24, [(0, .inr (.inr (some 11))), (1, .inl w)], [.inr (.inr (some 11)), .inr (.inr (some 19))], (I, L, R, Y), 0, 0) (fun _ => rfl) ?_
  refine yi_D_gi (v := (u : Int)) rfl rfl rfl hu (fun _ => ?_)
  refine yi_D_run 1 (28, [(0, .inr (.inr (some 11))), (1, .inl w)], [.inl w, .inl (u : Int), .inr (.inr (some 19))], (I, L, R, Y), 0, 0) (fun _ => rfl) ?_
  refine yi_D_is rfl (fun _ _ => ?_)
  generalize w3 : yi_u I 19 ((u : Int).toNat) w = I2
  refine yi_D_run 2 (31, [(0, .inr (.inr (some 11))), (1, .inl w)], [.inr (.inr (some 11)), .inr (.inr (some 11))], (I2, L, R, Y), 0, 0) (fun _ => rfl) ?_
  have r4 : I2 11 3 = (u : Int) := by rw [← w3, yi_u_ne _ _ (by omega), hu]
  refine yi_D_gi (v := (u : Int)) rfl rfl rfl r4 (fun _ => ?_)
  refine yi_D_run 1 (35, [(0, .inr (.inr (some 11))), (1, .inl w)], [.inl 1, .inl (u : Int), .inr (.inr (some 11))], (I2, L, R, Y), 0, 0) (fun _ => rfl) ?_
  refine yi_D_iadd rfl ((u : Int) + 1) (yi_wn (by omega) (by omega)) ?_
  refine yi_D_pi rfl (fun _ => ?_)
  generalize w6 : yi_u I2 11 3 ((u : Int) + 1) = I5
  refine yi_D_retv rfl ?_
  rw [Int.toNat_natCast] at w3
  refine ⟨_, rfl, ?_, ?_, fun p k h2 h3 => ?_⟩
  · rw [← w6, yi_u_ne _ _ (by omega), ← w3, yi_u_eq]
  · rw [← w6, yi_u_eq]
  · rw [← w6, yi_u_ne _ _ (by omega), ← w3, yi_u_ne _ _ (by omega)]
theorem p_clauseCodeE {d : Nat} {I L : Nat → Nat → Int} {R : Nat → Nat → Option Nat} {Y : (Nat → Nat) × (Nat → Nat) × Nat} {w a b c e : Nat} (hw : w < 16) (ha : a < 16) (hb : b < 16) (hc : c < 16) (he : e < 16) : yi_P zi_Ms d 143 [.inl (w : Int), .inl (a : Int), .inl (b : Int), .inl (c : Int), .inl (e : Int)] (I, L, R, Y) (fun r => r = (some (.inl ((cc_cd w a b c e : Nat) : Int)), (I, L, R, Y), 0, 0)) := by
  refine yi_P_of (M := zi_m143) rfl (fun d k => ?_)
  show yi_D zi_Ms d zi_m143 k (0, [(0, .inl (w : Int)), (1, .inl (a : Int)), (2, .inl (b : Int)), (3, .inl (c : Int)), (4, .inl (e : Int))], [], (I, L, R, Y), 0, 0) _
  refine yi_D_run 14 (17, [(0, .inl (w : Int)), (1, .inl (a : Int)), (2, .inl (b : Int)), (3, .inl (c : Int)), (4, .inl (e : Int))], [.inl (e : Int), .inl (yi_ior (yi_ior (yi_ior (w : Int) (yi_shl (a : Int) 4)) (yi_shl (b : Int) 8)) (yi_shl (c : Int) 12))], (I, L, R, Y), 0, 0) (fun _ => rfl) ?_
  refine yi_D_run 3 (21, [(0, .inl (w : Int)), (1, .inl (a : Int)), (2, .inl (b : Int)), (3, .inl (c : Int)), (4, .inl (e : Int))], [.inl (yi_ior (yi_ior (yi_ior (yi_ior (w : Int) (yi_shl (a : Int) 4)) (yi_shl (b : Int) 8)) (yi_shl (c : Int) 12)) (yi_shl (e : Int) 16))], (I, L, R, Y), 0, 0) (fun _ => rfl) ?_
  refine yi_D_reti rfl ?_
  rw [cd_mk hw ha hb hc he]
theorem p_clauseCodeI {d : Nat} {I L : Nat → Nat → Int} {R : Nat → Nat → Option Nat} {Y : (Nat → Nat) × (Nat → Nat) × Nat} (w a b c e : Nat) {x0 x1 x2 x3 x4 : Int} (h0 : x0 = (w : Int)) (h1 : x1 = (a : Int)) (h2 : x2 = (b : Int)) (h3 : x3 = (c : Int)) (h4 : x4 = (e : Int)) (hw : w < 16) (ha : a < 16) (hb : b < 16) (hc : c < 16) (he : e < 16) : yi_P zi_Ms d 143 [.inl x0, .inl x1, .inl x2, .inl x3, .inl x4] (I, L, R, Y) (fun r => r = (some (.inl ((cc_cd w a b c e : Nat) : Int)), (I, L, R, Y), 0, 0)) := by
  subst h0 h1 h2 h3 h4
  exact p_clauseCodeE hw ha hb hc he
theorem cc_E_E {I I' : Nat → Nat → Int} {u : Nat} {w : Int} (h : cc_E I I' u w) : cs_E I I' := fun p k h1 h2 => h.2.2 p k (by omega) (by omega)
theorem p_emitWhenC {d : Nat} {I L : Nat → Nat → Int} {R : Nat → Nat → Option Nat} {Y : (Nat → Nat) × (Nat → Nat) × Nat} {w x y z : Int} {nw : Bool} {who ev wh n : Nat} {K P V : Nat → Int} {te q : Nat} {ld : Nat → Int} {nm : Int → Int} (hW : cs_W I L R Y K P V te q ld nm) {u0 da : Nat} {cb : List (Int × Int)} {fx : Nat → Int} {b0 vg : Int} {cs : List (Int × Int)} (hda : ld 0 = (da : Int)) (hf : I 11 11 = 0) (hcc : cc_S (trF da vg) u0 cb fx b0 vg nw I cs) (hb : u0 + (cs.length - cb.length) < 1002) (hw : w = ((18 + wh : Nat) : Int)) (hx : x = (who : Int)) (hy : y = (ev : Int)) (hz : z = (n : Int)) (bd : who ≤ 5 ∧ ev < 4 ∧ wh ≤ 6 ∧ n ≤ 6 ∧ da ≤ 6) (hn4 : wh = 4 → n = 0) (hnw : nw = decide (who < 4)) : yi_P zi_Ms d 250 [.inr (.inr (some 11)), .inl w, .inl x, .inl y, .inl z] (I, L, R, Y) (fun r => ∃ I', r = (none, (I', L, R, Y), 0, 0) ∧ cs_E I I' ∧ cc_S (trF da vg) u0 cb fx b0 vg false I' (cs ++ [(11, sp_cc x y (w - 18) z)])) := by
  refine yi_P_of (M := zi_m250) rfl (fun d k => ?_)
  have hq0 := hW.2.2.1.1
  show yi_D zi_Ms d zi_m250 k (0, [(0, .inr (.inr (some 11))), (1, .inl w), (2, .inl x), (3, .inl y), (4, .inl z)], [], (I, L, R, Y), 0, 0) _
  refine yi_D_run 2 (3, [(0, .inr (.inr (some 11))), (1, .inl w), (2, .inl x), (3, .inl y), (4, .inl z)], [.inl 23, .inl w], (I, L, R, Y), 0, 0) (fun _ => rfl) ?_
  by_cases h1 : w = 23
  · refine yi_D_if2 true rfl (yi_eq_t h1) ?_
    refine yi_D_run 6 (25, [(0, .inr (.inr (some 11))), (1, .inl w), (2, .inl x), (3, .inl y), (4, .inl z)], [.inl 23, .inl w, .inl y, .inl x, .inl 5, .inr (.inr (some 11))], (I, L, R, Y), 0, 0) (fun _ => rfl) ?_
    have h2 : w = 23 := by omega
    refine yi_D_if2 false rfl (yi_ne_f h2) ?_
    refine yi_D_run 3 (36, [(0, .inr (.inr (some 11))), (1, .inl w), (2, .inl x), (3, .inl y), (4, .inl z)], [.inl z, .inl z, .inl y, .inl x, .inl 5, .inr (.inr (some 11))], (I, L, R, Y), 0, 0) (fun _ => rfl) ?_
    refine yi_D_calls rfl (p_clauseCodeI 5 who ev n n rfl hx hy hz hz (by omega) (by omega) (by omega) (by omega) (by omega)) ?_
    rintro _ rfl
    show yi_D zi_Ms d zi_m250 k (39, [(0, .inr (.inr (some 11))), (1, .inl w), (2, .inl x), (3, .inl y), (4, .inl z)], [.inl ((cc_cd 5 who ev n n : Nat) : Int), .inr (.inr (some 11))], (I, L, R, Y), 0, 0) _
    refine yi_D_callv rfl (p_emitC hW hf (cc_u hcc) hb) ?_
    rintro _ ⟨I3, rfl, hE4⟩
    show yi_D zi_Ms d zi_m250 k (42, [(0, .inr (.inr (some 11))), (1, .inl w), (2, .inl x), (3, .inl y), (4, .inl z)], [], (I3, L, R, Y), 0, 0) _
    refine yi_D_retv rfl ?_
    have hwh : wh = 5 := by omega
    subst hwh
    refine ⟨_, rfl, cc_E_E hE4, cc_push hcc hE4 ?_ ?_ (show ¬ (11 : Int) = 0 by decide)⟩
    · rw [hx, hy, hz, show w - 18 = ((5 : Nat) : Int) by omega, trC_cc (by omega) (by omega) (by omega) (by omega)]
      rfl
    · rw [hx, hy, hz, show w - 18 = ((5 : Nat) : Int) by omega, isnm_cc (by omega) (by omega) (by omega) (by omega), hnw]
      exact decide_eq_decide.2 (by omega)
  · refine yi_D_if2 false rfl (yi_eq_f h1) ?_
    refine yi_D_run 2 (9, [(0, .inr (.inr (some 11))), (1, .inl w), (2, .inl x), (3, .inl y), (4, .inl z)], [.inl 24, .inl w], (I, L, R, Y), 0, 0) (fun _ => rfl) ?_
    by_cases h5 : w = 24
    · refine yi_D_if2 true rfl (yi_eq_t h5) ?_
      refine yi_D_run 6 (25, [(0, .inr (.inr (some 11))), (1, .inl w), (2, .inl x), (3, .inl y), (4, .inl z)], [.inl 23, .inl w, .inl y, .inl x, .inl 5, .inr (.inr (some 11))], (I, L, R, Y), 0, 0) (fun _ => rfl) ?_
      have h6 : ¬ (w = 23) := by omega
      refine yi_D_if2 true rfl (yi_ne_t h6) ?_
      refine yi_D_run 2 (36, [(0, .inr (.inr (some 11))), (1, .inl w), (2, .inl x), (3, .inl y), (4, .inl z)], [.inl z, .inl 0, .inl y, .inl x, .inl 5, .inr (.inr (some 11))], (I, L, R, Y), 0, 0) (fun _ => rfl) ?_
      refine yi_D_calls rfl (p_clauseCodeI 5 who ev 0 n rfl hx hy rfl hz (by omega) (by omega) (by omega) (by omega) (by omega)) ?_
      rintro _ rfl
      show yi_D zi_Ms d zi_m250 k (39, [(0, .inr (.inr (some 11))), (1, .inl w), (2, .inl x), (3, .inl y), (4, .inl z)], [.inl ((cc_cd 5 who ev 0 n : Nat) : Int), .inr (.inr (some 11))], (I, L, R, Y), 0, 0) _
      refine yi_D_callv rfl (p_emitC hW hf (cc_u hcc) hb) ?_
      rintro _ ⟨I7, rfl, hE8⟩
      show yi_D zi_Ms d zi_m250 k (42, [(0, .inr (.inr (some 11))), (1, .inl w), (2, .inl x), (3, .inl y), (4, .inl z)], [], (I7, L, R, Y), 0, 0) _
      refine yi_D_retv rfl ?_
      have hwh : wh = 6 := by omega
      subst hwh
      refine ⟨_, rfl, cc_E_E hE8, cc_push hcc hE8 ?_ ?_ (show ¬ (11 : Int) = 0 by decide)⟩
      · rw [hx, hy, hz, show w - 18 = ((6 : Nat) : Int) by omega, trC_cc (by omega) (by omega) (by omega) (by omega)]
        rfl
      · rw [hx, hy, hz, show w - 18 = ((6 : Nat) : Int) by omega, isnm_cc (by omega) (by omega) (by omega) (by omega), hnw]
        exact decide_eq_decide.2 (by omega)
    · refine yi_D_if2 false rfl (yi_eq_f h5) ?_
      refine yi_D_run 2 (15, [(0, .inr (.inr (some 11))), (1, .inl w), (2, .inl x), (3, .inl y), (4, .inl z)], [.inl 22, .inl w], (I, L, R, Y), 0, 0) (fun _ => rfl) ?_
      by_cases h9 : w = 22
      · refine yi_D_if2 false rfl (yi_ne_f h9) ?_
        refine yi_D_run 6 (25, [(0, .inr (.inr (some 11))), (1, .inl w), (2, .inl x), (3, .inl y), (4, .inl z)], [.inl 23, .inl w, .inl y, .inl x, .inl 5, .inr (.inr (some 11))], (I, L, R, Y), 0, 0) (fun _ => rfl) ?_
        have h10 : ¬ (w = 23) := by omega
        refine yi_D_if2 true rfl (yi_ne_t h10) ?_
        refine yi_D_run 2 (36, [(0, .inr (.inr (some 11))), (1, .inl w), (2, .inl x), (3, .inl y), (4, .inl z)], [.inl z, .inl 0, .inl y, .inl x, .inl 5, .inr (.inr (some 11))], (I, L, R, Y), 0, 0) (fun _ => rfl) ?_
        refine yi_D_calls rfl (p_clauseCodeI 5 who ev 0 n rfl hx hy rfl hz (by omega) (by omega) (by omega) (by omega) (by omega)) ?_
        rintro _ rfl
        show yi_D zi_Ms d zi_m250 k (39, [(0, .inr (.inr (some 11))), (1, .inl w), (2, .inl x), (3, .inl y), (4, .inl z)], [.inl ((cc_cd 5 who ev 0 n : Nat) : Int), .inr (.inr (some 11))], (I, L, R, Y), 0, 0) _
        refine yi_D_callv rfl (p_emitC hW hf (cc_u hcc) hb) ?_
        rintro _ ⟨I11, rfl, hE12⟩
        show yi_D zi_Ms d zi_m250 k (42, [(0, .inr (.inr (some 11))), (1, .inl w), (2, .inl x), (3, .inl y), (4, .inl z)], [], (I11, L, R, Y), 0, 0) _
        refine yi_D_retv rfl ?_
        have hwh : wh = 4 := by omega
        subst hwh
        refine ⟨_, rfl, cc_E_E hE12, cc_push hcc hE12 ?_ ?_ (show ¬ (11 : Int) = 0 by decide)⟩
        · rw [hx, hy, hz, show w - 18 = ((4 : Nat) : Int) by omega, trC_cc (by omega) (by omega) (by omega) (by omega)]
          have hn0 : n = 0 := hn4 rfl
          subst hn0
          rfl
        · rw [hx, hy, hz, show w - 18 = ((4 : Nat) : Int) by omega, isnm_cc (by omega) (by omega) (by omega) (by omega), hnw]
          exact decide_eq_decide.2 (by omega)
      · refine yi_D_if2 true rfl (yi_ne_t h9) ?_
        refine yi_D_run 2 (46, [(0, .inr (.inr (some 11))), (1, .inl w), (2, .inl x), (3, .inl y), (4, .inl z)], [.inl 19, .inl w], (I, L, R, Y), 0, 0) (fun _ => rfl) ?_
        by_cases h13 : w = 19
        · refine yi_D_if2 true rfl (yi_eq_t h13) ?_
          refine yi_D_run 5 (78, [(5, .inl 1), (0, .inr (.inr (some 11))), (1, .inl w), (2, .inl x), (3, .inl y), (4, .inl z)], [.inl 20, .inl w], (I, L, R, Y), 0, 0) (fun _ => rfl) ?_
          have h14 : ¬ (w = 20) := by omega
          refine yi_D_if2 false rfl (yi_eq_f h14) ?_
          refine yi_D_run 2 (84, [(5, .inl 1), (0, .inr (.inr (some 11))), (1, .inl w), (2, .inl x), (3, .inl y), (4, .inl z)], [.inl 21, .inl w], (I, L, R, Y), 0, 0) (fun _ => rfl) ?_
          have h15 : ¬ (w = 21) := by omega
          refine yi_D_if2 true rfl (yi_ne_t h15) ?_
          refine yi_D_run 7 (100, [(6, .inl 0), (5, .inl 1), (0, .inr (.inr (some 11))), (1, .inl w), (2, .inl x), (3, .inl y), (4, .inl z)], [.inl 1, .inl y, .inl x, .inl 4, .inr (.inr (some 11))], (I, L, R, Y), 0, 0) (fun _ => rfl) ?_
          refine yi_D_if1 false rfl (by decide) ?_
          refine yi_D_run 3 (111, [(6, .inl 0), (5, .inl 1), (0, .inr (.inr (some 11))), (1, .inl w), (2, .inl x), (3, .inl y), (4, .inl z)], [.inl 0, .inl 1, .inl y, .inl x, .inl 4, .inr (.inr (some 11))], (I, L, R, Y), 0, 0) (fun _ => rfl) ?_
          refine yi_D_if1 true rfl (by decide) ?_
          refine yi_D_run 1 (126, [(6, .inl 0), (5, .inl 1), (0, .inr (.inr (some 11))), (1, .inl w), (2, .inl x), (3, .inl y), (4, .inl z)], [.inl z, .inl 1, .inl y, .inl x, .inl 4, .inr (.inr (some 11))], (I, L, R, Y), 0, 0) (fun _ => rfl) ?_
          refine yi_D_calls rfl (p_clauseCodeI 4 who ev 1 n rfl hx hy rfl hz (by omega) (by omega) (by omega) (by omega) (by omega)) ?_
          rintro _ rfl
          show yi_D zi_Ms d zi_m250 k (129, [(6, .inl 0), (5, .inl 1), (0, .inr (.inr (some 11))), (1, .inl w), (2, .inl x), (3, .inl y), (4, .inl z)], [.inl ((cc_cd 4 who ev 1 n : Nat) : Int), .inr (.inr (some 11))], (I, L, R, Y), 0, 0) _
          refine yi_D_callv rfl (p_emitC hW hf (cc_u hcc) hb) ?_
          rintro _ ⟨I16, rfl, hE17⟩
          show yi_D zi_Ms d zi_m250 k (132, [(6, .inl 0), (5, .inl 1), (0, .inr (.inr (some 11))), (1, .inl w), (2, .inl x), (3, .inl y), (4, .inl z)], [], (I16, L, R, Y), 0, 0) _
          refine yi_D_retv rfl ?_
          have hwh : wh = 1 := by omega
          subst hwh
          refine ⟨_, rfl, cc_E_E hE17, cc_push hcc hE17 ?_ ?_ (show ¬ (11 : Int) = 0 by decide)⟩
          · rw [hx, hy, hz, show w - 18 = ((1 : Nat) : Int) by omega, trC_cc (by omega) (by omega) (by omega) (by omega)]
            rfl
          · rw [hx, hy, hz, show w - 18 = ((1 : Nat) : Int) by omega, isnm_cc (by omega) (by omega) (by omega) (by omega), hnw]
            exact decide_eq_decide.2 (by omega)
        · refine yi_D_if2 false rfl (yi_eq_f h13) ?_
          refine yi_D_run 2 (52, [(0, .inr (.inr (some 11))), (1, .inl w), (2, .inl x), (3, .inl y), (4, .inl z)], [.inl 21, .inl w], (I, L, R, Y), 0, 0) (fun _ => rfl) ?_
          by_cases h18 : w = 21
          · refine yi_D_if2 true rfl (yi_eq_t h18) ?_
            refine yi_D_run 5 (78, [(5, .inl 1), (0, .inr (.inr (some 11))), (1, .inl w), (2, .inl x), (3, .inl y), (4, .inl z)], [.inl 20, .inl w], (I, L, R, Y), 0, 0) (fun _ => rfl) ?_
            have h19 : ¬ (w = 20) := by omega
            refine yi_D_if2 false rfl (yi_eq_f h19) ?_
            refine yi_D_run 2 (84, [(5, .inl 1), (0, .inr (.inr (some 11))), (1, .inl w), (2, .inl x), (3, .inl y), (4, .inl z)], [.inl 21, .inl w], (I, L, R, Y), 0, 0) (fun _ => rfl) ?_
            have h20 : w = 21 := by omega
            refine yi_D_if2 false rfl (yi_ne_f h20) ?_
            refine yi_D_run 8 (100, [(6, .inl 1), (5, .inl 1), (0, .inr (.inr (some 11))), (1, .inl w), (2, .inl x), (3, .inl y), (4, .inl z)], [.inl 1, .inl y, .inl x, .inl 4, .inr (.inr (some 11))], (I, L, R, Y), 0, 0) (fun _ => rfl) ?_
            refine yi_D_if1 false rfl (by decide) ?_
            refine yi_D_run 3 (111, [(6, .inl 1), (5, .inl 1), (0, .inr (.inr (some 11))), (1, .inl w), (2, .inl x), (3, .inl y), (4, .inl z)], [.inl 1, .inl 1, .inl y, .inl x, .inl 4, .inr (.inr (some 11))], (I, L, R, Y), 0, 0) (fun _ => rfl) ?_
            refine yi_D_if1 false rfl (by decide) ?_
            refine yi_D_run 1 (115, [(6, .inl 1), (5, .inl 1), (0, .inr (.inr (some 11))), (1, .inl w), (2, .inl x), (3, .inl y), (4, .inl z)], [.inr (.inr (some 11)), .inl 1, .inl y, .inl x, .inl 4, .inr (.inr (some 11))], (I, L, R, Y), 0, 0) (fun _ => rfl) ?_
            refine yi_D_gr (v := some q) rfl rfl rfl hW.2.2.1.2.1 (fun _ => ?_)
            refine yi_D_gi (v := (da : Int)) rfl rfl (Nat.ble_eq_true_of_le (by omega)) (hW.2.2.2.1.1.trans hda) (fun _ => ?_)
            refine yi_D_run 1 (126, [(6, .inl 1), (5, .inl 1), (0, .inr (.inr (some 11))), (1, .inl w), (2, .inl x), (3, .inl y), (4, .inl z)], [.inl (da : Int), .inl 1, .inl y, .inl x, .inl 4, .inr (.inr (some 11))], (I, L, R, Y), 0, 0) (fun _ => rfl) ?_
            refine yi_D_calls rfl (p_clauseCodeI 4 who ev 1 da rfl hx hy rfl rfl (by omega) (by omega) (by omega) (by omega) (by omega)) ?_
            rintro _ rfl
            show yi_D zi_Ms d zi_m250 k (129, [(6, .inl 1), (5, .inl 1), (0, .inr (.inr (some 11))), (1, .inl w), (2, .inl x), (3, .inl y), (4, .inl z)], [.inl ((cc_cd 4 who ev 1 da : Nat) : Int), .inr (.inr (some 11))], (I, L, R, Y), 0, 0) _
            refine yi_D_callv rfl (p_emitC hW hf (cc_u hcc) hb) ?_
            rintro _ ⟨I21, rfl, hE22⟩
            show yi_D zi_Ms d zi_m250 k (132, [(6, .inl 1), (5, .inl 1), (0, .inr (.inr (some 11))), (1, .inl w), (2, .inl x), (3, .inl y), (4, .inl z)], [], (I21, L, R, Y), 0, 0) _
            refine yi_D_retv rfl ?_
            have hwh : wh = 3 := by omega
            subst hwh
            refine ⟨_, rfl, cc_E_E hE22, cc_push hcc hE22 ?_ ?_ (show ¬ (11 : Int) = 0 by decide)⟩
            · rw [hx, hy, hz, show w - 18 = ((3 : Nat) : Int) by omega, trC_cc (by omega) (by omega) (by omega) (by omega)]
              rfl
            · rw [hx, hy, hz, show w - 18 = ((3 : Nat) : Int) by omega, isnm_cc (by omega) (by omega) (by omega) (by omega), hnw]
              exact decide_eq_decide.2 (by omega)
          · refine yi_D_if2 false rfl (yi_eq_f h18) ?_
            refine yi_D_run 2 (58, [(0, .inr (.inr (some 11))), (1, .inl w), (2, .inl x), (3, .inl y), (4, .inl z)], [.inl 18, .inl w], (I, L, R, Y), 0, 0) (fun _ => rfl) ?_
            by_cases h23 : w = 18
            · refine yi_D_if2 false rfl (yi_ne_f h23) ?_
              refine yi_D_run 1 (62, [(0, .inr (.inr (some 11))), (1, .inl w), (2, .inl x), (3, .inl y), (4, .inl z)], [.inr (.inr (some 11))], (I, L, R, Y), 0, 0) (fun _ => rfl) ?_
              refine yi_D_gi (v := vg) rfl rfl rfl hcc.2.2.2.2.1 (fun _ => ?_)
              by_cases h24 : vg = 0
              · refine yi_D_if1 true rfl (yi_eq_t h24) ?_
                refine yi_D_run 4 (78, [(5, .inl 0), (0, .inr (.inr (some 11))), (1, .inl w), (2, .inl x), (3, .inl y), (4, .inl z)], [.inl 20, .inl w], (I, L, R, Y), 0, 0) (fun _ => rfl) ?_
                have h25 : ¬ (w = 20) := by omega
                refine yi_D_if2 false rfl (yi_eq_f h25) ?_
                refine yi_D_run 2 (84, [(5, .inl 0), (0, .inr (.inr (some 11))), (1, .inl w), (2, .inl x), (3, .inl y), (4, .inl z)], [.inl 21, .inl w], (I, L, R, Y), 0, 0) (fun _ => rfl) ?_
                have h26 : ¬ (w = 21) := by omega
                refine yi_D_if2 true rfl (yi_ne_t h26) ?_
                refine yi_D_run 7 (100, [(6, .inl 0), (5, .inl 0), (0, .inr (.inr (some 11))), (1, .inl w), (2, .inl x), (3, .inl y), (4, .inl z)], [.inl 0, .inl y, .inl x, .inl 4, .inr (.inr (some 11))], (I, L, R, Y), 0, 0) (fun _ => rfl) ?_
                refine yi_D_if1 true rfl (by decide) ?_
                refine yi_D_run 2 (111, [(6, .inl 0), (5, .inl 0), (0, .inr (.inr (some 11))), (1, .inl w), (2, .inl x), (3, .inl y), (4, .inl z)], [.inl 0, .inl z, .inl y, .inl x, .inl 4, .inr (.inr (some 11))], (I, L, R, Y), 0, 0) (fun _ => rfl) ?_
                refine yi_D_if1 true rfl (by decide) ?_
                refine yi_D_run 1 (126, [(6, .inl 0), (5, .inl 0), (0, .inr (.inr (some 11))), (1, .inl w), (2, .inl x), (3, .inl y), (4, .inl z)], [.inl z, .inl z, .inl y, .inl x, .inl 4, .inr (.inr (some 11))], (I, L, R, Y), 0, 0) (fun _ => rfl) ?_
                refine yi_D_calls rfl (p_clauseCodeI 4 who ev n n rfl hx hy hz hz (by omega) (by omega) (by omega) (by omega) (by omega)) ?_
                rintro _ rfl
                show yi_D zi_Ms d zi_m250 k (129, [(6, .inl 0), (5, .inl 0), (0, .inr (.inr (some 11))), (1, .inl w), (2, .inl x), (3, .inl y), (4, .inl z)], [.inl ((cc_cd 4 who ev n n : Nat) : Int), .inr (.inr (some 11))], (I, L, R, Y), 0, 0) _
                refine yi_D_callv rfl (p_emitC hW hf (cc_u hcc) hb) ?_
                rintro _ ⟨I27, rfl, hE28⟩
                show yi_D zi_Ms d zi_m250 k (132, [(6, .inl 0), (5, .inl 0), (0, .inr (.inr (some 11))), (1, .inl w), (2, .inl x), (3, .inl y), (4, .inl z)], [], (I27, L, R, Y), 0, 0) _
                refine yi_D_retv rfl ?_
                have hwh : wh = 0 := by omega
                subst hwh
                refine ⟨_, rfl, cc_E_E hE28, cc_push hcc hE28 ?_ ?_ (show ¬ (11 : Int) = 0 by decide)⟩
                · rw [hx, hy, hz, show w - 18 = ((0 : Nat) : Int) by omega, trC_cc (by omega) (by omega) (by omega) (by omega)]
                  show ((cc_cd 4 who ev (if ¬ vg = 0 then 1 else n) n : Nat) : Int) = _
                  rw [if_neg (by omega)]
                · rw [hx, hy, hz, show w - 18 = ((0 : Nat) : Int) by omega, isnm_cc (by omega) (by omega) (by omega) (by omega), hnw]
                  exact decide_eq_decide.2 (by omega)
              · refine yi_D_if1 false rfl (yi_eq_f h24) ?_
                refine yi_D_run 5 (78, [(5, .inl 1), (0, .inr (.inr (some 11))), (1, .inl w), (2, .inl x), (3, .inl y), (4, .inl z)], [.inl 20, .inl w], (I, L, R, Y), 0, 0) (fun _ => rfl) ?_
                have h29 : ¬ (w = 20) := by omega
                refine yi_D_if2 false rfl (yi_eq_f h29) ?_
                refine yi_D_run 2 (84, [(5, .inl 1), (0, .inr (.inr (some 11))), (1, .inl w), (2, .inl x), (3, .inl y), (4, .inl z)], [.inl 21, .inl w], (I, L, R, Y), 0, 0) (fun _ => rfl) ?_
                have h30 : ¬ (w = 21) := by omega
                refine yi_D_if2 true rfl (yi_ne_t h30) ?_
                refine yi_D_run 7 (100, [(6, .inl 0), (5, .inl 1), (0, .inr (.inr (some 11))), (1, .inl w), (2, .inl x), (3, .inl y), (4, .inl z)], [.inl 1, .inl y, .inl x, .inl 4, .inr (.inr (some 11))], (I, L, R, Y), 0, 0) (fun _ => rfl) ?_
                refine yi_D_if1 false rfl (by decide) ?_
                refine yi_D_run 3 (111, [(6, .inl 0), (5, .inl 1), (0, .inr (.inr (some 11))), (1, .inl w), (2, .inl x), (3, .inl y), (4, .inl z)], [.inl 0, .inl 1, .inl y, .inl x, .inl 4, .inr (.inr (some 11))], (I, L, R, Y), 0, 0) (fun _ => rfl) ?_
                refine yi_D_if1 true rfl (by decide) ?_
                refine yi_D_run 1 (126, [(6, .inl 0), (5, .inl 1), (0, .inr (.inr (some 11))), (1, .inl w), (2, .inl x), (3, .inl y), (4, .inl z)], [.inl z, .inl 1, .inl y, .inl x, .inl 4, .inr (.inr (some 11))], (I, L, R, Y), 0, 0) (fun _ => rfl) ?_
                refine yi_D_calls rfl (p_clauseCodeI 4 who ev 1 n rfl hx hy rfl hz (by omega) (by omega) (by omega) (by omega) (by omega)) ?_
                rintro _ rfl
                show yi_D zi_Ms d zi_m250 k (129, [(6, .inl 0), (5, .inl 1), (0, .inr (.inr (some 11))), (1, .inl w), (2, .inl x), (3, .inl y), (4, .inl z)], [.inl ((cc_cd 4 who ev 1 n : Nat) : Int), .inr (.inr (some 11))], (I, L, R, Y), 0, 0) _
                refine yi_D_callv rfl (p_emitC hW hf (cc_u hcc) hb) ?_
                rintro _ ⟨I31, rfl, hE32⟩
                show yi_D zi_Ms d zi_m250 k (132, [(6, .inl 0), (5, .inl 1), (0, .inr (.inr (some 11))), (1, .inl w), (2, .inl x), (3, .inl y), (4, .inl z)], [], (I31, L, R, Y), 0, 0) _
                refine yi_D_retv rfl ?_
                have hwh : wh = 0 := by omega
                subst hwh
                refine ⟨_, rfl, cc_E_E hE32, cc_push hcc hE32 ?_ ?_ (show ¬ (11 : Int) = 0 by decide)⟩
                · rw [hx, hy, hz, show w - 18 = ((0 : Nat) : Int) by omega, trC_cc (by omega) (by omega) (by omega) (by omega)]
                  show ((cc_cd 4 who ev (if ¬ vg = 0 then 1 else n) n : Nat) : Int) = _
                  rw [if_pos (by omega)]
                · rw [hx, hy, hz, show w - 18 = ((0 : Nat) : Int) by omega, isnm_cc (by omega) (by omega) (by omega) (by omega), hnw]
                  exact decide_eq_decide.2 (by omega)
            · refine yi_D_if2 true rfl (yi_ne_t h23) ?_
              refine yi_D_run 4 (78, [(5, .inl 0), (0, .inr (.inr (some 11))), (1, .inl w), (2, .inl x), (3, .inl y), (4, .inl z)], [.inl 20, .inl w], (I, L, R, Y), 0, 0) (fun _ => rfl) ?_
              by_cases h33 : w = 20
              · refine yi_D_if2 true rfl (yi_eq_t h33) ?_
                refine yi_D_run 8 (100, [(6, .inl 1), (5, .inl 0), (0, .inr (.inr (some 11))), (1, .inl w), (2, .inl x), (3, .inl y), (4, .inl z)], [.inl 0, .inl y, .inl x, .inl 4, .inr (.inr (some 11))], (I, L, R, Y), 0, 0) (fun _ => rfl) ?_
                refine yi_D_if1 true rfl (by decide) ?_
                refine yi_D_run 2 (111, [(6, .inl 1), (5, .inl 0), (0, .inr (.inr (some 11))), (1, .inl w), (2, .inl x), (3, .inl y), (4, .inl z)], [.inl 1, .inl z, .inl y, .inl x, .inl 4, .inr (.inr (some 11))], (I, L, R, Y), 0, 0) (fun _ => rfl) ?_
                refine yi_D_if1 false rfl (by decide) ?_
                refine yi_D_run 1 (115, [(6, .inl 1), (5, .inl 0), (0, .inr (.inr (some 11))), (1, .inl w), (2, .inl x), (3, .inl y), (4, .inl z)], [.inr (.inr (some 11)), .inl z, .inl y, .inl x, .inl 4, .inr (.inr (some 11))], (I, L, R, Y), 0, 0) (fun _ => rfl) ?_
                refine yi_D_gr (v := some q) rfl rfl rfl hW.2.2.1.2.1 (fun _ => ?_)
                refine yi_D_gi (v := (da : Int)) rfl rfl (Nat.ble_eq_true_of_le (by omega)) (hW.2.2.2.1.1.trans hda) (fun _ => ?_)
                refine yi_D_run 1 (126, [(6, .inl 1), (5, .inl 0), (0, .inr (.inr (some 11))), (1, .inl w), (2, .inl x), (3, .inl y), (4, .inl z)], [.inl (da : Int), .inl z, .inl y, .inl x, .inl 4, .inr (.inr (some 11))], (I, L, R, Y), 0, 0) (fun _ => rfl) ?_
                refine yi_D_calls rfl (p_clauseCodeI 4 who ev n da rfl hx hy hz rfl (by omega) (by omega) (by omega) (by omega) (by omega)) ?_
                rintro _ rfl
                show yi_D zi_Ms d zi_m250 k (129, [(6, .inl 1), (5, .inl 0), (0, .inr (.inr (some 11))), (1, .inl w), (2, .inl x), (3, .inl y), (4, .inl z)], [.inl ((cc_cd 4 who ev n da : Nat) : Int), .inr (.inr (some 11))], (I, L, R, Y), 0, 0) _
                refine yi_D_callv rfl (p_emitC hW hf (cc_u hcc) hb) ?_
                rintro _ ⟨I34, rfl, hE35⟩
                show yi_D zi_Ms d zi_m250 k (132, [(6, .inl 1), (5, .inl 0), (0, .inr (.inr (some 11))), (1, .inl w), (2, .inl x), (3, .inl y), (4, .inl z)], [], (I34, L, R, Y), 0, 0) _
                refine yi_D_retv rfl ?_
                have hwh : wh = 2 := by omega
                subst hwh
                refine ⟨_, rfl, cc_E_E hE35, cc_push hcc hE35 ?_ ?_ (show ¬ (11 : Int) = 0 by decide)⟩
                · rw [hx, hy, hz, show w - 18 = ((2 : Nat) : Int) by omega, trC_cc (by omega) (by omega) (by omega) (by omega)]
                  rfl
                · rw [hx, hy, hz, show w - 18 = ((2 : Nat) : Int) by omega, isnm_cc (by omega) (by omega) (by omega) (by omega), hnw]
                  exact decide_eq_decide.2 (by omega)
              · refine yi_D_if2 false rfl (yi_eq_f h33) ?_
                refine yi_D_run 2 (84, [(5, .inl 0), (0, .inr (.inr (some 11))), (1, .inl w), (2, .inl x), (3, .inl y), (4, .inl z)], [.inl 21, .inl w], (I, L, R, Y), 0, 0) (fun _ => rfl) ?_
                have h36 : ¬ (w = 21) := by omega
                refine yi_D_if2 true rfl (yi_ne_t h36) ?_
                refine yi_D_run 7 (100, [(6, .inl 0), (5, .inl 0), (0, .inr (.inr (some 11))), (1, .inl w), (2, .inl x), (3, .inl y), (4, .inl z)], [.inl 0, .inl y, .inl x, .inl 4, .inr (.inr (some 11))], (I, L, R, Y), 0, 0) (fun _ => rfl) ?_
                refine yi_D_if1 true rfl (by decide) ?_
                refine yi_D_run 2 (111, [(6, .inl 0), (5, .inl 0), (0, .inr (.inr (some 11))), (1, .inl w), (2, .inl x), (3, .inl y), (4, .inl z)], [.inl 0, .inl z, .inl y, .inl x, .inl 4, .inr (.inr (some 11))], (I, L, R, Y), 0, 0) (fun _ => rfl) ?_
                refine yi_D_if1 true rfl (by decide) ?_
                refine yi_D_run 1 (126, [(6, .inl 0), (5, .inl 0), (0, .inr (.inr (some 11))), (1, .inl w), (2, .inl x), (3, .inl y), (4, .inl z)], [.inl z, .inl z, .inl y, .inl x, .inl 4, .inr (.inr (some 11))], (I, L, R, Y), 0, 0) (fun _ => rfl) ?_
                refine yi_D_calls rfl (p_clauseCodeI 4 who ev n n rfl hx hy hz hz (by omega) (by omega) (by omega) (by omega) (by omega)) ?_
                rintro _ rfl
                show yi_D zi_Ms d zi_m250 k (129, [(6, .inl 0), (5, .inl 0), (0, .inr (.inr (some 11))), (1, .inl w), (2, .inl x), (3, .inl y), (4, .inl z)], [.inl ((cc_cd 4 who ev n n : Nat) : Int), .inr (.inr (some 11))], (I, L, R, Y), 0, 0) _
                refine yi_D_callv rfl (p_emitC hW hf (cc_u hcc) hb) ?_
                rintro _ ⟨I37, rfl, hE38⟩
                show yi_D zi_Ms d zi_m250 k (132, [(6, .inl 0), (5, .inl 0), (0, .inr (.inr (some 11))), (1, .inl w), (2, .inl x), (3, .inl y), (4, .inl z)], [], (I37, L, R, Y), 0, 0) _
                refine yi_D_retv rfl ?_
                exfalso
                omega
/-- who a single clause speaks of -/
def sc_yw (ka nv : Int) : Int := if ka = 14 then 4 else if ka = 15 then 5 else nv
theorem sc_y1 {ka nv y1 : Int} (hk : ka = 3 ∨ ka = 14 ∨ ka = 15) (hn : ka = 3 → 0 ≤ nv ∧ nv ≤ 3) (hy : y1 = sc_yw ka nv) : (0 ≤ y1 ∧ y1 ≤ 5) ∧ (y1 < 4 ↔ ka = 3) := by
  unfold sc_yw at hy
  split at hy
  · omega
  · split at hy <;> omega
theorem p_emitWhenI {d : Nat} {I L : Nat → Nat → Int} {R : Nat → Nat → Option Nat} {Y : (Nat → Nat) × (Nat → Nat) × Nat} {w x y z : Int} {nw : Bool} {K P V : Nat → Int} {te q : Nat} {ld : Nat → Int} {nm : Int → Int} (hW : cs_W I L R Y K P V te q ld nm) {u0 da : Nat} {cb : List (Int × Int)} {fx : Nat → Int} {b0 vg : Int} {cs : List (Int × Int)} (hda : ld 0 = (da : Int)) (hf : I 11 11 = 0) (hcc : cc_S (trF da vg) u0 cb fx b0 vg nw I cs) (hb : u0 + (cs.length - cb.length) < 1002) (hw : 18 ≤ w ∧ w ≤ 24) (hx : 0 ≤ x ∧ x ≤ 5) (hy : 0 ≤ y ∧ y < 4) (hz : 0 ≤ z ∧ z ≤ 6) (hd6 : da ≤ 6) (hn4 : w = 22 → z = 0) (hnw : nw = decide (x < 4)) : yi_P zi_Ms d 250 [.inr (.inr (some 11)), .inl w, .inl x, .inl y, .inl z] (I, L, R, Y) (fun r => ∃ I', r = (none, (I', L, R, Y), 0, 0) ∧ cs_E I I' ∧ cc_S (trF da vg) u0 cb fx b0 vg false I' (cs ++ [(11, sp_cc x y (w - 18) z)])) :=
  p_emitWhenC (who := x.toNat) (ev := y.toNat) (wh := (w - 18).toNat) (n := z.toNat) hW hda hf hcc hb (by omega) (by omega) (by omega) (by omega) ⟨by omega, by omega, by omega, by omega, hd6⟩ (by omega) (by rw [hnw]; exact decide_eq_decide.2 (by omega))
set_option maxHeartbeats 4000000 in
theorem p_readSingleC {d : Nat} {I L : Nat → Nat → Int} {R : Nat → Nat → Option Nat} {Y : (Nat → Nat) × (Nat → Nat) × Nat} {K P V : Nat → Int} {te q a : Nat} {ld : Nat → Int} {nm : Int → Int} (hW : cs_W I L R Y K P V te q ld nm) (hf : I 11 11 = 0) (hA : cs_A I L K te a) (hk : K a = 3 ∨ K a = 14 ∨ K a = 15) (hn : K a = 3 → 0 ≤ nm (V a) ∧ nm (V a) ≤ 3) {u0 da : Nat} {cb : List (Int × Int)} {fx : Nat → Int} {b0 vg : Int} {cs : List (Int × Int)} (hda : ld 0 = (da : Int)) (hcc : cc_S (trF da vg) u0 cb fx b0 vg false I cs) (hb : u0 + (cs.length - cb.length) < 1002) : yi_P zi_Ms d 266 [.inr (.inr (some 11))] (I, L, R, Y) (fun r => ∃ I' L', r = (none, (I', L', R, Y), 0, 0) ∧ cs_F I L I' L' ∧ ((∃ a' x, sp_single K P V ld nm a = .inl (a', x) ∧ I' 11 11 = 0 ∧ cs_A I' L' K te a' ∧ cc_S (trF da vg) u0 cb fx b0 vg false I' (cs ++ [(11, x)])) ∨ (∃ f, sp_single K P V ld nm a = .inr f ∧ ¬ f = 0 ∧ I' 11 11 = f))) := by
  refine yi_P_of (M := zi_m266) rfl (fun d k => ?_)
  obtain ⟨ly1, ly2, ly3, ly4⟩ := hW.2.2.1.2.2.2
  have lb := hW.2.2.2.2.1
  have hq0 := hW.2.2.1.1
  have hp := hW.2.1.2.2.1 a hA.2.1
  have hV3 := (hW.2.1.2.2.1 (a + 3))
  have jn144f : ∀ (y4 : Int) (y3 : Int) (y2 : Int) (y1 : Int) (J G : Nat → Nat → Int) (f : Int), cs_F I L J G → J 11 11 = f → ¬ f = 0 → sp_single K P V ld nm a = .inr f → yi_D zi_Ms d zi_m266 k (144, [(4, .inl y4), (3, .inl y3), (2, .inl y2), (1, .inl y1), (0, .inr (.inr (some 11)))], [], (J, G, R, Y), 0, 0) (fun r => ∃ I' L', r = (none, (I', L', R, Y), 0, 0) ∧ cs_F I L I' L' ∧ ((∃ a' x, sp_single K P V ld nm a = .inl (a', x) ∧ I' 11 11 = 0 ∧ cs_A I' L' K te a' ∧ cc_S (trF da vg) u0 cb fx b0 vg false I' (cs ++ [(11, x)])) ∨ (∃ f, sp_single K P V ld nm a = .inr f ∧ ¬ f = 0 ∧ I' 11 11 = f))) := by
    intro y4 y3 y2 y1 J G f jF je jn jsp 
    have jW := cs_W_t hW jF
    have jf : ¬ J 11 11 = 0 := by rw [je]; exact jn
    have jF1 : ∀ p k, (p ≠ 11 ∧ p ≠ 19) → J p k = I p k := fun p k h => jF.1 p k h.1 h.2
    have jF2 := jF.2
    refine yi_D_run 5 (150, [(4, .inl y4), (3, .inl y3), (2, .inl y2), (1, .inl y1), (0, .inr (.inr (some 11)))], [.inl y4, .inl y2, .inl y1, .inl y3, .inr (.inr (some 11))], (J, G, R, Y), 0, 0) (fun _ => rfl) ?_
    refine yi_D_callv rfl (p_emitWhen jW) ?_
    rintro _ ⟨I1, rfl, hE2⟩
    have hW3 := cs_W_t jW (cs_E_F (L := G) hE2)
    have hF4 := cs_F_t jF (cs_E_F hE2)
    have hf5 : ¬ I1 11 11 = 0 := by rw [hE2 11 11 (by omega) (by omega)]; exact jf
    have he6 := (hE2 11 11 (by omega) (by omega)).trans je
    show yi_D zi_Ms d zi_m266 k (153, [(4, .inl y4), (3, .inl y3), (2, .inl y2), (1, .inl y1), (0, .inr (.inr (some 11)))], [], (I1, G, R, Y), 0, 0) _
    refine yi_D_retv rfl ?_
    exact ⟨_, _, rfl, hF4, Or.inr ⟨_, jsp, jn, he6⟩⟩
  have jn95f : ∀ (y3 : Int) (y2 : Int) (y1 : Int) (J G : Nat → Nat → Int) (f : Int), cs_F I L J G → J 11 11 = f → ¬ f = 0 → sp_single K P V ld nm a = .inr f → yi_D zi_Ms d zi_m266 k (95, [(3, .inl y3), (2, .inl y2), (1, .inl y1), (0, .inr (.inr (some 11)))], [], (J, G, R, Y), 0, 0) (fun r => ∃ I' L', r = (none, (I', L', R, Y), 0, 0) ∧ cs_F I L I' L' ∧ ((∃ a' x, sp_single K P V ld nm a = .inl (a', x) ∧ I' 11 11 = 0 ∧ cs_A I' L' K te a' ∧ cc_S (trF da vg) u0 cb fx b0 vg false I' (cs ++ [(11, x)])) ∨ (∃ f, sp_single K P V ld nm a = .inr f ∧ ¬ f = 0 ∧ I' 11 11 = f))) := by
    intro y3 y2 y1 J G f jF je jn jsp 
    have jW := cs_W_t hW jF
    have jf : ¬ J 11 11 = 0 := by rw [je]; exact jn
    have jF1 : ∀ p k, (p ≠ 11 ∧ p ≠ 19) → J p k = I p k := fun p k h => jF.1 p k h.1 h.2
    have jF2 := jF.2
    refine yi_D_run 1 (96, [(3, .inl y3), (2, .inl y2), (1, .inl y1), (0, .inr (.inr (some 11)))], [.inr (.inr (some 11))], (J, G, R, Y), 0, 0) (fun _ => rfl) ?_
    refine yi_D_callv rfl (p_advance_f jW jf) ?_
    rintro _ rfl
    show yi_D zi_Ms d zi_m266 k (99, [(3, .inl y3), (2, .inl y2), (1, .inl y1), (0, .inr (.inr (some 11)))], [], (J, G, R, Y), 0, 0) _
    refine yi_D_run 4 (105, [(4, .inl 0), (3, .inl y3), (2, .inl y2), (1, .inl y1), (0, .inr (.inr (some 11)))], [.inl 21, .inl y3], (J, G, R, Y), 0, 0) (fun _ => rfl) ?_
    by_cases h7 : y3 = 21
    · refine yi_D_if2 true rfl (yi_eq_t h7) ?_
      exact yi_D_mono (jn144f 0 y3 y2 y1 _ _ _ jF je jn jsp ) (by omega)
    · refine yi_D_if2 false rfl (yi_eq_f h7) ?_
      refine yi_D_run 2 (111, [(4, .inl 0), (3, .inl y3), (2, .inl y2), (1, .inl y1), (0, .inr (.inr (some 11)))], [.inl 22, .inl y3], (J, G, R, Y), 0, 0) (fun _ => rfl) ?_
      by_cases h8 : y3 = 22
      · refine yi_D_if2 true rfl (yi_eq_t h8) ?_
        exact yi_D_mono (jn144f 0 y3 y2 y1 _ _ _ jF je jn jsp ) (by omega)
      · refine yi_D_if2 false rfl (yi_eq_f h8) ?_
        refine yi_D_run 3 (118, [(4, .inl 0), (3, .inl y3), (2, .inl y2), (1, .inl y1), (0, .inr (.inr (some 11)))], [.inl 23, .inl y3, .inr (.inr (some 11))], (J, G, R, Y), 0, 0) (fun _ => rfl) ?_
        by_cases h9 : y3 = 23
        · refine yi_D_if2 true rfl (yi_eq_t h9) ?_
          refine yi_D_run 3 (133, [(4, .inl 0), (3, .inl y3), (2, .inl y2), (1, .inl y1), (0, .inr (.inr (some 11)))], [.inr (.inr (some 11)), .inl 0, .inr (.inr (some 11))], (J, G, R, Y), 0, 0) (fun _ => rfl) ?_
          refine yi_D_gr (v := some q) rfl rfl rfl hW.2.2.1.2.1 (fun _ => ?_)
          have r10 : J q 14 = ld 0 := by rw [jF1 q 14 (by omega), hW.2.2.2.1.1]
          refine yi_D_gi (v := ld 0) rfl rfl (Nat.ble_eq_true_of_le (by omega)) r10 (fun _ => ?_)
          
          refine yi_D_callv rfl (p_takeNumber_f jW jf) ?_
          rintro _ ⟨z11, rfl⟩
          show yi_D zi_Ms d zi_m266 k (142, [(4, .inl 0), (3, .inl y3), (2, .inl y2), (1, .inl y1), (0, .inr (.inr (some 11)))], [.inl z11], (J, G, R, Y), 0, 0) _
          refine yi_D_run 1 (144, [(4, .inl z11), (3, .inl y3), (2, .inl y2), (1, .inl y1), (0, .inr (.inr (some 11)))], [], (J, G, R, Y), 0, 0) (fun _ => rfl) ?_
          exact yi_D_mono (jn144f z11 y3 y2 y1 _ _ _ jF je jn jsp ) (by omega)
        · refine yi_D_if2 false rfl (yi_eq_f h9) ?_
          refine yi_D_run 2 (124, [(4, .inl 0), (3, .inl y3), (2, .inl y2), (1, .inl y1), (0, .inr (.inr (some 11)))], [.inl 24, .inl y3, .inr (.inr (some 11))], (J, G, R, Y), 0, 0) (fun _ => rfl) ?_
          by_cases h12 : y3 = 24
          · refine yi_D_if2 false rfl (yi_ne_f h12) ?_
            refine yi_D_run 3 (133, [(4, .inl 0), (3, .inl y3), (2, .inl y2), (1, .inl y1), (0, .inr (.inr (some 11)))], [.inr (.inr (some 11)), .inl 0, .inr (.inr (some 11))], (J, G, R, Y), 0, 0) (fun _ => rfl) ?_
            refine yi_D_gr (v := some q) rfl rfl rfl hW.2.2.1.2.1 (fun _ => ?_)
            have r13 : J q 14 = ld 0 := by rw [jF1 q 14 (by omega), hW.2.2.2.1.1]
            refine yi_D_gi (v := ld 0) rfl rfl (Nat.ble_eq_true_of_le (by omega)) r13 (fun _ => ?_)
            
            refine yi_D_callv rfl (p_takeNumber_f jW jf) ?_
            rintro _ ⟨z14, rfl⟩
            show yi_D zi_Ms d zi_m266 k (142, [(4, .inl 0), (3, .inl y3), (2, .inl y2), (1, .inl y1), (0, .inr (.inr (some 11)))], [.inl z14], (J, G, R, Y), 0, 0) _
            refine yi_D_run 1 (144, [(4, .inl z14), (3, .inl y3), (2, .inl y2), (1, .inl y1), (0, .inr (.inr (some 11)))], [], (J, G, R, Y), 0, 0) (fun _ => rfl) ?_
            exact yi_D_mono (jn144f z14 y3 y2 y1 _ _ _ jF je jn jsp ) (by omega)
          · refine yi_D_if2 true rfl (yi_ne_t h12) ?_
            refine yi_D_run 2 (133, [(4, .inl 0), (3, .inl y3), (2, .inl y2), (1, .inl y1), (0, .inr (.inr (some 11)))], [.inr (.inr (some 11)), .inl 1, .inr (.inr (some 11))], (J, G, R, Y), 0, 0) (fun _ => rfl) ?_
            refine yi_D_gr (v := some q) rfl rfl rfl hW.2.2.1.2.1 (fun _ => ?_)
            have r15 : J q 14 = ld 0 := by rw [jF1 q 14 (by omega), hW.2.2.2.1.1]
            refine yi_D_gi (v := ld 0) rfl rfl (Nat.ble_eq_true_of_le (by omega)) r15 (fun _ => ?_)
            
            refine yi_D_callv rfl (p_takeNumber_f jW jf) ?_
            rintro _ ⟨z16, rfl⟩
            show yi_D zi_Ms d zi_m266 k (142, [(4, .inl 0), (3, .inl y3), (2, .inl y2), (1, .inl y1), (0, .inr (.inr (some 11)))], [.inl z16], (J, G, R, Y), 0, 0) _
            refine yi_D_run 1 (144, [(4, .inl z16), (3, .inl y3), (2, .inl y2), (1, .inl y1), (0, .inr (.inr (some 11)))], [], (J, G, R, Y), 0, 0) (fun _ => rfl) ?_
            exact yi_D_mono (jn144f z16 y3 y2 y1 _ _ _ jF je jn jsp ) (by omega)
  have jn73f : ∀ (y2 : Int) (y1 : Int) (J G : Nat → Nat → Int) (f : Int), cs_F I L J G → J 11 11 = f → ¬ f = 0 → sp_single K P V ld nm a = .inr f → yi_D zi_Ms d zi_m266 k (73, [(2, .inl y2), (1, .inl y1), (0, .inr (.inr (some 11)))], [], (J, G, R, Y), 0, 0) (fun r => ∃ I' L', r = (none, (I', L', R, Y), 0, 0) ∧ cs_F I L I' L' ∧ ((∃ a' x, sp_single K P V ld nm a = .inl (a', x) ∧ I' 11 11 = 0 ∧ cs_A I' L' K te a' ∧ cc_S (trF da vg) u0 cb fx b0 vg false I' (cs ++ [(11, x)])) ∨ (∃ f, sp_single K P V ld nm a = .inr f ∧ ¬ f = 0 ∧ I' 11 11 = f))) := by
    intro y2 y1 J G f jF je jn jsp 
    have jW := cs_W_t hW jF
    have jf : ¬ J 11 11 = 0 := by rw [je]; exact jn
    have jF1 : ∀ p k, (p ≠ 11 ∧ p ≠ 19) → J p k = I p k := fun p k h => jF.1 p k h.1 h.2
    have jF2 := jF.2
    refine yi_D_run 1 (74, [(2, .inl y2), (1, .inl y1), (0, .inr (.inr (some 11)))], [.inr (.inr (some 11))], (J, G, R, Y), 0, 0) (fun _ => rfl) ?_
    refine yi_D_gi (v := J 11 9) rfl rfl rfl rfl (fun _ => ?_)
    refine yi_D_run 3 (81, [(3, .inl (J 11 9)), (2, .inl y2), (1, .inl y1), (0, .inr (.inr (some 11)))], [.inl 18, .inl (J 11 9)], (J, G, R, Y), 0, 0) (fun _ => rfl) ?_
    by_cases h17 : (J 11 9) < 18
    · refine yi_D_if2 true rfl (yi_lt_t h17) ?_
      refine yi_D_run 2 (92, [(3, .inl (J 11 9)), (2, .inl y2), (1, .inl y1), (0, .inr (.inr (some 11)))], [.inl 1, .inr (.inr (some 11))], (J, G, R, Y), 0, 0) (fun _ => rfl) ?_
      refine yi_D_callv rfl (p_wrong_f jW jf) ?_
      rintro _ rfl
      show yi_D zi_Ms d zi_m266 k (95, [(3, .inl (J 11 9)), (2, .inl y2), (1, .inl y1), (0, .inr (.inr (some 11)))], [], (J, G, R, Y), 0, 0) _
      exact yi_D_mono (jn95f (J 11 9) y2 y1 _ _ _ jF je jn jsp ) (by omega)
    · refine yi_D_if2 false rfl (yi_lt_f h17) ?_
      refine yi_D_run 2 (87, [(3, .inl (J 11 9)), (2, .inl y2), (1, .inl y1), (0, .inr (.inr (some 11)))], [.inl 24, .inl (J 11 9)], (J, G, R, Y), 0, 0) (fun _ => rfl) ?_
      by_cases h18 : (J 11 9) ≤ 24
      · refine yi_D_if2 true rfl (yi_le_t h18) ?_
        exact yi_D_mono (jn95f (J 11 9) y2 y1 _ _ _ jF je jn jsp ) (by omega)
      · refine yi_D_if2 false rfl (yi_le_f h18) ?_
        refine yi_D_run 2 (92, [(3, .inl (J 11 9)), (2, .inl y2), (1, .inl y1), (0, .inr (.inr (some 11)))], [.inl 1, .inr (.inr (some 11))], (J, G, R, Y), 0, 0) (fun _ => rfl) ?_
        refine yi_D_callv rfl (p_wrong_f jW jf) ?_
        rintro _ rfl
        show yi_D zi_Ms d zi_m266 k (95, [(3, .inl (J 11 9)), (2, .inl y2), (1, .inl y1), (0, .inr (.inr (some 11)))], [], (J, G, R, Y), 0, 0) _
        exact yi_D_mono (jn95f (J 11 9) y2 y1 _ _ _ jF je jn jsp ) (by omega)
  have jn54f : ∀ (y1 : Int) (J G : Nat → Nat → Int) (f : Int), cs_F I L J G → J 11 11 = f → ¬ f = 0 → sp_single K P V ld nm a = .inr f → yi_D zi_Ms d zi_m266 k (54, [(1, .inl y1), (0, .inr (.inr (some 11)))], [], (J, G, R, Y), 0, 0) (fun r => ∃ I' L', r = (none, (I', L', R, Y), 0, 0) ∧ cs_F I L I' L' ∧ ((∃ a' x, sp_single K P V ld nm a = .inl (a', x) ∧ I' 11 11 = 0 ∧ cs_A I' L' K te a' ∧ cc_S (trF da vg) u0 cb fx b0 vg false I' (cs ++ [(11, x)])) ∨ (∃ f, sp_single K P V ld nm a = .inr f ∧ ¬ f = 0 ∧ I' 11 11 = f))) := by
    intro y1 J G f jF je jn jsp 
    have jW := cs_W_t hW jF
    have jf : ¬ J 11 11 = 0 := by rw [je]; exact jn
    have jF1 : ∀ p k, (p ≠ 11 ∧ p ≠ 19) → J p k = I p k := fun p k h => jF.1 p k h.1 h.2
    have jF2 := jF.2
    refine yi_D_run 2 (56, [(1, .inl y1), (0, .inr (.inr (some 11)))], [.inr (.inr (some 11)), .inr (.inr (some 11))], (J, G, R, Y), 0, 0) (fun _ => rfl) ?_
    refine yi_D_gr (v := some q) rfl rfl rfl hW.2.2.1.2.1 (fun _ => ?_)
    refine yi_D_gr (v := some (q + 2)) rfl rfl (Nat.ble_eq_true_of_le (by omega)) (hW.2.2.1.2.2.1 1 (by omega)) (fun _ => ?_)
    refine yi_D_run 1 (63, [(1, .inl y1), (0, .inr (.inr (some 11)))], [.inr (.inr (some 11)), .inr (.inr (some (q + 2))), .inr (.inr (some 11))], (J, G, R, Y), 0, 0) (fun _ => rfl) ?_
    refine yi_D_gr (v := some q) rfl rfl rfl hW.2.2.1.2.1 (fun _ => ?_)
    have r19 : J q 16 = ld 2 := by rw [jF1 q 16 (by omega), hW.2.2.2.1.2.2.1]
    refine yi_D_gi (v := ld 2) rfl rfl (Nat.ble_eq_true_of_le (by omega)) r19 (fun _ => ?_)
    refine yi_D_callv rfl (p_takeName_f (by omega) ⟨by omega, by omega, by omega⟩ jW jf) ?_
    rintro _ ⟨z20, rfl⟩
    show yi_D zi_Ms d zi_m266 k (72, [(1, .inl y1), (0, .inr (.inr (some 11)))], [.inl z20], (J, G, R, Y), 0, 0) _
    refine yi_D_run 1 (73, [(2, .inl z20), (1, .inl y1), (0, .inr (.inr (some 11)))], [], (J, G, R, Y), 0, 0) (fun _ => rfl) ?_
    exact yi_D_mono (jn73f z20 y1 _ _ _ jF je jn jsp ) (by omega)
  have jn54z : ∀ (y1 : Int) (J G : Nat → Nat → Int), cs_F I L J G → J 11 11 = 0 → cs_A J G K te (a + 1) → (y1 = sc_yw (K a) (nm (V a))) → (cc_S (trF da vg) u0 cb fx b0 vg (decide (K a = 3)) J cs) → yi_D zi_Ms d zi_m266 k (54, [(1, .inl y1), (0, .inr (.inr (some 11)))], [], (J, G, R, Y), 0, 0) (fun r => ∃ I' L', r = (none, (I', L', R, Y), 0, 0) ∧ cs_F I L I' L' ∧ ((∃ a' x, sp_single K P V ld nm a = .inl (a', x) ∧ I' 11 11 = 0 ∧ cs_A I' L' K te a' ∧ cc_S (trF da vg) u0 cb fx b0 vg false I' (cs ++ [(11, x)])) ∨ (∃ f, sp_single K P V ld nm a = .inr f ∧ ¬ f = 0 ∧ I' 11 11 = f))) := by
    intro y1 J G jF jf jA jy1 jcc
    have jW := cs_W_t hW jF
    have jF1 : ∀ p k, (p ≠ 11 ∧ p ≠ 19) → J p k = I p k := fun p k h => jF.1 p k h.1 h.2
    have jF2 := jF.2
    refine yi_D_run 2 (56, [(1, .inl y1), (0, .inr (.inr (some 11)))], [.inr (.inr (some 11)), .inr (.inr (some 11))], (J, G, R, Y), 0, 0) (fun _ => rfl) ?_
    refine yi_D_gr (v := some q) rfl rfl rfl hW.2.2.1.2.1 (fun _ => ?_)
    refine yi_D_gr (v := some (q + 2)) rfl rfl (Nat.ble_eq_true_of_le (by omega)) (hW.2.2.1.2.2.1 1 (by omega)) (fun _ => ?_)
    refine yi_D_run 1 (63, [(1, .inl y1), (0, .inr (.inr (some 11)))], [.inr (.inr (some 11)), .inr (.inr (some (q + 2))), .inr (.inr (some 11))], (J, G, R, Y), 0, 0) (fun _ => rfl) ?_
    refine yi_D_gr (v := some q) rfl rfl rfl hW.2.2.1.2.1 (fun _ => ?_)
    have r21 : J q 16 = ld 2 := by rw [jF1 q 16 (by omega), hW.2.2.2.1.2.2.1]
    refine yi_D_gi (v := ld 2) rfl rfl (Nat.ble_eq_true_of_le (by omega)) r21 (fun _ => ?_)
    refine yi_D_callv rfl (p_takeName_z (by omega) ⟨by omega, by omega, by omega⟩ jW jf jA (by omega) jW.2.2.2.2.2.2.2.1.2.1) ?_
    rintro _ (⟨c22, c23, I24, L25, rfl, hGa26, hf27, hA28⟩ | ⟨c29, z34, I30, L31, rfl, hGa32, he33⟩ | ⟨c35, z40, I36, L37, rfl, hGa38, he39⟩)
    · have hA28 : cs_A I24 L25 K te (a + 2) := hA28
      have hW41 := cs_W_t jW (cs_G_F hGa26)
      have hF42 := cs_F_t jF (cs_G_F hGa26)
      have hcc43 := cc_G jcc hGa26
      show yi_D zi_Ms d zi_m266 k (72, [(1, .inl y1), (0, .inr (.inr (some 11)))], [.inl (nm (V (a + 1)) - 4)], (I24, L25, R, Y), 0, 0) _
      refine yi_D_run 2 (74, [(2, .inl (nm (V (a + 1)) - 4)), (1, .inl y1), (0, .inr (.inr (some 11)))], [.inr (.inr (some 11))], (I24, L25, R, Y), 0, 0) (fun _ => rfl) ?_
      refine yi_D_gi (v := K (a + 2)) rfl rfl rfl hA28.2.2.1 (fun _ => ?_)
      refine yi_D_run 3 (81, [(3, .inl (K (a + 2))), (2, .inl (nm (V (a + 1)) - 4)), (1, .inl y1), (0, .inr (.inr (some 11)))], [.inl 18, .inl (K (a + 2))], (I24, L25, R, Y), 0, 0) (fun _ => rfl) ?_
      by_cases h44 : (K (a + 2)) < 18
      · refine yi_D_if2 true rfl (yi_lt_t h44) ?_
        refine yi_D_run 2 (92, [(3, .inl (K (a + 2))), (2, .inl (nm (V (a + 1)) - 4)), (1, .inl y1), (0, .inr (.inr (some 11)))], [.inl 1, .inr (.inr (some 11))], (I24, L25, R, Y), 0, 0) (fun _ => rfl) ?_
        refine yi_D_callv rfl (p_wrong_z ⟨by omega, by omega⟩ hW41 hf27 hA28) ?_
        rintro _ ⟨I45, rfl, hg46, he47⟩
        have hGw48 : cs_G I24 L25 I45 L25 := ⟨fun p k hp => hg46 p k (by omega), fun _ _ _ => rfl⟩
        have hW49 := cs_W_t hW41 (cs_G_F hGw48)
        have hF50 := cs_F_t hF42 (cs_G_F hGw48)
        have hz51 : ¬ sp_f P (a + 2) 1 = 0 := sp_f_ne hW41 hA28.2.1 (by omega)
        have hn52 : ¬ I45 11 11 = 0 := by rw [he47]; exact hz51
        have hx53 : sp_single K P V ld nm a = .inr (sp_f P (a + 2) 1) := by
          first
          | (exfalso; omega)
          | (unfold sp_single; repeat (first | rw [if_pos (by omega)] | rw [if_neg (by omega)]))
        show yi_D zi_Ms d zi_m266 k (95, [(3, .inl (K (a + 2))), (2, .inl (nm (V (a + 1)) - 4)), (1, .inl y1), (0, .inr (.inr (some 11)))], [], (I45, L25, R, Y), 0, 0) _
        exact yi_D_mono (jn95f (K (a + 2)) (nm (V (a + 1)) - 4) y1 _ _ _ hF50 he47 hz51 hx53 ) (by omega)
      · refine yi_D_if2 false rfl (yi_lt_f h44) ?_
        refine yi_D_run 2 (87, [(3, .inl (K (a + 2))), (2, .inl (nm (V (a + 1)) - 4)), (1, .inl y1), (0, .inr (.inr (some 11)))], [.inl 24, .inl (K (a + 2))], (I24, L25, R, Y), 0, 0) (fun _ => rfl) ?_
        by_cases h54 : (K (a + 2)) ≤ 24
        · refine yi_D_if2 true rfl (yi_le_t h54) ?_
          refine yi_D_run 1 (96, [(3, .inl (K (a + 2))), (2, .inl (nm (V (a + 1)) - 4)), (1, .inl y1), (0, .inr (.inr (some 11)))], [.inr (.inr (some 11))], (I24, L25, R, Y), 0, 0) (fun _ => rfl) ?_
          refine yi_D_callv rfl (p_advance_z hW41 hf27 hA28) ?_
          rintro _ ⟨I55, L56, rfl, hGa57, hf58, hA59⟩
          rw [sp_nx_lt (cs_lt hW41.2.1 hA28.2.1 (by omega))] at hA59
          have hA59 : cs_A I55 L56 K te (a + 3) := hA59
          have hW60 := cs_W_t hW41 (cs_G_F hGa57)
          have hF61 := cs_F_t hF42 (cs_G_F hGa57)
          have hcc62 := cc_G hcc43 hGa57
          show yi_D zi_Ms d zi_m266 k (99, [(3, .inl (K (a + 2))), (2, .inl (nm (V (a + 1)) - 4)), (1, .inl y1), (0, .inr (.inr (some 11)))], [], (I55, L56, R, Y), 0, 0) _
          refine yi_D_run 4 (105, [(4, .inl 0), (3, .inl (K (a + 2))), (2, .inl (nm (V (a + 1)) - 4)), (1, .inl y1), (0, .inr (.inr (some 11)))], [.inl 21, .inl (K (a + 2))], (I55, L56, R, Y), 0, 0) (fun _ => rfl) ?_
          by_cases h63 : (K (a + 2)) = 21
          · refine yi_D_if2 true rfl (yi_eq_t h63) ?_
            refine yi_D_run 5 (150, [(4, .inl 0), (3, .inl (K (a + 2))), (2, .inl (nm (V (a + 1)) - 4)), (1, .inl y1), (0, .inr (.inr (some 11)))], [.inl 0, .inl (nm (V (a + 1)) - 4), .inl y1, .inl (K (a + 2)), .inr (.inr (some 11))], (I55, L56, R, Y), 0, 0) (fun _ => rfl) ?_
            refine yi_D_callv rfl (p_emitWhenI hW60 hda hf58 hcc62 hb ⟨by omega, by omega⟩ (sc_y1 hk hn jy1).1 ⟨by omega, by omega⟩ ⟨Int.le_refl 0, by decide⟩ (by omega) (fun _ => rfl) (decide_eq_decide.2 (sc_y1 hk hn jy1).2.symm)) ?_
            rintro _ ⟨I64, rfl, hE65, hcc66⟩
            have hW67 := cs_W_t hW60 (cs_E_F (L := L56) hE65)
            have hF68 := cs_F_t hF61 (cs_E_F hE65)
            have hf69 : I64 11 11 = 0 := (hE65 11 11 (by omega) (by omega)).trans hf58
            have hA70 := cs_A_e hA59 hE65
            show yi_D zi_Ms d zi_m266 k (153, [(4, .inl 0), (3, .inl (K (a + 2))), (2, .inl (nm (V (a + 1)) - 4)), (1, .inl y1), (0, .inr (.inr (some 11)))], [], (I64, L56, R, Y), 0, 0) _
            refine yi_D_retv rfl ?_
            first
            | (exfalso; omega)
            | (refine ⟨_, _, rfl, hF68, Or.inl ⟨_, sp_cc (if K a = 14 then 4 else if K a = 15 then 5 else nm (V a)) (nm (V (a + 1)) - 4) (K (a + 2) - 18) 0, ?_, hf69, hA70, by rw [show (if K a = 14 then 4 else if K a = 15 then 5 else nm (V a)) = y1 from jy1.symm]; exact hcc66⟩⟩; unfold sp_single; repeat (first | rw [if_pos (by omega)] | rw [if_neg (by omega)]))
          · refine yi_D_if2 false rfl (yi_eq_f h63) ?_
            refine yi_D_run 2 (111, [(4, .inl 0), (3, .inl (K (a + 2))), (2, .inl (nm (V (a + 1)) - 4)), (1, .inl y1), (0, .inr (.inr (some 11)))], [.inl 22, .inl (K (a + 2))], (I55, L56, R, Y), 0, 0) (fun _ => rfl) ?_
            by_cases h71 : (K (a + 2)) = 22
            · refine yi_D_if2 true rfl (yi_eq_t h71) ?_
              refine yi_D_run 5 (150, [(4, .inl 0), (3, .inl (K (a + 2))), (2, .inl (nm (V (a + 1)) - 4)), (1, .inl y1), (0, .inr (.inr (some 11)))], [.inl 0, .inl (nm (V (a + 1)) - 4), .inl y1, .inl (K (a + 2)), .inr (.inr (some 11))], (I55, L56, R, Y), 0, 0) (fun _ => rfl) ?_
              refine yi_D_callv rfl (p_emitWhenI hW60 hda hf58 hcc62 hb ⟨by omega, by omega⟩ (sc_y1 hk hn jy1).1 ⟨by omega, by omega⟩ ⟨Int.le_refl 0, by decide⟩ (by omega) (fun _ => rfl) (decide_eq_decide.2 (sc_y1 hk hn jy1).2.symm)) ?_
              rintro _ ⟨I72, rfl, hE73, hcc74⟩
              have hW75 := cs_W_t hW60 (cs_E_F (L := L56) hE73)
              have hF76 := cs_F_t hF61 (cs_E_F hE73)
              have hf77 : I72 11 11 = 0 := (hE73 11 11 (by omega) (by omega)).trans hf58
              have hA78 := cs_A_e hA59 hE73
              show yi_D zi_Ms d zi_m266 k (153, [(4, .inl 0), (3, .inl (K (a + 2))), (2, .inl (nm (V (a + 1)) - 4)), (1, .inl y1), (0, .inr (.inr (some 11)))], [], (I72, L56, R, Y), 0, 0) _
              refine yi_D_retv rfl ?_
              first
              | (exfalso; omega)
              | (refine ⟨_, _, rfl, hF76, Or.inl ⟨_, sp_cc (if K a = 14 then 4 else if K a = 15 then 5 else nm (V a)) (nm (V (a + 1)) - 4) (K (a + 2) - 18) 0, ?_, hf77, hA78, by rw [show (if K a = 14 then 4 else if K a = 15 then 5 else nm (V a)) = y1 from jy1.symm]; exact hcc74⟩⟩; unfold sp_single; repeat (first | rw [if_pos (by omega)] | rw [if_neg (by omega)]))
            · refine yi_D_if2 false rfl (yi_eq_f h71) ?_
              refine yi_D_run 3 (118, [(4, .inl 0), (3, .inl (K (a + 2))), (2, .inl (nm (V (a + 1)) - 4)), (1, .inl y1), (0, .inr (.inr (some 11)))], [.inl 23, .inl (K (a + 2)), .inr (.inr (some 11))], (I55, L56, R, Y), 0, 0) (fun _ => rfl) ?_
              by_cases h79 : (K (a + 2)) = 23
              · refine yi_D_if2 true rfl (yi_eq_t h79) ?_
                refine yi_D_run 3 (133, [(4, .inl 0), (3, .inl (K (a + 2))), (2, .inl (nm (V (a + 1)) - 4)), (1, .inl y1), (0, .inr (.inr (some 11)))], [.inr (.inr (some 11)), .inl 0, .inr (.inr (some 11))], (I55, L56, R, Y), 0, 0) (fun _ => rfl) ?_
                refine yi_D_gr (v := some q) rfl rfl rfl hW.2.2.1.2.1 (fun _ => ?_)
                have r80 : I55 q 14 = ld 0 := by rw [hGa57.1 q 14 (by omega), hGa26.1 q 14 (by omega), jF1 q 14 (by omega), hW.2.2.2.1.1]
                refine yi_D_gi (v := ld 0) rfl rfl (Nat.ble_eq_true_of_le (by omega)) r80 (fun _ => ?_)
                have hlo : sp_lo (K (a + 2)) = 0 := if_neg (by omega)
                refine yi_D_callv rfl (p_takeNumber_z (lo := 0) (hi := ld 0) hW60 hf58 hA59) ?_
                rintro _ (⟨c81, c82, I83, L84, rfl, hGa85, hf86, hA87⟩ | ⟨c88, z93, I89, L90, rfl, hGa91, he92⟩ | ⟨c94, z99, I95, L96, rfl, hGa97, he98⟩)
                · have hA87 : cs_A I83 L84 K te (a + 4) := hA87
                  have hW100 := cs_W_t hW60 (cs_G_F hGa85)
                  have hF101 := cs_F_t hF61 (cs_G_F hGa85)
                  have hcc102 := cc_G hcc62 hGa85
                  show yi_D zi_Ms d zi_m266 k (142, [(4, .inl 0), (3, .inl (K (a + 2))), (2, .inl (nm (V (a + 1)) - 4)), (1, .inl y1), (0, .inr (.inr (some 11)))], [.inl (V (a + 3))], (I83, L84, R, Y), 0, 0) _
                  refine yi_D_run 6 (150, [(4, .inl (V (a + 3))), (3, .inl (K (a + 2))), (2, .inl (nm (V (a + 1)) - 4)), (1, .inl y1), (0, .inr (.inr (some 11)))], [.inl (V (a + 3)), .inl (nm (V (a + 1)) - 4), .inl y1, .inl (K (a + 2)), .inr (.inr (some 11))], (I83, L84, R, Y), 0, 0) (fun _ => rfl) ?_
                  refine yi_D_callv rfl (p_emitWhenI hW100 hda hf86 hcc102 hb ⟨by omega, by omega⟩ (sc_y1 hk hn jy1).1 ⟨by omega, by omega⟩ ⟨by omega, by omega⟩ (by omega) (fun _ => by omega) (decide_eq_decide.2 (sc_y1 hk hn jy1).2.symm)) ?_
                  rintro _ ⟨I103, rfl, hE104, hcc105⟩
                  have hW106 := cs_W_t hW100 (cs_E_F (L := L84) hE104)
                  have hF107 := cs_F_t hF101 (cs_E_F hE104)
                  have hf108 : I103 11 11 = 0 := (hE104 11 11 (by omega) (by omega)).trans hf86
                  have hA109 := cs_A_e hA87 hE104
                  show yi_D zi_Ms d zi_m266 k (153, [(4, .inl (V (a + 3))), (3, .inl (K (a + 2))), (2, .inl (nm (V (a + 1)) - 4)), (1, .inl y1), (0, .inr (.inr (some 11)))], [], (I103, L84, R, Y), 0, 0) _
                  refine yi_D_retv rfl ?_
                  first
                  | (exfalso; omega)
                  | (refine ⟨_, _, rfl, hF107, Or.inl ⟨_, sp_cc (if K a = 14 then 4 else if K a = 15 then 5 else nm (V a)) (nm (V (a + 1)) - 4) (K (a + 2) - 18) (V (a + 3)), ?_, hf108, hA109, by rw [show (if K a = 14 then 4 else if K a = 15 then 5 else nm (V a)) = y1 from jy1.symm]; exact hcc105⟩⟩; unfold sp_single; repeat (first | rw [if_pos (by omega)] | rw [if_neg (by omega)]))
                · have hW110 := cs_W_t hW60 (cs_G_F hGa91)
                  have hF111 := cs_F_t hF61 (cs_G_F hGa91)
                  have hz112 : ¬ sp_f P (a + 3) 1 = 0 := sp_f_ne hW60 hA59.2.1 (by omega)
                  have hn113 : ¬ I89 11 11 = 0 := by rw [he92]; exact hz112
                  have hx114 : sp_single K P V ld nm a = .inr (sp_f P (a + 3) 1) := by
                    first
                    | (exfalso; omega)
                    | (unfold sp_single; repeat (first | rw [if_pos (by omega)] | rw [if_neg (by omega)]))
                  show yi_D zi_Ms d zi_m266 k (142, [(4, .inl 0), (3, .inl (K (a + 2))), (2, .inl (nm (V (a + 1)) - 4)), (1, .inl y1), (0, .inr (.inr (some 11)))], [.inl z93], (I89, L90, R, Y), 0, 0) _
                  refine yi_D_run 1 (144, [(4, .inl z93), (3, .inl (K (a + 2))), (2, .inl (nm (V (a + 1)) - 4)), (1, .inl y1), (0, .inr (.inr (some 11)))], [], (I89, L90, R, Y), 0, 0) (fun _ => rfl) ?_
                  exact yi_D_mono (jn144f z93 (K (a + 2)) (nm (V (a + 1)) - 4) y1 _ _ _ hF111 he92 hz112 hx114 ) (by omega)
                · have hW115 := cs_W_t hW60 (cs_G_F hGa97)
                  have hF116 := cs_F_t hF61 (cs_G_F hGa97)
                  have hz117 : ¬ sp_f P (a + 3) 4 = 0 := sp_f_ne hW60 hA59.2.1 (by omega)
                  have hn118 : ¬ I95 11 11 = 0 := by rw [he98]; exact hz117
                  have hx119 : sp_single K P V ld nm a = .inr (sp_f P (a + 3) 4) := by
                    first
                    | (exfalso; omega)
                    | (unfold sp_single; repeat (first | rw [if_pos (by omega)] | rw [if_neg (by omega)]))
                  show yi_D zi_Ms d zi_m266 k (142, [(4, .inl 0), (3, .inl (K (a + 2))), (2, .inl (nm (V (a + 1)) - 4)), (1, .inl y1), (0, .inr (.inr (some 11)))], [.inl z99], (I95, L96, R, Y), 0, 0) _
                  refine yi_D_run 1 (144, [(4, .inl z99), (3, .inl (K (a + 2))), (2, .inl (nm (V (a + 1)) - 4)), (1, .inl y1), (0, .inr (.inr (some 11)))], [], (I95, L96, R, Y), 0, 0) (fun _ => rfl) ?_
                  exact yi_D_mono (jn144f z99 (K (a + 2)) (nm (V (a + 1)) - 4) y1 _ _ _ hF116 he98 hz117 hx119 ) (by omega)
              · refine yi_D_if2 false rfl (yi_eq_f h79) ?_
                refine yi_D_run 2 (124, [(4, .inl 0), (3, .inl (K (a + 2))), (2, .inl (nm (V (a + 1)) - 4)), (1, .inl y1), (0, .inr (.inr (some 11)))], [.inl 24, .inl (K (a + 2)), .inr (.inr (some 11))], (I55, L56, R, Y), 0, 0) (fun _ => rfl) ?_
                by_cases h120 : (K (a + 2)) = 24
                · refine yi_D_if2 false rfl (yi_ne_f h120) ?_
                  refine yi_D_run 3 (133, [(4, .inl 0), (3, .inl (K (a + 2))), (2, .inl (nm (V (a + 1)) - 4)), (1, .inl y1), (0, .inr (.inr (some 11)))], [.inr (.inr (some 11)), .inl 0, .inr (.inr (some 11))], (I55, L56, R, Y), 0, 0) (fun _ => rfl) ?_
                  refine yi_D_gr (v := some q) rfl rfl rfl hW.2.2.1.2.1 (fun _ => ?_)
                  have r121 : I55 q 14 = ld 0 := by rw [hGa57.1 q 14 (by omega), hGa26.1 q 14 (by omega), jF1 q 14 (by omega), hW.2.2.2.1.1]
                  refine yi_D_gi (v := ld 0) rfl rfl (Nat.ble_eq_true_of_le (by omega)) r121 (fun _ => ?_)
                  have hlo : sp_lo (K (a + 2)) = 0 := if_neg (by omega)
                  refine yi_D_callv rfl (p_takeNumber_z (lo := 0) (hi := ld 0) hW60 hf58 hA59) ?_
                  rintro _ (⟨c122, c123, I124, L125, rfl, hGa126, hf127, hA128⟩ | ⟨c129, z134, I130, L131, rfl, hGa132, he133⟩ | ⟨c135, z140, I136, L137, rfl, hGa138, he139⟩)
                  · have hA128 : cs_A I124 L125 K te (a + 4) := hA128
                    have hW141 := cs_W_t hW60 (cs_G_F hGa126)
                    have hF142 := cs_F_t hF61 (cs_G_F hGa126)
                    have hcc143 := cc_G hcc62 hGa126
                    show yi_D zi_Ms d zi_m266 k (142, [(4, .inl 0), (3, .inl (K (a + 2))), (2, .inl (nm (V (a + 1)) - 4)), (1, .inl y1), (0, .inr (.inr (some 11)))], [.inl (V (a + 3))], (I124, L125, R, Y), 0, 0) _
                    refine yi_D_run 6 (150, [(4, .inl (V (a + 3))), (3, .inl (K (a + 2))), (2, .inl (nm (V (a + 1)) - 4)), (1, .inl y1), (0, .inr (.inr (some 11)))], [.inl (V (a + 3)), .inl (nm (V (a + 1)) - 4), .inl y1, .inl (K (a + 2)), .inr (.inr (some 11))], (I124, L125, R, Y), 0, 0) (fun _ => rfl) ?_
                    refine yi_D_callv rfl (p_emitWhenI hW141 hda hf127 hcc143 hb ⟨by omega, by omega⟩ (sc_y1 hk hn jy1).1 ⟨by omega, by omega⟩ ⟨by omega, by omega⟩ (by omega) (fun _ => by omega) (decide_eq_decide.2 (sc_y1 hk hn jy1).2.symm)) ?_
                    rintro _ ⟨I144, rfl, hE145, hcc146⟩
                    have hW147 := cs_W_t hW141 (cs_E_F (L := L125) hE145)
                    have hF148 := cs_F_t hF142 (cs_E_F hE145)
                    have hf149 : I144 11 11 = 0 := (hE145 11 11 (by omega) (by omega)).trans hf127
                    have hA150 := cs_A_e hA128 hE145
                    show yi_D zi_Ms d zi_m266 k (153, [(4, .inl (V (a + 3))), (3, .inl (K (a + 2))), (2, .inl (nm (V (a + 1)) - 4)), (1, .inl y1), (0, .inr (.inr (some 11)))], [], (I144, L125, R, Y), 0, 0) _
                    refine yi_D_retv rfl ?_
                    first
                    | (exfalso; omega)
                    | (refine ⟨_, _, rfl, hF148, Or.inl ⟨_, sp_cc (if K a = 14 then 4 else if K a = 15 then 5 else nm (V a)) (nm (V (a + 1)) - 4) (K (a + 2) - 18) (V (a + 3)), ?_, hf149, hA150, by rw [show (if K a = 14 then 4 else if K a = 15 then 5 else nm (V a)) = y1 from jy1.symm]; exact hcc146⟩⟩; unfold sp_single; repeat (first | rw [if_pos (by omega)] | rw [if_neg (by omega)]))
                  · have hW151 := cs_W_t hW60 (cs_G_F hGa132)
                    have hF152 := cs_F_t hF61 (cs_G_F hGa132)
                    have hz153 : ¬ sp_f P (a + 3) 1 = 0 := sp_f_ne hW60 hA59.2.1 (by omega)
                    have hn154 : ¬ I130 11 11 = 0 := by rw [he133]; exact hz153
                    have hx155 : sp_single K P V ld nm a = .inr (sp_f P (a + 3) 1) := by
                      first
                      | (exfalso; omega)
                      | (unfold sp_single; repeat (first | rw [if_pos (by omega)] | rw [if_neg (by omega)]))
                    show yi_D zi_Ms d zi_m266 k (142, [(4, .inl 0), (3, .inl (K (a + 2))), (2, .inl (nm (V (a + 1)) - 4)), (1, .inl y1), (0, .inr (.inr (some 11)))], [.inl z134], (I130, L131, R, Y), 0, 0) _
                    refine yi_D_run 1 (144, [(4, .inl z134), (3, .inl (K (a + 2))), (2, .inl (nm (V (a + 1)) - 4)), (1, .inl y1), (0, .inr (.inr (some 11)))], [], (I130, L131, R, Y), 0, 0) (fun _ => rfl) ?_
                    exact yi_D_mono (jn144f z134 (K (a + 2)) (nm (V (a + 1)) - 4) y1 _ _ _ hF152 he133 hz153 hx155 ) (by omega)
                  · have hW156 := cs_W_t hW60 (cs_G_F hGa138)
                    have hF157 := cs_F_t hF61 (cs_G_F hGa138)
                    have hz158 : ¬ sp_f P (a + 3) 4 = 0 := sp_f_ne hW60 hA59.2.1 (by omega)
                    have hn159 : ¬ I136 11 11 = 0 := by rw [he139]; exact hz158
                    have hx160 : sp_single K P V ld nm a = .inr (sp_f P (a + 3) 4) := by
                      first
                      | (exfalso; omega)
                      | (unfold sp_single; repeat (first | rw [if_pos (by omega)] | rw [if_neg (by omega)]))
                    show yi_D zi_Ms d zi_m266 k (142, [(4, .inl 0), (3, .inl (K (a + 2))), (2, .inl (nm (V (a + 1)) - 4)), (1, .inl y1), (0, .inr (.inr (some 11)))], [.inl z140], (I136, L137, R, Y), 0, 0) _
                    refine yi_D_run 1 (144, [(4, .inl z140), (3, .inl (K (a + 2))), (2, .inl (nm (V (a + 1)) - 4)), (1, .inl y1), (0, .inr (.inr (some 11)))], [], (I136, L137, R, Y), 0, 0) (fun _ => rfl) ?_
                    exact yi_D_mono (jn144f z140 (K (a + 2)) (nm (V (a + 1)) - 4) y1 _ _ _ hF157 he139 hz158 hx160 ) (by omega)
                · refine yi_D_if2 true rfl (yi_ne_t h120) ?_
                  refine yi_D_run 2 (133, [(4, .inl 0), (3, .inl (K (a + 2))), (2, .inl (nm (V (a + 1)) - 4)), (1, .inl y1), (0, .inr (.inr (some 11)))], [.inr (.inr (some 11)), .inl 1, .inr (.inr (some 11))], (I55, L56, R, Y), 0, 0) (fun _ => rfl) ?_
                  refine yi_D_gr (v := some q) rfl rfl rfl hW.2.2.1.2.1 (fun _ => ?_)
                  have r161 : I55 q 14 = ld 0 := by rw [hGa57.1 q 14 (by omega), hGa26.1 q 14 (by omega), jF1 q 14 (by omega), hW.2.2.2.1.1]
                  refine yi_D_gi (v := ld 0) rfl rfl (Nat.ble_eq_true_of_le (by omega)) r161 (fun _ => ?_)
                  have hlo : sp_lo (K (a + 2)) = 1 := if_pos (by omega)
                  refine yi_D_callv rfl (p_takeNumber_z (lo := 1) (hi := ld 0) hW60 hf58 hA59) ?_
                  rintro _ (⟨c162, c163, I164, L165, rfl, hGa166, hf167, hA168⟩ | ⟨c169, z174, I170, L171, rfl, hGa172, he173⟩ | ⟨c175, z180, I176, L177, rfl, hGa178, he179⟩)
                  · have hA168 : cs_A I164 L165 K te (a + 4) := hA168
                    have hW181 := cs_W_t hW60 (cs_G_F hGa166)
                    have hF182 := cs_F_t hF61 (cs_G_F hGa166)
                    have hcc183 := cc_G hcc62 hGa166
                    show yi_D zi_Ms d zi_m266 k (142, [(4, .inl 0), (3, .inl (K (a + 2))), (2, .inl (nm (V (a + 1)) - 4)), (1, .inl y1), (0, .inr (.inr (some 11)))], [.inl (V (a + 3))], (I164, L165, R, Y), 0, 0) _
                    refine yi_D_run 6 (150, [(4, .inl (V (a + 3))), (3, .inl (K (a + 2))), (2, .inl (nm (V (a + 1)) - 4)), (1, .inl y1), (0, .inr (.inr (some 11)))], [.inl (V (a + 3)), .inl (nm (V (a + 1)) - 4), .inl y1, .inl (K (a + 2)), .inr (.inr (some 11))], (I164, L165, R, Y), 0, 0) (fun _ => rfl) ?_
                    refine yi_D_callv rfl (p_emitWhenI hW181 hda hf167 hcc183 hb ⟨by omega, by omega⟩ (sc_y1 hk hn jy1).1 ⟨by omega, by omega⟩ ⟨by omega, by omega⟩ (by omega) (fun _ => by omega) (decide_eq_decide.2 (sc_y1 hk hn jy1).2.symm)) ?_
                    rintro _ ⟨I184, rfl, hE185, hcc186⟩
                    have hW187 := cs_W_t hW181 (cs_E_F (L := L165) hE185)
                    have hF188 := cs_F_t hF182 (cs_E_F hE185)
                    have hf189 : I184 11 11 = 0 := (hE185 11 11 (by omega) (by omega)).trans hf167
                    have hA190 := cs_A_e hA168 hE185
                    show yi_D zi_Ms d zi_m266 k (153, [(4, .inl (V (a + 3))), (3, .inl (K (a + 2))), (2, .inl (nm (V (a + 1)) - 4)), (1, .inl y1), (0, .inr (.inr (some 11)))], [], (I184, L165, R, Y), 0, 0) _
                    refine yi_D_retv rfl ?_
                    first
                    | (exfalso; omega)
                    | (refine ⟨_, _, rfl, hF188, Or.inl ⟨_, sp_cc (if K a = 14 then 4 else if K a = 15 then 5 else nm (V a)) (nm (V (a + 1)) - 4) (K (a + 2) - 18) (V (a + 3)), ?_, hf189, hA190, by rw [show (if K a = 14 then 4 else if K a = 15 then 5 else nm (V a)) = y1 from jy1.symm]; exact hcc186⟩⟩; unfold sp_single; repeat (first | rw [if_pos (by omega)] | rw [if_neg (by omega)]))
                  · have hW191 := cs_W_t hW60 (cs_G_F hGa172)
                    have hF192 := cs_F_t hF61 (cs_G_F hGa172)
                    have hz193 : ¬ sp_f P (a + 3) 1 = 0 := sp_f_ne hW60 hA59.2.1 (by omega)
                    have hn194 : ¬ I170 11 11 = 0 := by rw [he173]; exact hz193
                    have hx195 : sp_single K P V ld nm a = .inr (sp_f P (a + 3) 1) := by
                      first
                      | (exfalso; omega)
                      | (unfold sp_single; repeat (first | rw [if_pos (by omega)] | rw [if_neg (by omega)]))
                    show yi_D zi_Ms d zi_m266 k (142, [(4, .inl 0), (3, .inl (K (a + 2))), (2, .inl (nm (V (a + 1)) - 4)), (1, .inl y1), (0, .inr (.inr (some 11)))], [.inl z174], (I170, L171, R, Y), 0, 0) _
                    refine yi_D_run 1 (144, [(4, .inl z174), (3, .inl (K (a + 2))), (2, .inl (nm (V (a + 1)) - 4)), (1, .inl y1), (0, .inr (.inr (some 11)))], [], (I170, L171, R, Y), 0, 0) (fun _ => rfl) ?_
                    exact yi_D_mono (jn144f z174 (K (a + 2)) (nm (V (a + 1)) - 4) y1 _ _ _ hF192 he173 hz193 hx195 ) (by omega)
                  · have hW196 := cs_W_t hW60 (cs_G_F hGa178)
                    have hF197 := cs_F_t hF61 (cs_G_F hGa178)
                    have hz198 : ¬ sp_f P (a + 3) 4 = 0 := sp_f_ne hW60 hA59.2.1 (by omega)
                    have hn199 : ¬ I176 11 11 = 0 := by rw [he179]; exact hz198
                    have hx200 : sp_single K P V ld nm a = .inr (sp_f P (a + 3) 4) := by
                      first
                      | (exfalso; omega)
                      | (unfold sp_single; repeat (first | rw [if_pos (by omega)] | rw [if_neg (by omega)]))
                    show yi_D zi_Ms d zi_m266 k (142, [(4, .inl 0), (3, .inl (K (a + 2))), (2, .inl (nm (V (a + 1)) - 4)), (1, .inl y1), (0, .inr (.inr (some 11)))], [.inl z180], (I176, L177, R, Y), 0, 0) _
                    refine yi_D_run 1 (144, [(4, .inl z180), (3, .inl (K (a + 2))), (2, .inl (nm (V (a + 1)) - 4)), (1, .inl y1), (0, .inr (.inr (some 11)))], [], (I176, L177, R, Y), 0, 0) (fun _ => rfl) ?_
                    exact yi_D_mono (jn144f z180 (K (a + 2)) (nm (V (a + 1)) - 4) y1 _ _ _ hF197 he179 hz198 hx200 ) (by omega)
        · refine yi_D_if2 false rfl (yi_le_f h54) ?_
          refine yi_D_run 2 (92, [(3, .inl (K (a + 2))), (2, .inl (nm (V (a + 1)) - 4)), (1, .inl y1), (0, .inr (.inr (some 11)))], [.inl 1, .inr (.inr (some 11))], (I24, L25, R, Y), 0, 0) (fun _ => rfl) ?_
          refine yi_D_callv rfl (p_wrong_z ⟨by omega, by omega⟩ hW41 hf27 hA28) ?_
          rintro _ ⟨I201, rfl, hg202, he203⟩
          have hGw204 : cs_G I24 L25 I201 L25 := ⟨fun p k hp => hg202 p k (by omega), fun _ _ _ => rfl⟩
          have hW205 := cs_W_t hW41 (cs_G_F hGw204)
          have hF206 := cs_F_t hF42 (cs_G_F hGw204)
          have hz207 : ¬ sp_f P (a + 2) 1 = 0 := sp_f_ne hW41 hA28.2.1 (by omega)
          have hn208 : ¬ I201 11 11 = 0 := by rw [he203]; exact hz207
          have hx209 : sp_single K P V ld nm a = .inr (sp_f P (a + 2) 1) := by
            first
            | (exfalso; omega)
            | (unfold sp_single; repeat (first | rw [if_pos (by omega)] | rw [if_neg (by omega)]))
          show yi_D zi_Ms d zi_m266 k (95, [(3, .inl (K (a + 2))), (2, .inl (nm (V (a + 1)) - 4)), (1, .inl y1), (0, .inr (.inr (some 11)))], [], (I201, L25, R, Y), 0, 0) _
          exact yi_D_mono (jn95f (K (a + 2)) (nm (V (a + 1)) - 4) y1 _ _ _ hF206 he203 hz207 hx209 ) (by omega)
    · have hW210 := cs_W_t jW (cs_G_F hGa32)
      have hF211 := cs_F_t jF (cs_G_F hGa32)
      have hz212 : ¬ sp_f P (a + 1) 1 = 0 := sp_f_ne jW jA.2.1 (by omega)
      have hn213 : ¬ I30 11 11 = 0 := by rw [he33]; exact hz212
      have hx214 : sp_single K P V ld nm a = .inr (sp_f P (a + 1) 1) := by
        first
        | (exfalso; omega)
        | (unfold sp_single; repeat (first | rw [if_pos (by omega)] | rw [if_neg (by omega)]))
      show yi_D zi_Ms d zi_m266 k (72, [(1, .inl y1), (0, .inr (.inr (some 11)))], [.inl z34], (I30, L31, R, Y), 0, 0) _
      refine yi_D_run 1 (73, [(2, .inl z34), (1, .inl y1), (0, .inr (.inr (some 11)))], [], (I30, L31, R, Y), 0, 0) (fun _ => rfl) ?_
      exact yi_D_mono (jn73f z34 y1 _ _ _ hF211 he33 hz212 hx214 ) (by omega)
    · have hW215 := cs_W_t jW (cs_G_F hGa38)
      have hF216 := cs_F_t jF (cs_G_F hGa38)
      have hz217 : ¬ sp_f P (a + 1) 2 = 0 := sp_f_ne jW jA.2.1 (by omega)
      have hn218 : ¬ I36 11 11 = 0 := by rw [he39]; exact hz217
      have hx219 : sp_single K P V ld nm a = .inr (sp_f P (a + 1) 2) := by
        first
        | (exfalso; omega)
        | (unfold sp_single; repeat (first | rw [if_pos (by omega)] | rw [if_neg (by omega)]))
      show yi_D zi_Ms d zi_m266 k (72, [(1, .inl y1), (0, .inr (.inr (some 11)))], [.inl z40], (I36, L37, R, Y), 0, 0) _
      refine yi_D_run 1 (73, [(2, .inl z40), (1, .inl y1), (0, .inr (.inr (some 11)))], [], (I36, L37, R, Y), 0, 0) (fun _ => rfl) ?_
      exact yi_D_mono (jn73f z40 y1 _ _ _ hF216 he39 hz217 hx219 ) (by omega)
  show yi_D zi_Ms d zi_m266 k (0, [(0, .inr (.inr (some 11)))], [], (I, L, R, Y), 0, 0) _
  refine yi_D_run 1 (1, [(0, .inr (.inr (some 11)))], [.inr (.inr (some 11))], (I, L, R, Y), 0, 0) (fun _ => rfl) ?_
  refine yi_D_gi (v := K a) rfl rfl rfl hA.2.2.1 (fun _ => ?_)
  refine yi_D_run 1 (6, [(0, .inr (.inr (some 11)))], [.inl 14, .inl (K a)], (I, L, R, Y), 0, 0) (fun _ => rfl) ?_
  by_cases h220 : (K a) = 14
  · refine yi_D_if2 false rfl (yi_ne_f h220) ?_
    refine yi_D_run 4 (16, [(1, .inl 4), (0, .inr (.inr (some 11)))], [.inr (.inr (some 11))], (I, L, R, Y), 0, 0) (fun _ => rfl) ?_
    refine yi_D_gi (v := K a) rfl rfl rfl hA.2.2.1 (fun _ => ?_)
    refine yi_D_run 1 (20, [(1, .inl 4), (0, .inr (.inr (some 11)))], [.inl 3, .inl (K a)], (I, L, R, Y), 0, 0) (fun _ => rfl) ?_
    have h221 : ¬ ((K a) = 3) := by omega
    refine yi_D_if2 true rfl (yi_ne_t h221) ?_
    refine yi_D_run 1 (51, [(1, .inl 4), (0, .inr (.inr (some 11)))], [.inr (.inr (some 11))], (I, L, R, Y), 0, 0) (fun _ => rfl) ?_
    refine yi_D_callv rfl (p_advance_z hW hf hA) ?_
    rintro _ ⟨I222, L223, rfl, hGa224, hf225, hA226⟩
    rw [sp_nx_lt (cs_lt hW.2.1 hA.2.1 (by omega))] at hA226
    have hA226 : cs_A I222 L223 K te (a + 1) := hA226
    have hW227 := cs_W_t hW (cs_G_F hGa224)
    have hF228 := (cs_G_F hGa224)
    have hG229 := hGa224
    have hcc230 := cc_G hcc hGa224
    show yi_D zi_Ms d zi_m266 k (54, [(1, .inl 4), (0, .inr (.inr (some 11)))], [], (I222, L223, R, Y), 0, 0) _
    exact yi_D_mono (jn54z 4 _ _ hF228 hf225 hA226 (by unfold sc_yw; split <;> (try split) <;> omega) (by rw [decide_eq_false (show ¬ K a = 3 by omega)]; exact hcc230)) (by omega)
  · refine yi_D_if2 true rfl (yi_ne_t h220) ?_
    refine yi_D_run 3 (16, [(1, .inl 5), (0, .inr (.inr (some 11)))], [.inr (.inr (some 11))], (I, L, R, Y), 0, 0) (fun _ => rfl) ?_
    refine yi_D_gi (v := K a) rfl rfl rfl hA.2.2.1 (fun _ => ?_)
    refine yi_D_run 1 (20, [(1, .inl 5), (0, .inr (.inr (some 11)))], [.inl 3, .inl (K a)], (I, L, R, Y), 0, 0) (fun _ => rfl) ?_
    by_cases h231 : (K a) = 3
    · refine yi_D_if2 false rfl (yi_ne_f h231) ?_
      refine yi_D_run 2 (25, [(1, .inl 5), (0, .inr (.inr (some 11)))], [.inr (.inr (some 11)), .inr (.inr (some 11))], (I, L, R, Y), 0, 0) (fun _ => rfl) ?_
      refine yi_D_gr (v := some q) rfl rfl rfl hW.2.2.1.2.1 (fun _ => ?_)
      refine yi_D_gr (v := some (q + 1)) rfl rfl (Nat.ble_eq_true_of_le (by omega)) (hW.2.2.1.2.2.1 0 (by omega)) (fun _ => ?_)
      refine yi_D_run 1 (32, [(1, .inl 5), (0, .inr (.inr (some 11)))], [.inr (.inr (some 11)), .inr (.inr (some (q + 1))), .inr (.inr (some 11))], (I, L, R, Y), 0, 0) (fun _ => rfl) ?_
      refine yi_D_gr (v := some q) rfl rfl rfl hW.2.2.1.2.1 (fun _ => ?_)
      refine yi_D_gi (v := ld 1) rfl rfl (Nat.ble_eq_true_of_le (by omega)) hW.2.2.2.1.2.1 (fun _ => ?_)
      refine yi_D_callv rfl (p_takeName_z (by omega) ⟨by omega, by omega, by omega⟩ hW hf hA (by omega) hW.2.2.2.2.2.2.2.1.1) ?_
      rintro _ (⟨c232, c233, I234, L235, rfl, hGa236, hf237, hA238⟩ | ⟨c239, z244, I240, L241, rfl, hGa242, he243⟩ | ⟨c245, z250, I246, L247, rfl, hGa248, he249⟩)
      · have hA238 : cs_A I234 L235 K te (a + 1) := hA238
        have hW251 := cs_W_t hW (cs_G_F hGa236)
        have hF252 := (cs_G_F hGa236)
        have hG253 := hGa236
        have hcc254 := cc_G hcc hGa236
        show yi_D zi_Ms d zi_m266 k (41, [(1, .inl 5), (0, .inr (.inr (some 11)))], [.inl (nm (V a) - 0)], (I234, L235, R, Y), 0, 0) _
        refine yi_D_run 3 (44, [(1, .inl (nm (V a) - 0)), (0, .inr (.inr (some 11)))], [.inl 1, .inr (.inr (some 11))], (I234, L235, R, Y), 0, 0) (fun _ => rfl) ?_
        refine yi_D_pi rfl (fun _ => ?_)
        generalize w256 : yi_u I234 11 5 1 = I255
        have hE257 : cs_E I234 I255 := fun p k hp0 hp1 => by rw [← w256, yi_u_ne _ _ (by omega)]
        have hW258 := cs_W_t hW251 (cs_E_F (L := L235) hE257)
        have hF259 := cs_F_t hF252 (cs_E_F hE257)
        have hf260 : I255 11 11 = 0 := (hE257 11 11 (by omega) (by omega)).trans hf237
        have hA261 := cs_A_e hA238 hE257
        have hcc262 := cc_nw (I' := I255) hcc254 (by rw [← w256, yi_u_eq]) (fun p k h => by rw [← w256, yi_u_ne _ _ h])
        refine yi_D_run 1 (54, [(1, .inl (nm (V a) - 0)), (0, .inr (.inr (some 11)))], [], (I255, L235, R, Y), 0, 0) (fun _ => rfl) ?_
        exact yi_D_mono (jn54z (nm (V a) - 0) _ _ hF259 hf260 hA261 (by unfold sc_yw; split <;> (try split) <;> omega) (by rw [decide_eq_true (show K a = 3 by omega)]; exact hcc262)) (by omega)
      · exfalso; omega
      · have hW263 := cs_W_t hW (cs_G_F hGa248)
        have hF264 := (cs_G_F hGa248)
        have hG265 := hGa248
        have hz266 : ¬ sp_f P a 2 = 0 := sp_f_ne hW hA.2.1 (by omega)
        have hn267 : ¬ I246 11 11 = 0 := by rw [he249]; exact hz266
        have hx268 : sp_single K P V ld nm a = .inr (sp_f P a 2) := by
          first
          | (exfalso; omega)
          | (unfold sp_single; repeat (first | rw [if_pos (by omega)] | rw [if_neg (by omega)]))
        show yi_D zi_Ms d zi_m266 k (41, [(1, .inl 5), (0, .inr (.inr (some 11)))], [.inl z250], (I246, L247, R, Y), 0, 0) _
        refine yi_D_run 3 (44, [(1, .inl z250), (0, .inr (.inr (some 11)))], [.inl 1, .inr (.inr (some 11))], (I246, L247, R, Y), 0, 0) (fun _ => rfl) ?_
        refine yi_D_pi rfl (fun _ => ?_)
        generalize w270 : yi_u I246 11 5 1 = I269
        have hE271 : cs_E I246 I269 := fun p k hp0 hp1 => by rw [← w270, yi_u_ne _ _ (by omega)]
        have hW272 := cs_W_t hW263 (cs_E_F (L := L247) hE271)
        have hF273 := cs_F_t hF264 (cs_E_F hE271)
        have hf274 : ¬ I269 11 11 = 0 := by rw [hE271 11 11 (by omega) (by omega)]; exact hn267
        have he275 := (hE271 11 11 (by omega) (by omega)).trans he249
        refine yi_D_run 1 (54, [(1, .inl z250), (0, .inr (.inr (some 11)))], [], (I269, L247, R, Y), 0, 0) (fun _ => rfl) ?_
        exact yi_D_mono (jn54f z250 _ _ _ hF273 he275 hz266 hx268 ) (by omega)
    · refine yi_D_if2 true rfl (yi_ne_t h231) ?_
      refine yi_D_run 1 (51, [(1, .inl 5), (0, .inr (.inr (some 11)))], [.inr (.inr (some 11))], (I, L, R, Y), 0, 0) (fun _ => rfl) ?_
      refine yi_D_callv rfl (p_advance_z hW hf hA) ?_
      rintro _ ⟨I276, L277, rfl, hGa278, hf279, hA280⟩
      rw [sp_nx_lt (cs_lt hW.2.1 hA.2.1 (by omega))] at hA280
      have hA280 : cs_A I276 L277 K te (a + 1) := hA280
      have hW281 := cs_W_t hW (cs_G_F hGa278)
      have hF282 := (cs_G_F hGa278)
      have hG283 := hGa278
      have hcc284 := cc_G hcc hGa278
      show yi_D zi_Ms d zi_m266 k (54, [(1, .inl 5), (0, .inr (.inr (some 11)))], [], (I276, L277, R, Y), 0, 0) _
      exact yi_D_mono (jn54z 5 _ _ hF282 hf279 hA280 (by unfold sc_yw; split <;> (try split) <;> omega) (by rw [decide_eq_false (show ¬ K a = 3 by omega)]; exact hcc284)) (by omega)
set_option maxHeartbeats 4000000 in
theorem p_readPairC {d : Nat} {I L : Nat → Nat → Int} {R : Nat → Nat → Option Nat} {Y : (Nat → Nat) × (Nat → Nat) × Nat} {K P V : Nat → Int} {te q a : Nat} {ld : Nat → Int} {nm : Int → Int} (hW : cs_W I L R Y K P V te q ld nm) (hf : I 11 11 = 0) (hA : cs_A I L K te a) (hk : K a = 16 ∨ K a = 17) {u0 da : Nat} {cb : List (Int × Int)} {fx : Nat → Int} {b0 vg : Int} {cs : List (Int × Int)} (hda : ld 0 = (da : Int)) (hcc : cc_S (trF da vg) u0 cb fx b0 vg false I cs) (hb : u0 + (cs.length - cb.length) < 1002) : yi_P zi_Ms d 260 [.inr (.inr (some 11))] (I, L, R, Y) (fun r => ∃ I' L', r = (none, (I', L', R, Y), 0, 0) ∧ cs_F I L I' L' ∧ ((∃ a' x, sp_pair K P V nm a = .inl (a', x) ∧ I' 11 11 = 0 ∧ cs_A I' L' K te a' ∧ cc_S (trF da vg) u0 cb fx b0 vg false I' (cs ++ [(11, x)])) ∨ (∃ f, sp_pair K P V nm a = .inr f ∧ ¬ f = 0 ∧ I' 11 11 = f))) := by
  refine yi_P_of (M := zi_m260) rfl (fun d k => ?_)
  obtain ⟨ly1, ly2, ly3, ly4⟩ := hW.2.2.1.2.2.2
  have lb := hW.2.2.2.2.1
  have hq0 := hW.2.2.1.1
  have jn108f : ∀ (y6 : Int) (y5 : Int) (y4 : Int) (y2 : Int) (y1 : Int) (J G : Nat → Nat → Int) (f : Int), cs_F I L J G → J 11 11 = f → ¬ f = 0 → sp_pair K P V nm a = .inr f → yi_D zi_Ms d zi_m260 k (108, [(6, .inl y6), (5, .inl y5), (4, .inl y4), (2, .inr (.inl y2)), (1, .inl y1), (0, .inr (.inr (some 11)))], [], (J, G, R, Y), 0, 0) (fun r => ∃ I' L', r = (none, (I', L', R, Y), 0, 0) ∧ cs_F I L I' L' ∧ ((∃ a' x, sp_pair K P V nm a = .inl (a', x) ∧ I' 11 11 = 0 ∧ cs_A I' L' K te a' ∧ cc_S (trF da vg) u0 cb fx b0 vg false I' (cs ++ [(11, x)])) ∨ (∃ f, sp_pair K P V nm a = .inr f ∧ ¬ f = 0 ∧ I' 11 11 = f))) := by
    intro y6 y5 y4 y2 y1 J G f jF je jn jsp 
    have jW := cs_W_t hW jF
    have jf : ¬ J 11 11 = 0 := by rw [je]; exact jn
    have jF1 : ∀ p k, (p ≠ 11 ∧ p ≠ 19) → J p k = I p k := fun p k h => jF.1 p k h.1 h.2
    have jF2 := jF.2
    refine yi_D_run 2 (110, [(6, .inl y6), (5, .inl y5), (4, .inl y4), (2, .inr (.inl y2)), (1, .inl y1), (0, .inr (.inr (some 11)))], [.inl 1, .inr (.inr (some 11))], (J, G, R, Y), 0, 0) (fun _ => rfl) ?_
    refine yi_D_pi rfl (fun _ => ?_)
    generalize w2 : yi_u J 11 5 1 = I1
    have hE3 : cs_E J I1 := fun p k hp0 hp1 => by rw [← w2, yi_u_ne _ _ (by omega)]
    have hW4 := cs_W_t jW (cs_E_F (L := G) hE3)
    have hF5 := cs_F_t jF (cs_E_F hE3)
    have hf6 : ¬ I1 11 11 = 0 := by rw [hE3 11 11 (by omega) (by omega)]; exact jf
    have he7 := (hE3 11 11 (by omega) (by omega)).trans je
    refine yi_D_run 6 (122, [(6, .inl y6), (5, .inl y5), (4, .inl y4), (2, .inr (.inl y2)), (1, .inl y1), (0, .inr (.inr (some 11)))], [.inl 0, .inl y5, .inl y6, .inl y4, .inl y1, .inr (.inr (some 11))], (I1, G, R, Y), 0, 0) (fun _ => rfl) ?_
    refine yi_D_calls rfl (p_clauseCode) ?_
    rintro _ ⟨z8, rfl⟩
    show yi_D zi_Ms d zi_m260 k (125, [(6, .inl y6), (5, .inl y5), (4, .inl y4), (2, .inr (.inl y2)), (1, .inl y1), (0, .inr (.inr (some 11)))], [.inl z8, .inr (.inr (some 11))], (I1, G, R, Y), 0, 0) _
    refine yi_D_callv rfl (p_emit hW4) ?_
    rintro _ ⟨I9, rfl, hE10⟩
    have hW11 := cs_W_t hW4 (cs_E_F (L := G) hE10)
    have hF12 := cs_F_t hF5 (cs_E_F hE10)
    have hf13 : ¬ I9 11 11 = 0 := by rw [hE10 11 11 (by omega) (by omega)]; exact hf6
    have he14 := (hE10 11 11 (by omega) (by omega)).trans he7
    show yi_D zi_Ms d zi_m260 k (128, [(6, .inl y6), (5, .inl y5), (4, .inl y4), (2, .inr (.inl y2)), (1, .inl y1), (0, .inr (.inr (some 11)))], [], (I9, G, R, Y), 0, 0) _
    refine yi_D_retv rfl ?_
    exact ⟨_, _, rfl, hF12, Or.inr ⟨_, jsp, jn, he14⟩⟩
  have jn88f : ∀ (y5 : Int) (y4 : Int) (y2 : Int) (y1 : Int) (J G : Nat → Nat → Int) (f : Int), cs_F I L J G → J 11 11 = f → ¬ f = 0 → sp_pair K P V nm a = .inr f → yi_D zi_Ms d zi_m260 k (88, [(5, .inl y5), (4, .inl y4), (2, .inr (.inl y2)), (1, .inl y1), (0, .inr (.inr (some 11)))], [], (J, G, R, Y), 0, 0) (fun r => ∃ I' L', r = (none, (I', L', R, Y), 0, 0) ∧ cs_F I L I' L' ∧ ((∃ a' x, sp_pair K P V nm a = .inl (a', x) ∧ I' 11 11 = 0 ∧ cs_A I' L' K te a' ∧ cc_S (trF da vg) u0 cb fx b0 vg false I' (cs ++ [(11, x)])) ∨ (∃ f, sp_pair K P V nm a = .inr f ∧ ¬ f = 0 ∧ I' 11 11 = f))) := by
    intro y5 y4 y2 y1 J G f jF je jn jsp 
    have jW := cs_W_t hW jF
    have jf : ¬ J 11 11 = 0 := by rw [je]; exact jn
    have jF1 : ∀ p k, (p ≠ 11 ∧ p ≠ 19) → J p k = I p k := fun p k h => jF.1 p k h.1 h.2
    have jF2 := jF.2
    refine yi_D_run 2 (90, [(5, .inl y5), (4, .inl y4), (2, .inr (.inl y2)), (1, .inl y1), (0, .inr (.inr (some 11)))], [.inr (.inr (some 11)), .inr (.inr (some 11))], (J, G, R, Y), 0, 0) (fun _ => rfl) ?_
    refine yi_D_gr (v := some q) rfl rfl rfl hW.2.2.1.2.1 (fun _ => ?_)
    refine yi_D_gr (v := some (q + 2)) rfl rfl (Nat.ble_eq_true_of_le (by omega)) (hW.2.2.1.2.2.1 1 (by omega)) (fun _ => ?_)
    refine yi_D_run 1 (97, [(5, .inl y5), (4, .inl y4), (2, .inr (.inl y2)), (1, .inl y1), (0, .inr (.inr (some 11)))], [.inr (.inr (some 11)), .inr (.inr (some (q + 2))), .inr (.inr (some 11))], (J, G, R, Y), 0, 0) (fun _ => rfl) ?_
    refine yi_D_gr (v := some q) rfl rfl rfl hW.2.2.1.2.1 (fun _ => ?_)
    have r15 : J q 16 = ld 2 := by rw [jF1 q 16 (by omega), hW.2.2.2.1.2.2.1]
    refine yi_D_gi (v := ld 2) rfl rfl (Nat.ble_eq_true_of_le (by omega)) r15 (fun _ => ?_)
    refine yi_D_callv rfl (p_takeName_f (by omega) ⟨by omega, by omega, by omega⟩ jW jf) ?_
    rintro _ ⟨z16, rfl⟩
    show yi_D zi_Ms d zi_m260 k (106, [(5, .inl y5), (4, .inl y4), (2, .inr (.inl y2)), (1, .inl y1), (0, .inr (.inr (some 11)))], [.inl z16], (J, G, R, Y), 0, 0) _
    refine yi_D_run 1 (108, [(6, .inl z16), (5, .inl y5), (4, .inl y4), (2, .inr (.inl y2)), (1, .inl y1), (0, .inr (.inr (some 11)))], [], (J, G, R, Y), 0, 0) (fun _ => rfl) ?_
    exact yi_D_mono (jn108f z16 y5 y4 y2 y1 _ _ _ jF je jn jsp ) (by omega)
  have jn68f : ∀ (y4 : Int) (y2 : Int) (y1 : Int) (J G : Nat → Nat → Int) (f : Int), cs_F I L J G → J 11 11 = f → ¬ f = 0 → sp_pair K P V nm a = .inr f → yi_D zi_Ms d zi_m260 k (68, [(4, .inl y4), (2, .inr (.inl y2)), (1, .inl y1), (0, .inr (.inr (some 11)))], [], (J, G, R, Y), 0, 0) (fun r => ∃ I' L', r = (none, (I', L', R, Y), 0, 0) ∧ cs_F I L I' L' ∧ ((∃ a' x, sp_pair K P V nm a = .inl (a', x) ∧ I' 11 11 = 0 ∧ cs_A I' L' K te a' ∧ cc_S (trF da vg) u0 cb fx b0 vg false I' (cs ++ [(11, x)])) ∨ (∃ f, sp_pair K P V nm a = .inr f ∧ ¬ f = 0 ∧ I' 11 11 = f))) := by
    intro y4 y2 y1 J G f jF je jn jsp 
    have jW := cs_W_t hW jF
    have jf : ¬ J 11 11 = 0 := by rw [je]; exact jn
    have jF1 : ∀ p k, (p ≠ 11 ∧ p ≠ 19) → J p k = I p k := fun p k h => jF.1 p k h.1 h.2
    have jF2 := jF.2
    
    refine yi_D_run 2 (70, [(4, .inl y4), (2, .inr (.inl y2)), (1, .inl y1), (0, .inr (.inr (some 11)))], [.inr (.inr (some 11)), .inr (.inr (some 11))], (J, G, R, Y), 0, 0) (fun _ => rfl) ?_
    refine yi_D_gr (v := some q) rfl rfl rfl hW.2.2.1.2.1 (fun _ => ?_)
    refine yi_D_gr (v := some (q + 1)) rfl rfl (Nat.ble_eq_true_of_le (by omega)) (hW.2.2.1.2.2.1 0 (by omega)) (fun _ => ?_)
    refine yi_D_run 1 (77, [(4, .inl y4), (2, .inr (.inl y2)), (1, .inl y1), (0, .inr (.inr (some 11)))], [.inr (.inr (some 11)), .inr (.inr (some (q + 1))), .inr (.inr (some 11))], (J, G, R, Y), 0, 0) (fun _ => rfl) ?_
    refine yi_D_gr (v := some q) rfl rfl rfl hW.2.2.1.2.1 (fun _ => ?_)
    have r17 : J q 15 = ld 1 := by rw [jF1 q 15 (by omega), hW.2.2.2.1.2.1]
    refine yi_D_gi (v := ld 1) rfl rfl (Nat.ble_eq_true_of_le (by omega)) r17 (fun _ => ?_)
    refine yi_D_callv rfl (p_takeName_f (by omega) ⟨by omega, by omega, by omega⟩ jW jf) ?_
    rintro _ ⟨z18, rfl⟩
    show yi_D zi_Ms d zi_m260 k (86, [(4, .inl y4), (2, .inr (.inl y2)), (1, .inl y1), (0, .inr (.inr (some 11)))], [.inl z18], (J, G, R, Y), 0, 0) _
    refine yi_D_run 1 (88, [(5, .inl z18), (4, .inl y4), (2, .inr (.inl y2)), (1, .inl y1), (0, .inr (.inr (some 11)))], [], (J, G, R, Y), 0, 0) (fun _ => rfl) ?_
    exact yi_D_mono (jn88f z18 y4 y2 y1 _ _ _ jF je jn jsp ) (by omega)
  have jn46f : ∀ (y4 : Int) (y2 : Int) (y1 : Int) (J G : Nat → Nat → Int) (f : Int), cs_F I L J G → J 11 11 = f → ¬ f = 0 → sp_pair K P V nm a = .inr f → yi_D zi_Ms d zi_m260 k (46, [(4, .inl y4), (2, .inr (.inl y2)), (1, .inl y1), (0, .inr (.inr (some 11)))], [], (J, G, R, Y), 0, 0) (fun r => ∃ I' L', r = (none, (I', L', R, Y), 0, 0) ∧ cs_F I L I' L' ∧ ((∃ a' x, sp_pair K P V nm a = .inl (a', x) ∧ I' 11 11 = 0 ∧ cs_A I' L' K te a' ∧ cc_S (trF da vg) u0 cb fx b0 vg false I' (cs ++ [(11, x)])) ∨ (∃ f, sp_pair K P V nm a = .inr f ∧ ¬ f = 0 ∧ I' 11 11 = f))) := by
    intro y4 y2 y1 J G f jF je jn jsp 
    have jW := cs_W_t hW jF
    have jf : ¬ J 11 11 = 0 := by rw [je]; exact jn
    have jF1 : ∀ p k, (p ≠ 11 ∧ p ≠ 19) → J p k = I p k := fun p k h => jF.1 p k h.1 h.2
    have jF2 := jF.2
    refine yi_D_run 1 (47, [(4, .inl y4), (2, .inr (.inl y2)), (1, .inl y1), (0, .inr (.inr (some 11)))], [.inr (.inr (some 11))], (J, G, R, Y), 0, 0) (fun _ => rfl) ?_
    refine yi_D_gi (v := J 11 9) rfl rfl rfl rfl (fun _ => ?_)
    refine yi_D_run 1 (51, [(4, .inl y4), (2, .inr (.inl y2)), (1, .inl y1), (0, .inr (.inr (some 11)))], [.inl 3, .inl (J 11 9)], (J, G, R, Y), 0, 0) (fun _ => rfl) ?_
    by_cases h19 : (J 11 9) = 3
    · refine yi_D_if2 false rfl (yi_ne_f h19) ?_
      refine yi_D_run 1 (55, [(4, .inl y4), (2, .inr (.inl y2)), (1, .inl y1), (0, .inr (.inr (some 11)))], [.inr (.inr (some 11))], (J, G, R, Y), 0, 0) (fun _ => rfl) ?_
      refine yi_D_gl (v := G 11 10) rfl rfl rfl rfl (fun _ => ?_)
      refine yi_D_run 2 (60, [(4, .inl y4), (2, .inr (.inl y2)), (1, .inl y1), (0, .inr (.inr (some 11)))], [.inl (yi_lcmp (G 11 10) y2)], (J, G, R, Y), 0, 0) (fun _ => rfl) ?_
      
      by_cases h20 : (G 11 10) = y2
      · refine yi_D_if1 false rfl (yi_Lne_f h20) ?_
        
        refine yi_D_run 2 (65, [(4, .inl y4), (2, .inr (.inl y2)), (1, .inl y1), (0, .inr (.inr (some 11)))], [.inl 3, .inr (.inr (some 11))], (J, G, R, Y), 0, 0) (fun _ => rfl) ?_
        refine yi_D_callv rfl (p_wrong_f jW jf) ?_
        rintro _ rfl
        show yi_D zi_Ms d zi_m260 k (68, [(4, .inl y4), (2, .inr (.inl y2)), (1, .inl y1), (0, .inr (.inr (some 11)))], [], (J, G, R, Y), 0, 0) _
        exact yi_D_mono (jn68f y4 y2 y1 _ _ _ jF je jn jsp ) (by omega)
      · refine yi_D_if1 true rfl (yi_Lne_t h20) ?_
        exact yi_D_mono (jn68f y4 y2 y1 _ _ _ jF je jn jsp ) (by omega)
    · refine yi_D_if2 true rfl (yi_ne_t h19) ?_
      exact yi_D_mono (jn68f y4 y2 y1 _ _ _ jF je jn jsp ) (by omega)
  have jn17z : ∀ (y1 : Int) (J G : Nat → Nat → Int), cs_F I L J G → J 11 11 = 0 → cs_A J G K te a → (y1 = if K a = 16 then 6 else 7) → (cc_S (trF da vg) u0 cb fx b0 vg false J cs) → yi_D zi_Ms d zi_m260 k (17, [(1, .inl y1), (0, .inr (.inr (some 11)))], [], (J, G, R, Y), 0, 0) (fun r => ∃ I' L', r = (none, (I', L', R, Y), 0, 0) ∧ cs_F I L I' L' ∧ ((∃ a' x, sp_pair K P V nm a = .inl (a', x) ∧ I' 11 11 = 0 ∧ cs_A I' L' K te a' ∧ cc_S (trF da vg) u0 cb fx b0 vg false I' (cs ++ [(11, x)])) ∨ (∃ f, sp_pair K P V nm a = .inr f ∧ ¬ f = 0 ∧ I' 11 11 = f))) := by
    intro y1 J G jF jf jA jy1 jcc
    have jW := cs_W_t hW jF
    have jF1 : ∀ p k, (p ≠ 11 ∧ p ≠ 19) → J p k = I p k := fun p k h => jF.1 p k h.1 h.2
    have jF2 := jF.2
    refine yi_D_run 1 (18, [(1, .inl y1), (0, .inr (.inr (some 11)))], [.inr (.inr (some 11))], (J, G, R, Y), 0, 0) (fun _ => rfl) ?_
    refine yi_D_callv rfl (p_advance_z jW jf jA) ?_
    rintro _ ⟨I21, L22, rfl, hGa23, hf24, hA25⟩
    rw [sp_nx_lt (cs_lt jW.2.1 jA.2.1 (by omega))] at hA25
    have hA25 : cs_A I21 L22 K te (a + 1) := hA25
    have hW26 := cs_W_t jW (cs_G_F hGa23)
    have hF27 := cs_F_t jF (cs_G_F hGa23)
    have hcc28 := cc_G jcc hGa23
    show yi_D zi_Ms d zi_m260 k (21, [(1, .inl y1), (0, .inr (.inr (some 11)))], [], (I21, L22, R, Y), 0, 0) _
    refine yi_D_run 1 (22, [(1, .inl y1), (0, .inr (.inr (some 11)))], [.inr (.inr (some 11))], (I21, L22, R, Y), 0, 0) (fun _ => rfl) ?_
    
    refine yi_D_gl (v := L22 16 (a + 1)) rfl rfl rfl hA25.2.2.2 (fun _ => ?_)
    refine yi_D_run 3 (28, [(2, .inr (.inl (L22 16 (a + 1)))), (1, .inl y1), (0, .inr (.inr (some 11)))], [.inr (.inr (some 11)), .inr (.inr (some 11))], (I21, L22, R, Y), 0, 0) (fun _ => rfl) ?_
    refine yi_D_gr (v := some q) rfl rfl rfl hW.2.2.1.2.1 (fun _ => ?_)
    refine yi_D_gr (v := some (q + 1)) rfl rfl (Nat.ble_eq_true_of_le (by omega)) (hW.2.2.1.2.2.1 0 (by omega)) (fun _ => ?_)
    refine yi_D_run 1 (35, [(2, .inr (.inl (L22 16 (a + 1)))), (1, .inl y1), (0, .inr (.inr (some 11)))], [.inr (.inr (some 11)), .inr (.inr (some (q + 1))), .inr (.inr (some 11))], (I21, L22, R, Y), 0, 0) (fun _ => rfl) ?_
    refine yi_D_gr (v := some q) rfl rfl rfl hW.2.2.1.2.1 (fun _ => ?_)
    have r29 : I21 q 15 = ld 1 := by rw [hGa23.1 q 15 (by omega), jF1 q 15 (by omega), hW.2.2.2.1.2.1]
    refine yi_D_gi (v := ld 1) rfl rfl (Nat.ble_eq_true_of_le (by omega)) r29 (fun _ => ?_)
    refine yi_D_callv rfl (p_takeName_z (by omega) ⟨by omega, by omega, by omega⟩ hW26 hf24 hA25 (by omega) hW26.2.2.2.2.2.2.2.1.1) ?_
    rintro _ (⟨c30, c31, I32, L33, rfl, hGa34, hf35, hA36⟩ | ⟨c37, z42, I38, L39, rfl, hGa40, he41⟩ | ⟨c43, z48, I44, L45, rfl, hGa46, he47⟩)
    · have hA36 : cs_A I32 L33 K te (a + 2) := hA36
      have hW49 := cs_W_t hW26 (cs_G_F hGa34)
      have hF50 := cs_F_t hF27 (cs_G_F hGa34)
      have hcc51 := cc_G hcc28 hGa34
      show yi_D zi_Ms d zi_m260 k (44, [(2, .inr (.inl (L22 16 (a + 1)))), (1, .inl y1), (0, .inr (.inr (some 11)))], [.inl (nm (V (a + 1)) - 0)], (I32, L33, R, Y), 0, 0) _
      refine yi_D_run 2 (47, [(4, .inl (nm (V (a + 1)) - 0)), (2, .inr (.inl (L22 16 (a + 1)))), (1, .inl y1), (0, .inr (.inr (some 11)))], [.inr (.inr (some 11))], (I32, L33, R, Y), 0, 0) (fun _ => rfl) ?_
      refine yi_D_gi (v := K (a + 2)) rfl rfl rfl hA36.2.2.1 (fun _ => ?_)
      refine yi_D_run 1 (51, [(4, .inl (nm (V (a + 1)) - 0)), (2, .inr (.inl (L22 16 (a + 1)))), (1, .inl y1), (0, .inr (.inr (some 11)))], [.inl 3, .inl (K (a + 2))], (I32, L33, R, Y), 0, 0) (fun _ => rfl) ?_
      by_cases h52 : (K (a + 2)) = 3
      · refine yi_D_if2 false rfl (yi_ne_f h52) ?_
        refine yi_D_run 1 (55, [(4, .inl (nm (V (a + 1)) - 0)), (2, .inr (.inl (L22 16 (a + 1)))), (1, .inl y1), (0, .inr (.inr (some 11)))], [.inr (.inr (some 11))], (I32, L33, R, Y), 0, 0) (fun _ => rfl) ?_
        refine yi_D_gl (v := L33 16 (a + 2)) rfl rfl rfl hA36.2.2.2 (fun _ => ?_)
        refine yi_D_run 2 (60, [(4, .inl (nm (V (a + 1)) - 0)), (2, .inr (.inl (L22 16 (a + 1)))), (1, .inl y1), (0, .inr (.inr (some 11)))], [.inl (yi_lcmp (L33 16 (a + 2)) (L22 16 (a + 1)))], (I32, L33, R, Y), 0, 0) (fun _ => rfl) ?_
        have hl1 := hF27.2 16 (a + 1) (by omega)
        have hl2 := hF50.2 16 (a + 2) (by omega)
        have hla := hA36.2.1
        have hw1 := (hW.2.1.2.2.1 (a + 1) (by omega)).2.2.2.2.1 (by omega)
        have hw2 : K (a + 2) = 3 → sp_WR (L 16 (a + 2)) (V (a + 2)) := (hW.2.1.2.2.1 (a + 2) (by omega)).2.2.2.2.1
        by_cases h53 : (L33 16 (a + 2)) = (L22 16 (a + 1))
        · refine yi_D_if1 false rfl (yi_Lne_f h53) ?_
          have hv : V (a + 2) = V (a + 1) := sp_WR_v (hw2 (by omega)) (by rw [show L 16 (a + 2) = L 16 (a + 1) by omega]; exact hw1)
          have hvn : nm (V (a + 2)) = nm (V (a + 1)) := by rw [hv]
          refine yi_D_run 2 (65, [(4, .inl (nm (V (a + 1)) - 0)), (2, .inr (.inl (L22 16 (a + 1)))), (1, .inl y1), (0, .inr (.inr (some 11)))], [.inl 3, .inr (.inr (some 11))], (I32, L33, R, Y), 0, 0) (fun _ => rfl) ?_
          refine yi_D_callv rfl (p_wrong_z ⟨by omega, by omega⟩ hW49 hf35 hA36) ?_
          rintro _ ⟨I54, rfl, hg55, he56⟩
          have hGw57 : cs_G I32 L33 I54 L33 := ⟨fun p k hp => hg55 p k (by omega), fun _ _ _ => rfl⟩
          have hW58 := cs_W_t hW49 (cs_G_F hGw57)
          have hF59 := cs_F_t hF50 (cs_G_F hGw57)
          have hz60 : ¬ sp_f P (a + 2) 3 = 0 := sp_f_ne hW49 hA36.2.1 (by omega)
          have hn61 : ¬ I54 11 11 = 0 := by rw [he56]; exact hz60
          have hx62 : sp_pair K P V nm a = .inr (sp_f P (a + 2) 3) := by
            first
            | (exfalso; omega)
            | (unfold sp_pair; repeat (first | rw [if_pos (by omega)] | rw [if_neg (by omega)]))
          show yi_D zi_Ms d zi_m260 k (68, [(4, .inl (nm (V (a + 1)) - 0)), (2, .inr (.inl (L22 16 (a + 1)))), (1, .inl y1), (0, .inr (.inr (some 11)))], [], (I54, L33, R, Y), 0, 0) _
          exact yi_D_mono (jn68f (nm (V (a + 1)) - 0) (L22 16 (a + 1)) y1 _ _ _ hF59 he56 hz60 hx62 ) (by omega)
        · refine yi_D_if1 true rfl (yi_Lne_t h53) ?_
          have hne : ¬ nm (V (a + 2)) = nm (V (a + 1)) := fun e => by
            have hv := cs_N_v hW.2.2.2.2.2.2.2.1.1 (v := V (a + 1)) (by omega) e
            have hx := sp_WR_x (hw2 (by omega)) (by rw [hv]; exact hw1)
            omega
          refine yi_D_run 2 (70, [(4, .inl (nm (V (a + 1)) - 0)), (2, .inr (.inl (L22 16 (a + 1)))), (1, .inl y1), (0, .inr (.inr (some 11)))], [.inr (.inr (some 11)), .inr (.inr (some 11))], (I32, L33, R, Y), 0, 0) (fun _ => rfl) ?_
          refine yi_D_gr (v := some q) rfl rfl rfl hW.2.2.1.2.1 (fun _ => ?_)
          refine yi_D_gr (v := some (q + 1)) rfl rfl (Nat.ble_eq_true_of_le (by omega)) (hW.2.2.1.2.2.1 0 (by omega)) (fun _ => ?_)
          refine yi_D_run 1 (77, [(4, .inl (nm (V (a + 1)) - 0)), (2, .inr (.inl (L22 16 (a + 1)))), (1, .inl y1), (0, .inr (.inr (some 11)))], [.inr (.inr (some 11)), .inr (.inr (some (q + 1))), .inr (.inr (some 11))], (I32, L33, R, Y), 0, 0) (fun _ => rfl) ?_
          refine yi_D_gr (v := some q) rfl rfl rfl hW.2.2.1.2.1 (fun _ => ?_)
          have r63 : I32 q 15 = ld 1 := by rw [hGa34.1 q 15 (by omega), hGa23.1 q 15 (by omega), jF1 q 15 (by omega), hW.2.2.2.1.2.1]
          refine yi_D_gi (v := ld 1) rfl rfl (Nat.ble_eq_true_of_le (by omega)) r63 (fun _ => ?_)
          refine yi_D_callv rfl (p_takeName_z (by omega) ⟨by omega, by omega, by omega⟩ hW49 hf35 hA36 (by omega) hW49.2.2.2.2.2.2.2.1.1) ?_
          rintro _ (⟨c64, c65, I66, L67, rfl, hGa68, hf69, hA70⟩ | ⟨c71, z76, I72, L73, rfl, hGa74, he75⟩ | ⟨c77, z82, I78, L79, rfl, hGa80, he81⟩)
          · have hA70 : cs_A I66 L67 K te (a + 3) := hA70
            have hW83 := cs_W_t hW49 (cs_G_F hGa68)
            have hF84 := cs_F_t hF50 (cs_G_F hGa68)
            have hcc85 := cc_G hcc51 hGa68
            show yi_D zi_Ms d zi_m260 k (86, [(4, .inl (nm (V (a + 1)) - 0)), (2, .inr (.inl (L22 16 (a + 1)))), (1, .inl y1), (0, .inr (.inr (some 11)))], [.inl (nm (V (a + 2)) - 0)], (I66, L67, R, Y), 0, 0) _
            refine yi_D_run 3 (90, [(5, .inl (nm (V (a + 2)) - 0)), (4, .inl (nm (V (a + 1)) - 0)), (2, .inr (.inl (L22 16 (a + 1)))), (1, .inl y1), (0, .inr (.inr (some 11)))], [.inr (.inr (some 11)), .inr (.inr (some 11))], (I66, L67, R, Y), 0, 0) (fun _ => rfl) ?_
            refine yi_D_gr (v := some q) rfl rfl rfl hW.2.2.1.2.1 (fun _ => ?_)
            refine yi_D_gr (v := some (q + 2)) rfl rfl (Nat.ble_eq_true_of_le (by omega)) (hW.2.2.1.2.2.1 1 (by omega)) (fun _ => ?_)
            refine yi_D_run 1 (97, [(5, .inl (nm (V (a + 2)) - 0)), (4, .inl (nm (V (a + 1)) - 0)), (2, .inr (.inl (L22 16 (a + 1)))), (1, .inl y1), (0, .inr (.inr (some 11)))], [.inr (.inr (some 11)), .inr (.inr (some (q + 2))), .inr (.inr (some 11))], (I66, L67, R, Y), 0, 0) (fun _ => rfl) ?_
            refine yi_D_gr (v := some q) rfl rfl rfl hW.2.2.1.2.1 (fun _ => ?_)
            have r86 : I66 q 16 = ld 2 := by rw [hGa68.1 q 16 (by omega), hGa34.1 q 16 (by omega), hGa23.1 q 16 (by omega), jF1 q 16 (by omega), hW.2.2.2.1.2.2.1]
            refine yi_D_gi (v := ld 2) rfl rfl (Nat.ble_eq_true_of_le (by omega)) r86 (fun _ => ?_)
            refine yi_D_callv rfl (p_takeName_z (by omega) ⟨by omega, by omega, by omega⟩ hW83 hf69 hA70 (by omega) hW83.2.2.2.2.2.2.2.1.2.1) ?_
            rintro _ (⟨c87, c88, I89, L90, rfl, hGa91, hf92, hA93⟩ | ⟨c94, z99, I95, L96, rfl, hGa97, he98⟩ | ⟨c100, z105, I101, L102, rfl, hGa103, he104⟩)
            · have hA93 : cs_A I89 L90 K te (a + 4) := hA93
              have hW106 := cs_W_t hW83 (cs_G_F hGa91)
              have hF107 := cs_F_t hF84 (cs_G_F hGa91)
              have hcc108 := cc_G hcc85 hGa91
              show yi_D zi_Ms d zi_m260 k (106, [(5, .inl (nm (V (a + 2)) - 0)), (4, .inl (nm (V (a + 1)) - 0)), (2, .inr (.inl (L22 16 (a + 1)))), (1, .inl y1), (0, .inr (.inr (some 11)))], [.inl (nm (V (a + 3)) - 4)], (I89, L90, R, Y), 0, 0) _
              refine yi_D_run 3 (110, [(6, .inl (nm (V (a + 3)) - 4)), (5, .inl (nm (V (a + 2)) - 0)), (4, .inl (nm (V (a + 1)) - 0)), (2, .inr (.inl (L22 16 (a + 1)))), (1, .inl y1), (0, .inr (.inr (some 11)))], [.inl 1, .inr (.inr (some 11))], (I89, L90, R, Y), 0, 0) (fun _ => rfl) ?_
              refine yi_D_pi rfl (fun _ => ?_)
              generalize w110 : yi_u I89 11 5 1 = I109
              have hE111 : cs_E I89 I109 := fun p k hp0 hp1 => by rw [← w110, yi_u_ne _ _ (by omega)]
              have hW112 := cs_W_t hW106 (cs_E_F (L := L90) hE111)
              have hF113 := cs_F_t hF107 (cs_E_F hE111)
              have hf114 : I109 11 11 = 0 := (hE111 11 11 (by omega) (by omega)).trans hf92
              have hA115 := cs_A_e hA93 hE111
              have hcc116 := cc_nw (I' := I109) hcc108 (by rw [← w110, yi_u_eq]) (fun p k h => by rw [← w110, yi_u_ne _ _ h])
              refine yi_D_run 6 (122, [(6, .inl (nm (V (a + 3)) - 4)), (5, .inl (nm (V (a + 2)) - 0)), (4, .inl (nm (V (a + 1)) - 0)), (2, .inr (.inl (L22 16 (a + 1)))), (1, .inl y1), (0, .inr (.inr (some 11)))], [.inl 0, .inl (nm (V (a + 2)) - 0), .inl (nm (V (a + 3)) - 4), .inl (nm (V (a + 1)) - 0), .inl y1, .inr (.inr (some 11))], (I109, L90, R, Y), 0, 0) (fun _ => rfl) ?_
              have hy1 : (K a = 16 ∧ y1 = 6) ∨ (K a = 17 ∧ y1 = 7) := by
                by_cases h16 : K a = 16
                · exact Or.inl ⟨h16, by rw [jy1, if_pos h16]⟩
                · exact Or.inr ⟨by omega, by rw [jy1, if_neg h16]⟩
              have h7 : (if K a = 16 then (7 : Int) else 8) = y1 + 1 := by
                by_cases h16 : K a = 16
                · rw [if_pos h16]; omega
                · rw [if_neg h16]; omega
              refine yi_D_calls rfl (p_clauseCodeI (y1).toNat (nm (V (a + 1)) - 0).toNat (nm (V (a + 3)) - 4).toNat (nm (V (a + 2)) - 0).toNat 0 (by omega) (by omega) (by omega) (by omega) rfl (by omega) (by omega) (by omega) (by omega) (by omega)) ?_
              rintro _ rfl
              show yi_D zi_Ms d zi_m260 k (125, [(6, .inl (nm (V (a + 3)) - 4)), (5, .inl (nm (V (a + 2)) - 0)), (4, .inl (nm (V (a + 1)) - 0)), (2, .inr (.inl (L22 16 (a + 1)))), (1, .inl y1), (0, .inr (.inr (some 11)))], [.inl ((cc_cd (y1).toNat (nm (V (a + 1)) - 0).toNat (nm (V (a + 3)) - 4).toNat (nm (V (a + 2)) - 0).toNat 0 : Nat) : Int), .inr (.inr (some 11))], (I109, L90, R, Y), 0, 0) _
              refine yi_D_callv rfl (p_emitC hW112 hf114 (cc_u hcc116) hb) ?_
              rintro _ ⟨I117, rfl, hE118⟩
              have hE119 := cc_E_E hE118
              have hcc120 : cc_S (trF da vg) u0 cb fx b0 vg false I117 (cs ++ [(11, sp_cc (nm (V (a + 1))) (nm (V (a + 3)) - 4) (if K a = 16 then 7 else 8) (nm (V (a + 2))))]) := by
                have e : sp_cc (nm (V (a + 1))) (nm (V (a + 3)) - 4) (if K a = 16 then 7 else 8) (nm (V (a + 2))) = sp_cc (((nm (V (a + 1)) - 0).toNat : Nat) : Int) (((nm (V (a + 3)) - 4).toNat : Nat) : Int) ((y1.toNat + 1 : Nat) : Int) (((nm (V (a + 2)) - 0).toNat : Nat) : Int) := by
                  unfold sp_cc
                  rw [h7]
                  omega
                rw [e]
                refine cc_push hcc116 hE118 ?_ ?_ (show ¬ (11 : Int) = 0 by decide)
                · rw [trC_cc (by omega) (by omega) (by omega) (by omega)]
                  rcases hy1 with h | h <;> rw [h.2] <;> rfl
                · rw [isnm_cc (by omega) (by omega) (by omega) (by omega)]
                  exact decide_eq_true (by omega)
              have hW121 := cs_W_t hW112 (cs_E_F (L := L90) hE119)
              have hF122 := cs_F_t hF113 (cs_E_F hE119)
              have hf123 : I117 11 11 = 0 := (hE119 11 11 (by omega) (by omega)).trans hf114
              have hA124 := cs_A_e hA115 hE119
              show yi_D zi_Ms d zi_m260 k (128, [(6, .inl (nm (V (a + 3)) - 4)), (5, .inl (nm (V (a + 2)) - 0)), (4, .inl (nm (V (a + 1)) - 0)), (2, .inr (.inl (L22 16 (a + 1)))), (1, .inl y1), (0, .inr (.inr (some 11)))], [], (I117, L90, R, Y), 0, 0) _
              refine yi_D_retv rfl ?_
              first
              | (exfalso; omega)
              | (refine ⟨_, _, rfl, hF122, Or.inl ⟨_, sp_cc (nm (V (a + 1))) (nm (V (a + 3)) - 4) (if K a = 16 then 7 else 8) (nm (V (a + 2))), ?_, hf123, hA124, hcc120⟩⟩; unfold sp_pair; repeat (first | rw [if_pos (by omega)] | rw [if_neg (by omega)]))
            · have hW125 := cs_W_t hW83 (cs_G_F hGa97)
              have hF126 := cs_F_t hF84 (cs_G_F hGa97)
              have hz127 : ¬ sp_f P (a + 3) 1 = 0 := sp_f_ne hW83 hA70.2.1 (by omega)
              have hn128 : ¬ I95 11 11 = 0 := by rw [he98]; exact hz127
              have hx129 : sp_pair K P V nm a = .inr (sp_f P (a + 3) 1) := by
                first
                | (exfalso; omega)
                | (unfold sp_pair; repeat (first | rw [if_pos (by omega)] | rw [if_neg (by omega)]))
              show yi_D zi_Ms d zi_m260 k (106, [(5, .inl (nm (V (a + 2)) - 0)), (4, .inl (nm (V (a + 1)) - 0)), (2, .inr (.inl (L22 16 (a + 1)))), (1, .inl y1), (0, .inr (.inr (some 11)))], [.inl z99], (I95, L96, R, Y), 0, 0) _
              refine yi_D_run 1 (108, [(6, .inl z99), (5, .inl (nm (V (a + 2)) - 0)), (4, .inl (nm (V (a + 1)) - 0)), (2, .inr (.inl (L22 16 (a + 1)))), (1, .inl y1), (0, .inr (.inr (some 11)))], [], (I95, L96, R, Y), 0, 0) (fun _ => rfl) ?_
              exact yi_D_mono (jn108f z99 (nm (V (a + 2)) - 0) (nm (V (a + 1)) - 0) (L22 16 (a + 1)) y1 _ _ _ hF126 he98 hz127 hx129 ) (by omega)
            · have hW130 := cs_W_t hW83 (cs_G_F hGa103)
              have hF131 := cs_F_t hF84 (cs_G_F hGa103)
              have hz132 : ¬ sp_f P (a + 3) 2 = 0 := sp_f_ne hW83 hA70.2.1 (by omega)
              have hn133 : ¬ I101 11 11 = 0 := by rw [he104]; exact hz132
              have hx134 : sp_pair K P V nm a = .inr (sp_f P (a + 3) 2) := by
                first
                | (exfalso; omega)
                | (unfold sp_pair; repeat (first | rw [if_pos (by omega)] | rw [if_neg (by omega)]))
              show yi_D zi_Ms d zi_m260 k (106, [(5, .inl (nm (V (a + 2)) - 0)), (4, .inl (nm (V (a + 1)) - 0)), (2, .inr (.inl (L22 16 (a + 1)))), (1, .inl y1), (0, .inr (.inr (some 11)))], [.inl z105], (I101, L102, R, Y), 0, 0) _
              refine yi_D_run 1 (108, [(6, .inl z105), (5, .inl (nm (V (a + 2)) - 0)), (4, .inl (nm (V (a + 1)) - 0)), (2, .inr (.inl (L22 16 (a + 1)))), (1, .inl y1), (0, .inr (.inr (some 11)))], [], (I101, L102, R, Y), 0, 0) (fun _ => rfl) ?_
              exact yi_D_mono (jn108f z105 (nm (V (a + 2)) - 0) (nm (V (a + 1)) - 0) (L22 16 (a + 1)) y1 _ _ _ hF131 he104 hz132 hx134 ) (by omega)
          · exfalso; omega
          · have hW135 := cs_W_t hW49 (cs_G_F hGa80)
            have hF136 := cs_F_t hF50 (cs_G_F hGa80)
            have hz137 : ¬ sp_f P (a + 2) 2 = 0 := sp_f_ne hW49 hA36.2.1 (by omega)
            have hn138 : ¬ I78 11 11 = 0 := by rw [he81]; exact hz137
            have hx139 : sp_pair K P V nm a = .inr (sp_f P (a + 2) 2) := by
              first
              | (exfalso; omega)
              | (unfold sp_pair; repeat (first | rw [if_pos (by omega)] | rw [if_neg (by omega)]))
            show yi_D zi_Ms d zi_m260 k (86, [(4, .inl (nm (V (a + 1)) - 0)), (2, .inr (.inl (L22 16 (a + 1)))), (1, .inl y1), (0, .inr (.inr (some 11)))], [.inl z82], (I78, L79, R, Y), 0, 0) _
            refine yi_D_run 1 (88, [(5, .inl z82), (4, .inl (nm (V (a + 1)) - 0)), (2, .inr (.inl (L22 16 (a + 1)))), (1, .inl y1), (0, .inr (.inr (some 11)))], [], (I78, L79, R, Y), 0, 0) (fun _ => rfl) ?_
            exact yi_D_mono (jn88f z82 (nm (V (a + 1)) - 0) (L22 16 (a + 1)) y1 _ _ _ hF136 he81 hz137 hx139 ) (by omega)
      · refine yi_D_if2 true rfl (yi_ne_t h52) ?_
        
        refine yi_D_run 2 (70, [(4, .inl (nm (V (a + 1)) - 0)), (2, .inr (.inl (L22 16 (a + 1)))), (1, .inl y1), (0, .inr (.inr (some 11)))], [.inr (.inr (some 11)), .inr (.inr (some 11))], (I32, L33, R, Y), 0, 0) (fun _ => rfl) ?_
        refine yi_D_gr (v := some q) rfl rfl rfl hW.2.2.1.2.1 (fun _ => ?_)
        refine yi_D_gr (v := some (q + 1)) rfl rfl (Nat.ble_eq_true_of_le (by omega)) (hW.2.2.1.2.2.1 0 (by omega)) (fun _ => ?_)
        refine yi_D_run 1 (77, [(4, .inl (nm (V (a + 1)) - 0)), (2, .inr (.inl (L22 16 (a + 1)))), (1, .inl y1), (0, .inr (.inr (some 11)))], [.inr (.inr (some 11)), .inr (.inr (some (q + 1))), .inr (.inr (some 11))], (I32, L33, R, Y), 0, 0) (fun _ => rfl) ?_
        refine yi_D_gr (v := some q) rfl rfl rfl hW.2.2.1.2.1 (fun _ => ?_)
        have r140 : I32 q 15 = ld 1 := by rw [hGa34.1 q 15 (by omega), hGa23.1 q 15 (by omega), jF1 q 15 (by omega), hW.2.2.2.1.2.1]
        refine yi_D_gi (v := ld 1) rfl rfl (Nat.ble_eq_true_of_le (by omega)) r140 (fun _ => ?_)
        refine yi_D_callv rfl (p_takeName_z (by omega) ⟨by omega, by omega, by omega⟩ hW49 hf35 hA36 (by omega) hW49.2.2.2.2.2.2.2.1.1) ?_
        rintro _ (⟨c141, c142, I143, L144, rfl, hGa145, hf146, hA147⟩ | ⟨c148, z153, I149, L150, rfl, hGa151, he152⟩ | ⟨c154, z159, I155, L156, rfl, hGa157, he158⟩)
        · exfalso; omega
        · have hW160 := cs_W_t hW49 (cs_G_F hGa151)
          have hF161 := cs_F_t hF50 (cs_G_F hGa151)
          have hz162 : ¬ sp_f P (a + 2) 1 = 0 := sp_f_ne hW49 hA36.2.1 (by omega)
          have hn163 : ¬ I149 11 11 = 0 := by rw [he152]; exact hz162
          have hx164 : sp_pair K P V nm a = .inr (sp_f P (a + 2) 1) := by
            first
            | (exfalso; omega)
            | (unfold sp_pair; repeat (first | rw [if_pos (by omega)] | rw [if_neg (by omega)]))
          show yi_D zi_Ms d zi_m260 k (86, [(4, .inl (nm (V (a + 1)) - 0)), (2, .inr (.inl (L22 16 (a + 1)))), (1, .inl y1), (0, .inr (.inr (some 11)))], [.inl z153], (I149, L150, R, Y), 0, 0) _
          refine yi_D_run 1 (88, [(5, .inl z153), (4, .inl (nm (V (a + 1)) - 0)), (2, .inr (.inl (L22 16 (a + 1)))), (1, .inl y1), (0, .inr (.inr (some 11)))], [], (I149, L150, R, Y), 0, 0) (fun _ => rfl) ?_
          exact yi_D_mono (jn88f z153 (nm (V (a + 1)) - 0) (L22 16 (a + 1)) y1 _ _ _ hF161 he152 hz162 hx164 ) (by omega)
        · exfalso; omega
    · have hW165 := cs_W_t hW26 (cs_G_F hGa40)
      have hF166 := cs_F_t hF27 (cs_G_F hGa40)
      have hz167 : ¬ sp_f P (a + 1) 1 = 0 := sp_f_ne hW26 hA25.2.1 (by omega)
      have hn168 : ¬ I38 11 11 = 0 := by rw [he41]; exact hz167
      have hx169 : sp_pair K P V nm a = .inr (sp_f P (a + 1) 1) := by
        first
        | (exfalso; omega)
        | (unfold sp_pair; repeat (first | rw [if_pos (by omega)] | rw [if_neg (by omega)]))
      show yi_D zi_Ms d zi_m260 k (44, [(2, .inr (.inl (L22 16 (a + 1)))), (1, .inl y1), (0, .inr (.inr (some 11)))], [.inl z42], (I38, L39, R, Y), 0, 0) _
      refine yi_D_run 1 (46, [(4, .inl z42), (2, .inr (.inl (L22 16 (a + 1)))), (1, .inl y1), (0, .inr (.inr (some 11)))], [], (I38, L39, R, Y), 0, 0) (fun _ => rfl) ?_
      exact yi_D_mono (jn46f z42 (L22 16 (a + 1)) y1 _ _ _ hF166 he41 hz167 hx169 ) (by omega)
    · have hW170 := cs_W_t hW26 (cs_G_F hGa46)
      have hF171 := cs_F_t hF27 (cs_G_F hGa46)
      have hz172 : ¬ sp_f P (a + 1) 2 = 0 := sp_f_ne hW26 hA25.2.1 (by omega)
      have hn173 : ¬ I44 11 11 = 0 := by rw [he47]; exact hz172
      have hx174 : sp_pair K P V nm a = .inr (sp_f P (a + 1) 2) := by
        first
        | (exfalso; omega)
        | (unfold sp_pair; repeat (first | rw [if_pos (by omega)] | rw [if_neg (by omega)]))
      show yi_D zi_Ms d zi_m260 k (44, [(2, .inr (.inl (L22 16 (a + 1)))), (1, .inl y1), (0, .inr (.inr (some 11)))], [.inl z48], (I44, L45, R, Y), 0, 0) _
      refine yi_D_run 1 (46, [(4, .inl z48), (2, .inr (.inl (L22 16 (a + 1)))), (1, .inl y1), (0, .inr (.inr (some 11)))], [], (I44, L45, R, Y), 0, 0) (fun _ => rfl) ?_
      exact yi_D_mono (jn46f z48 (L22 16 (a + 1)) y1 _ _ _ hF171 he47 hz172 hx174 ) (by omega)
  show yi_D zi_Ms d zi_m260 k (0, [(0, .inr (.inr (some 11)))], [], (I, L, R, Y), 0, 0) _
  refine yi_D_run 1 (1, [(0, .inr (.inr (some 11)))], [.inr (.inr (some 11))], (I, L, R, Y), 0, 0) (fun _ => rfl) ?_
  refine yi_D_gi (v := K a) rfl rfl rfl hA.2.2.1 (fun _ => ?_)
  refine yi_D_run 1 (6, [(0, .inr (.inr (some 11)))], [.inl 16, .inl (K a)], (I, L, R, Y), 0, 0) (fun _ => rfl) ?_
  by_cases h175 : (K a) = 16
  · refine yi_D_if2 false rfl (yi_ne_f h175) ?_
    refine yi_D_run 3 (17, [(1, .inl 6), (0, .inr (.inr (some 11)))], [], (I, L, R, Y), 0, 0) (fun _ => rfl) ?_
    exact yi_D_mono (jn17z 6 _ _ (cs_F_r I L) hf hA (by split <;> omega) hcc) (by omega)
  · refine yi_D_if2 true rfl (yi_ne_t h175) ?_
    refine yi_D_run 2 (17, [(1, .inl 7), (0, .inr (.inr (some 11)))], [], (I, L, R, Y), 0, 0) (fun _ => rfl) ?_
    exact yi_D_mono (jn17z 7 _ _ (cs_F_r I L) hf hA (by split <;> omega) hcc) (by omega)
