/-! The law's own first, where the class's returns; runs of the second interpreter as runs of the machine. -/
theorem lw_fn {I L : cl_I} {R : cl_Rr} {Y : cl_Y} (hC : cl_C [] I L R Y) (ho : Y.1 109 = 21 ∧ Y.2.1 109 = 1) {x y w : Int} (h : yi_G zi_Ms 60 zi_mg (0, [(0, .inr (.inr (some 10))), (1, .inl x), (2, .inl y), (3, .inl w)], [], (I, L, R, Y), 0, 0) (fun r => (∃ z, ∃ I', ∃ L', ∃ R', ∃ Y', ∃ nc ns, r = (some (.inl z), (I', L', R', Y'), nc, ns) ∧ cl_P [] I L R Y I' L' R' Y' ∧ nc ≤ 1 ∧ ns ≤ 513) ∧ lw_H I L R Y r.2.1.1 r.2.1.2.1 r.2.1.2.2.1 r.2.1.2.2.2)) :
    ∃ n0 k0 z I' L' R' Y' nc ns, yi_loop (yi_ly [zi_mg] (yi_ev zi_Ms n0 60) n0) zi_mlf2 k0 (0, [(0, .inr (.inr (some 10))), (1, .inl x), (2, .inl y), (3, .inl w), (4, .inr (.inr (some 109)))], [], (I, L, R, Y), 0, 0) = some (some (.inl 0), (I', yi_u L' 109 0 z, R', Y'), nc, ns) ∧ cl_P [] I L R Y I' L' R' Y' ∧ (nc ≤ 1 ∧ ns ≤ 513) ∧ lw_H I L R Y I' L' R' Y' := by
  obtain ⟨r, ⟨⟨z, I', L', R', Y', nc, ns, rfl, hP, hc, hs⟩, hcx⟩, n0, hr⟩ := h
  refine ⟨n0, 1 + 2 + 1 + 1 + 1 + 6, z, I', L', R', Y', nc, ns, ?_, hP, ⟨hc, hs⟩, hcx⟩
  have ho' := lw_out hC ho hP.2.1
  have hcall : yi_ly [zi_mg] (yi_ev zi_Ms n0 60) n0 0 [.inr (.inr (some 10)), .inl x, .inl y, .inl w] (I, L, R, Y) = some (some (.inl z), (I', L', R', Y'), nc, ns) := hr n0 n0 (Nat.le_refl _) (Nat.le_refl _)
  generalize yi_ly [zi_mg] (yi_ev zi_Ms n0 60) n0 = cl at hcall
  refine yi_run_loop 6 _ (g := (7, [(0, .inr (.inr (some 10))), (1, .inl x), (2, .inl y), (3, .inl w), (4, .inr (.inr (some 109)))], [.inl w, .inl y, .inl x, .inr (.inr (some 10)), .inl 0, .inr (.inr (some 109))], (I, L, R, Y), 0, 0)) rfl ?_
  have s1 : yi_stp cl [] zi_mlf2 (7, [(0, .inr (.inr (some 10))), (1, .inl x), (2, .inl y), (3, .inl w), (4, .inr (.inr (some 109)))], [.inl w, .inl y, .inl x, .inr (.inr (some 10)), .inl 0, .inr (.inr (some 109))], (I, L, R, Y), 0, 0) = some (.inl (10, [(0, .inr (.inr (some 10))), (1, .inl x), (2, .inl y), (3, .inl w), (4, .inr (.inr (some 109)))], [.inl z, .inl 0, .inr (.inr (some 109))], (I', L', R', Y'), 0 + nc, 0 + ns)) := by
    refine yi_stp_of (i := .invokevirtual 7) (n := 3) rfl ?_
    show (bif Nat.ble 1 4 && yi_rcv (I, L, R, Y) 0 (some (.inr (.inr (some 10)))) then yi_inv 7 3 [(0, .inr (.inr (some 10))), (1, .inl x), (2, .inl y), (3, .inl w), (4, .inr (.inr (some 109)))] [.inl w, .inl y, .inl x, .inr (.inr (some 10)), .inl 0, .inr (.inr (some 109))] (I, L, R, Y) 0 0 cl 0 4 else none) = _
    have e : yi_rcv (I, L, R, Y) 0 (some (.inr (.inr (some 10)))) = true := by
      show (Nat.beq (Y.1 10) 0 && Nat.ble 1 20) = true
      rw [hC.2.2.2.1.1]
      rfl
    rw [e]
    show ((match cl 0 [.inr (.inr (some 10)), .inl x, .inl y, .inl w] (I, L, R, Y) with
      | some q => (match q.1 with
        | some v => some (Sum.inl (7 + 3, [(0, .inr (.inr (some 10))), (1, .inl x), (2, .inl y), (3, .inl w), (4, .inr (.inr (some 109)))], v :: [.inl 0, .inr (.inr (some 109))], q.2.1, 0 + q.2.2.1, 0 + q.2.2.2))
        | none => some (Sum.inl (7 + 3, [(0, .inr (.inr (some 10))), (1, .inl x), (2, .inl y), (3, .inl w), (4, .inr (.inr (some 109)))], [.inl 0, .inr (.inr (some 109))], q.2.1, 0 + q.2.2.1, 0 + q.2.2.2)))
      | none => none) : yi_O) = _
    rw [hcall]
  refine yi_run_loop 1 _ (g := (10, [(0, .inr (.inr (some 10))), (1, .inl x), (2, .inl y), (3, .inl w), (4, .inr (.inr (some 109)))], [.inl z, .inl 0, .inr (.inr (some 109))], (I', L', R', Y'), 0 + nc, 0 + ns)) (by
    show (match yi_stp cl [] zi_mlf2 _ with | some (.inl g) => some g | _ => none) = some _
    rw [s1]) ?_
  refine yi_run_loop 1 _ (g := (11, [(0, .inr (.inr (some 10))), (1, .inl x), (2, .inl y), (3, .inl w), (4, .inr (.inr (some 109)))], [.inr (.inl z), .inl 0, .inr (.inr (some 109))], (I', L', R', Y'), 0 + nc, 0 + ns)) rfl ?_
  have s2 : yi_stp cl [] zi_mlf2 (11, [(0, .inr (.inr (some 10))), (1, .inl x), (2, .inl y), (3, .inl w), (4, .inr (.inr (some 109)))], [.inr (.inl z), .inl 0, .inr (.inr (some 109))], (I', L', R', Y'), 0 + nc, 0 + ns) = some (.inl (12, [(0, .inr (.inr (some 10))), (1, .inl x), (2, .inl y), (3, .inl w), (4, .inr (.inr (some 109)))], [], (I', yi_u L' 109 0 z, R', Y'), 0 + nc, 0 + ns)) := by
    refine yi_stp_of (i := .lastore) (n := 1) rfl ?_
    show ((bif Nat.ble 10 109 && Nat.beq (Y'.1 109) 21 && Nat.ble 1 3 && decide ((0 : Int) ≤ 0) && decide ((0 : Int) < (Y'.2.1 109 : Int)) && yi_fit (zi_ft 1) (.inr (.inl z)) then some (.inl (12, _, [], yi_wrt (I', L', R', Y') 109 (0 : Int).toNat (.inr (.inl z)), 0 + nc, 0 + ns)) else none) : yi_O) = _
    rw [ho'.1, ho'.2]
    rfl
  refine yi_run_loop 1 _ (g := (12, [(0, .inr (.inr (some 10))), (1, .inl x), (2, .inl y), (3, .inl w), (4, .inr (.inr (some 109)))], [], (I', yi_u L' 109 0 z, R', Y'), 0 + nc, 0 + ns)) (by
    show (match yi_stp cl [] zi_mlf2 _ with | some (.inl g) => some g | _ => none) = some _
    rw [s2]) ?_
  refine yi_run_loop 2 _ (g := (20, [(0, .inr (.inr (some 10))), (1, .inl x), (2, .inl y), (3, .inl w), (4, .inr (.inr (some 109)))], [.inl 0], (I', yi_u L' 109 0 z, R', Y'), 0 + nc, 0 + ns)) rfl ?_
  show (some ((some (Sum.inl 0), (I', yi_u L' 109 0 z, R', Y'), 0 + nc, 0 + ns)) : Option yi_R) = _
  rw [Nat.zero_add, Nat.zero_add]
section ZYL
variable {p : Program} {l : Launch} {e : Env} {R : Room} {s : State} {m : MethodId} {args : Array Value} {below : List Frame} {meth : Method} {c : Code} {B0 : Nat} {D : va_G} {dA : Nat → ClassId} {adK adV : Nat → Nat} {b : Nat} {M : zi_M} {d : Nat} {zsl : List zi_V}
theorem zi_yiL (C : zi_Cx p R s m args meth c B0 D dA adK adV b M d zsl) (hT : zi_okT zi_Ms M) {sl : List Int} (hl : zi_F2 (fun z v => yi_vr (.inl z) v) sl zsl) (hsm : sl.length ≤ 1000000) {Y : yi_F} {f : zi_F} (hf : yi_fr Y f) {Q : yi_F → Prop} (h : yi_L zi_Ms d sl M Y Q) {Qm : State → Prop} {ws : va_W} {H : Heap} {locs : List Loc} {ls : Array Slot} {sc : List Value} (hS : zi_St B0 D dA adK adV b M.2.2.1 s f ws H locs ls sc) (hR : ∀ g, Q g → g.2.2.2.2.1 ≤ R.cells ∧ g.2.2.2.2.2 ≤ R.slots)
    (kk : ∀ (g : yi_F) (zg : zi_F), Q g → yi_fr g zg → ∀ (ws' : va_W) (H' : Heap) (locs' : List Loc) (ls' : Array Slot) (sc' : List Value), zi_St B0 D dA adK adV b M.2.2.1 s zg ws' H' locs' ls' sc' → zi_W p l e R s m args below meth c Qm zg.2.2.2.2.1 zg.2.2.2.2.2 zg.1 H' locs' ls' sc') :
    zi_W p l e R s m args below meth c Qm f.2.2.2.2.1 f.2.2.2.2.2 f.1 H locs ls sc := by
  obtain ⟨g, hq, k, n0, hr⟩ := h
  obtain ⟨zg, hz, hfr⟩ := yi_runs_ok (yi_ev_ok zi_Ms n0 d) hl hsm M k hf (hr n0 (Nat.le_refl _))
  have hb := hR g hq
  have e1 := hfr.2.2.2.2.1
  have e2 := hfr.2.2.2.2.2
  exact (zi_run_go (l := l) (e := e) (below := below) C (zi_ev_ok zi_Ms_ok n0 d) (fun mi N hN => (zi_Ms_ok mi N hN).1) hT k hz).1 _ ws H locs ls sc hS (by rw [← e1]; exact hb.1) (by rw [← e2]; exact hb.2) (fun ws' H' locs' ls' sc' _ hS' => kk g zg hq hfr ws' H' locs' ls' sc' hS')
theorem zi_St_drop {nL pc nc ns : Nat} {a : Nat × zi_V} {al : List (Nat × zi_V)} {st : List zi_V} {A : List zi_C} {ws : va_W} {H : Heap} {locs : List Loc} {ls : Array Slot} {sc : List Value} (h : zi_St B0 D dA adK adV b nL s (pc, a :: al, st, A, nc, ns) ws H locs ls sc) : zi_St B0 D dA adK adV b nL s (pc, al, st, A, nc, ns) ws H locs ls sc := by
  obtain ⟨h1, h2, h3, h4, ⟨lv, h5, h7⟩, h6⟩ := h
  obtain ⟨w, lv', e, -, h8⟩ := zi_F2_cons h7
  subst e
  exact ⟨h1, h2, h3, h4, ⟨lv', ⟨h5.1, h5.2.1, fun q hq => h5.2.2 q (List.mem_cons_of_mem _ hq)⟩, h8⟩, h6⟩
end ZYL
theorem zi_F2_map {α β γ : Type} {r : β → γ → Prop} {f : α → β} {g : α → γ} (h : ∀ a, r (f a) (g a)) : ∀ l : List α, zi_F2 r (l.map f) (l.map g)
  | [] => trivial
  | a :: l => ⟨h a, zi_F2_map h l⟩
theorem yi_hr_0 {H : yi_H} {A : List zi_C} (h : yi_hr H A) (hk : H.2.2.2.1 10 = 0) : ∃ q : Nat × List zi_V, A[0]? = some (.inl q) ∧ q.1 = 0 := by
  obtain ⟨-, c, hc, hr⟩ := h.2 10 (by rw [hk]; omega)
  cases c with
  | inl q =>
    have e : H.2.2.2.1 10 = q.1 := hr.1
    exact ⟨q, hc, by rw [← e]; exact hk⟩
  | inr q =>
    have e : H.2.2.2.1 10 = 20 + q.1 := hr.1
    rw [hk] at e
    omega
