/-! the two that make keys: they may throw, and the world grows -/
def Cy {α : Type} (l : Launch) (y : MethodName) (cc : ByteArray) (nL : Nat) (ret : Option FieldType) (fr lo mc ms : Nat) (wr : α → Option Value) (args : List Value) (w : Wl) (σ : St) (post : α → Wl → St → Prop) (postX : String → Prop) : Prop :=
  ∀ (D : va_G) (g : Nat → ClassId) (sz : Nat), vx_Met l y (.code y cc nL ret :: BW) { frames := fr, cells := mc, slots := ms, locals := lo } (va_Pc args (PW D g w σ sz)) (QG D g w sz wr post) (XX D g w sz σ postX) mc ms (AF w sz)
theorem Cy.of {α : Type} {l : Launch} {y : MethodName} {cc : ByteArray} {nL : Nat} {ret : Option FieldType} {fr lo mc ms : Nat} {wr : α → Option Value} {args : List Value} {w : Wl} {σ : St} {post : α → Wl → St → Prop} {postX : String → Prop} {own : String} {lv : List (Nat × Value)}
    (hy : plainName y.cls = true) (hown : y.cls = own) (hlen : (lg_sl args).length ≤ nL) (hlv : lv_args 0 args = lv)
    (h : ∀ X : CX, okX X cc nL own ret → xl X = l → xR X = { frames := fr, cells := mc, slots := ms, locals := lo } → (∀ k i, w.2 k i → ∀ q ∈ mn σ k i, w.2 q.1 q.2) → (∀ a w' σ', post a w' σ' → ∀ z : Nat × Nat, z.1 ≤ mc → z.2 ≤ ms → RT X z w' (wr a) σ') → (∀ E, postX E → ∀ z : Nat × Nat, z.1 ≤ mc → z.2 ≤ ms → XO X z w E σ) → V X (0, 0) w 0 lv σ []) : Cy l y cc nL ret fr lo mc ms wr args w σ post postX := by
  intro D g sz
  refine vx_ofW (cc := cc) (maxL := nL) (ret := ret) hy rfl ?_
  intro p e s m args' below meth c s₁ B hml htab hv
  obtain ⟨rfl, hsz, hE, hSR⟩ := hv
  have hts := atoms_spec (ws := .code y cc nL ret :: BW) B.pre
  have hfc : s.vm.findClass own = some m.cls := by rw [← hown]; exact findClass_of_methodNamed B.named
  have K := h (p, l, e, { frames := fr, cells := mc, slots := ms, locals := lo }, s, m, args.toArray, below, meth, c, vx_MQ below (QG D g w sz wr post) (XX D g w sz σ postX) args.toArray s mc ms (AF w sz), AF w sz, D, g)
    ⟨B.exec, B.bytes, hml, B.returns, hfc, B.notSynchronized, fun x hx => hts x (List.mem_cons_of_mem _ hx)⟩ rfl rfl hE.2.2.2 ?_ ?_
  · rw [lg_entry_eq]
    have hl := lv_entry args (n := nL) hlen
    rw [hlv] at hl
    refine K s.heap [] _ ⟨hE.1, hE.2.1, hE.2.2, fun k i hk => Or.inl ⟨k, i, hk, rfl⟩, va_S.rf, fun q hq => Or.inr (by rw [← hsz]; exact hq), hSR⟩ ?_
    show lv_has _ c.maxLocals lv
    rw [hml]
    exact hl
  · intro a w' σ' hp z hz1 hz2
    refine ⟨QG D g w sz wr post, AF w sz, fun H locs g k => ?_, fun H locs hW => ⟨fun t ht hWt => ⟨⟨a, w', σ', rfl, hp, ⟨hW.1.warm hWt, ?_, hW.2.2.1⟩, hW.2.2.2.1⟩, hW.2.2.2.2.1.F ht⟩, hW.2.2.2.2.1.2.2⟩⟩
    · refine vx_ret ?_
      intro T hT X0
      obtain ⟨t, a1, o, b1, b2, b3, L, b4, b5⟩ := k T hT X0
      exact ⟨t, a1, o, b1, b2, b3, L, ⟨b4.1, b4.2.1, b4.2.2.mono hz1 hz2⟩, b5⟩
    · rw [ht]
      exact hW.2.1
  · intro E hp z hz1 hz2
    refine ⟨QG D g w sz wr post, XX D g w sz σ postX, mc, ms, AF w sz, rfl, hz1, hz2, htab, fun H locs hW => ⟨hW.2.2.2.2.1.2.2, fun t ht => ⟨⟨hp, ?_, hW.2.2.1⟩, hW.2.2.2.2.1.F ht⟩⟩⟩
    rw [ht]
    exact hW.2.1
/-- the ring is one; from key n on nothing is there -/
def KW (w : Wl) (n : Nat) : Prop := (∀ q, w.2 12 q → q = 0) ∧ ∀ i, n ≤ i → ¬ w.2 5 i ∧ ¬ w.2 6 i ∧ ¬ w.2 35 i ∧ ¬ w.2 36 i ∧ ∀ j, j < 8 → ¬ w.2 3 (32 + 8 * i + j) ∧ ¬ w.2 4 (32 + 8 * i + j) ∧ ¬ w.2 33 (32 + 8 * i + j)
/-- keys are more -/
def Wk (w w' : Wl) : Prop := Wle w w' ∧ ∀ k i, w'.2 k i → w.2 k i ∨ (3 ≤ k ∧ k ≤ 6)
theorem Wk.rf {w : Wl} : Wk w w := ⟨Wle.rf, fun _ _ h => Or.inl h⟩
def FM1 (σ s : St) : Prop := ∀ c, 10 ≤ c → c ≠ 21 → s c = σ c
theorem FM1.rf {σ : St} : FM1 σ σ := fun _ _ _ => rfl
theorem FM.one {σ s : St} (h : FM σ s) : FM1 σ s := fun c hc _ => h c hc
theorem FK.fm1 {k : Nat} {σ s : St} (h : FK k σ s) : FM1 σ s := fun c hc h21 => funext fun i => h c i (Or.inr (Or.inr (Or.inr hc))) h21 (fun q => by omega) (fun q => by omega)
theorem FM1.kp {σ s t : St} {n : Nat} (h : FM1 σ s) (e : t = su (su s 7 0 n 1) 4 0 0 ((n : Int) + 1)) : FM1 σ t := fun c hc h21 => by rw [e, su_rc (by omega), su_rc (by omega)]; exact h c hc h21
theorem Wad.wk {w w' : Wl} {m : List (Nat × Nat)} {i P : Nat} (h : Wad w w' m) (hm : ∀ q, q ∈ m ↔ q = (5, i) ∨ q = (6, i) ∨ ((q.1 = 3 ∨ q.1 = 4) ∧ 32 + 8 * i ≤ q.2 ∧ q.2 < 32 + 8 * i + P)) : Wk w w' := by
  refine ⟨fun k j hk => ⟨h.old hk, h.2 k j hk⟩, fun k j hk => ?_⟩
  rcases (h.1 k j).mp hk with x | x
  · exact Or.inl x
  · have := (hm _).mp x
    simp only [Prod.mk.injEq] at this
    exact Or.inr (by omega)
theorem KW.add {w w' : Wl} {m : List (Nat × Nat)} {n P : Nat} (h : KW w n) (hw : Wad w w' m) (hP : P ≤ 8) (hm : ∀ q, q ∈ m ↔ q = (5, n) ∨ q = (6, n) ∨ ((q.1 = 3 ∨ q.1 = 4) ∧ 32 + 8 * n ≤ q.2 ∧ q.2 < 32 + 8 * n + P)) : KW w' (n + 1) := by
  have hno : ∀ k i, (k, i) ∈ m → (k = 5 ∧ i = n) ∨ (k = 6 ∧ i = n) ∨ ((k = 3 ∨ k = 4) ∧ 32 + 8 * n ≤ i ∧ i < 32 + 8 * n + P) := fun k i x => by
    have := (hm _).mp x
    simpa only [Prod.mk.injEq] using this
  refine ⟨fun q hq => ?_, fun i hi => ?_⟩
  · rcases (hw.1 12 q).mp hq with x | x
    · exact h.1 q x
    · have := hno _ _ x
      omega
  · obtain ⟨a1, a2, a3, a4, a5⟩ := h.2 i (by omega)
    refine ⟨hw.fr a1 (fun x => ?_), hw.fr a2 (fun x => ?_), hw.fr a3 (fun x => ?_), hw.fr a4 (fun x => ?_), fun j hj => ⟨hw.fr (a5 j hj).1 (fun x => ?_), hw.fr (a5 j hj).2.1 (fun x => ?_), hw.fr (a5 j hj).2.2 (fun x => ?_)⟩⟩
    all_goals (have := hno _ _ x; omega)
theorem fit_1024 {v : Nat} (h : fitN v) : v < 2 ^ 1024 := Nat.lt_of_lt_of_le (blen_lt v) (Nat.pow_le_pow_right (by omega) (by have := h.2; unfold nby at this; omega))

set_option maxHeartbeats 1000000 in
set_option maxRecDepth 100000 in
theorem c_X6_key (l : Launch) (hst : l.stackTraces = false) (w : Wl) (σ : St) (hk0 : w.2 0 0) (A : Ab) (hS : HS σ A) (hKW : KW w A.2.1) (p0 : Int) (hp0 : rI p0) (p1 : Int) (hp1 : rI p1) (p2 : Int) (hp2 : rI p2) : Cy l yX6_key cX6_key 8 (Option.some Jvm.ClassFile.FieldType.int) 7 158 21 684 wI [.ref (w.1 0 0), .int (iI (p0)), .int (iI (p1)), .int (iI (p2))] w σ (fun a w' σ' => ∃ A', f_key A p0 p1 p2 (0, a, A') ∧ HS σ' A' ∧ FM1 σ σ' ∧ Wk w w' ∧ KW w' A'.2.1) (fun E => (E = eI ∧ f_key A p0 p1 p2 (1, 0, A)) ∨ (E = eA ∧ f_key A p0 p1 p2 (2, 0, A))) := by
  refine Cy.of (own := RX6) (lv := [(0, .ref (w.1 0 0)), (1, .int (iI (p0))), (2, .int (iI (p1))), (3, .int (iI (p2)))]) (by decide +kernel) rfl (Nat.le_of_ble_eq_true rfl) rfl (fun X hX hxl hR hcl hret hx => ?_)
  subst hxl
  have hH : ∀ c q, (c, q) ∈ mn σ 0 0 → w.2 c q := fun c q h => hcl 0 0 hk0 (c, q) h
  have hp0a := hp0.1
  have hp0b := hp0.2
  have hp1a := hp1.1
  have hp1b := hp1.2
  have hp2a := hp2.1
  have hp2b := hp2.2
  have hA := hS.2.1
  have hD := hS.2.2.1
  have hk16 := hS.2.2.2.2.1
  refine v_aload_n hX 0 rfl (atL dAX6_key_0 0 rfl) ?_
  refine v_iload_n hX 1 rfl (atL dAX6_key_0 1 rfl) ?_
  refine v_callVX hX (As := [.int (iI (p0))]) (rest := []) (c_X6_slotAt (xl X) hst w σ hk0 p0 hp0) lk_X6_92 hk0 (fun _ => rfl) rfl rfl rfl (by rw [hR]; exact ⟨Nat.le_of_ble_eq_true rfl, Nat.le_of_ble_eq_true rfl⟩) (by rw [hR]; exact ⟨Nat.le_of_ble_eq_true rfl, Nat.le_of_ble_eq_true rfl⟩) rfl (Nat.le_of_ble_eq_true rfl) (atL dAX6_key_0 2 rfl) (fun E hE => hx E (Or.inl ⟨hE.1, Or.inl ⟨fun q => hE.2 (by omega), rfl⟩⟩) _ (Nat.le_of_ble_eq_true rfl) (Nat.le_of_ble_eq_true rfl)) (fun r1 z1 g1 => ?_)
  obtain ⟨sp0, hsp0, hsp02, ga1, gb1⟩ := g1
  rw [gb1]
  subst ga1
  have hrsp0 := hS.1 sp0 (by omega)
  obtain ⟨lsp0, hlsp0⟩ : ∃ q, (A.1 sp0).length = q := ⟨_, rfl⟩
  have hqsp0 : lsp0 ≤ 256 := by rw [← hlsp0]; exact hS.sl hsp02
  have hvsp0 : w.2 1 sp0 := hcl 11 0 (hH 11 0 (by simp [mn, tp])) (1, sp0) (by simp [mn]; omega)
  have htsp0 : p0.toNat = sp0 := by omega
  show V X _ w _ _ σ [.ref (w.1 1 sp0)]
  refine v_astore hX (lv' := [(4, .ref (w.1 1 sp0)), (0, .ref (w.1 0 0)), (1, .int (iI (p0))), (2, .int (iI (p1))), (3, .int (iI (p2)))]) (Nat.le_of_ble_eq_true rfl) rfl (atL dAX6_key_0 3 rfl) ?_
  refine v_aload_n hX 1 rfl (atL dAX6_key_0 4 rfl) ?_
  refine v_iload_n hX 3 rfl (atL dAX6_key_0 5 rfl) ?_
  refine v_callVX hX (As := [.int (iI (p1))]) (rest := []) (c_X6_slotAt (xl X) hst w σ hk0 p1 hp1) lk_X6_92 hk0 (fun _ => rfl) rfl rfl rfl (by rw [hR]; exact ⟨Nat.le_of_ble_eq_true rfl, Nat.le_of_ble_eq_true rfl⟩) (by rw [hR]; exact ⟨Nat.le_of_ble_eq_true rfl, Nat.le_of_ble_eq_true rfl⟩) rfl (Nat.le_of_ble_eq_true rfl) (atL dAX6_key_0 6 rfl) (fun E hE => hx E (Or.inl ⟨hE.1, Or.inl ⟨fun q => hE.2 (by omega), rfl⟩⟩) _ (Nat.le_of_ble_eq_true rfl) (Nat.le_of_ble_eq_true rfl)) (fun r2 z2 g2 => ?_)
  obtain ⟨sp1, hsp1, hsp12, ga2, gb2⟩ := g2
  rw [gb2]
  subst ga2
  have hrsp1 := hS.1 sp1 (by omega)
  obtain ⟨lsp1, hlsp1⟩ : ∃ q, (A.1 sp1).length = q := ⟨_, rfl⟩
  have hqsp1 : lsp1 ≤ 256 := by rw [← hlsp1]; exact hS.sl hsp12
  have hvsp1 : w.2 1 sp1 := hcl 11 0 (hH 11 0 (by simp [mn, tp])) (1, sp1) (by simp [mn]; omega)
  have htsp1 : p1.toNat = sp1 := by omega
  show V X _ w _ _ σ [.ref (w.1 1 sp1)]
  refine v_astore hX (lv' := [(5, .ref (w.1 1 sp1)), (4, .ref (w.1 1 sp0)), (0, .ref (w.1 0 0)), (1, .int (iI (p0))), (2, .int (iI (p1))), (3, .int (iI (p2)))]) (Nat.le_of_ble_eq_true rfl) rfl (atL dAX6_key_0 7 rfl) ?_
  refine v_aload_n hX 2 rfl (atL dAX6_key_0 8 rfl) ?_
  refine v_iload_n hX 5 rfl (atL dAX6_key_0 9 rfl) ?_
  refine v_callVX hX (As := [.int (iI (p2))]) (rest := []) (c_X6_slotAt (xl X) hst w σ hk0 p2 hp2) lk_X6_92 hk0 (fun _ => rfl) rfl rfl rfl (by rw [hR]; exact ⟨Nat.le_of_ble_eq_true rfl, Nat.le_of_ble_eq_true rfl⟩) (by rw [hR]; exact ⟨Nat.le_of_ble_eq_true rfl, Nat.le_of_ble_eq_true rfl⟩) rfl (Nat.le_of_ble_eq_true rfl) (atL dAX6_key_0 10 rfl) (fun E hE => hx E (Or.inl ⟨hE.1, Or.inl ⟨fun q => hE.2 (by omega), rfl⟩⟩) _ (Nat.le_of_ble_eq_true rfl) (Nat.le_of_ble_eq_true rfl)) (fun r3 z3 g3 => ?_)
  obtain ⟨sp2, hsp2, hsp22, ga3, gb3⟩ := g3
  rw [gb3]
  subst ga3
  have hrsp2 := hS.1 sp2 (by omega)
  obtain ⟨lsp2, hlsp2⟩ : ∃ q, (A.1 sp2).length = q := ⟨_, rfl⟩
  have hqsp2 : lsp2 ≤ 256 := by rw [← hlsp2]; exact hS.sl hsp22
  have hvsp2 : w.2 1 sp2 := hcl 11 0 (hH 11 0 (by simp [mn, tp])) (1, sp2) (by simp [mn]; omega)
  have htsp2 : p2.toNat = sp2 := by omega
  show V X _ w _ _ σ [.ref (w.1 1 sp2)]
  refine v_astore hX (lv' := [(6, .ref (w.1 1 sp2)), (5, .ref (w.1 1 sp1)), (4, .ref (w.1 1 sp0)), (0, .ref (w.1 0 0)), (1, .int (iI (p0))), (2, .int (iI (p1))), (3, .int (iI (p2)))]) (Nat.le_of_ble_eq_true rfl) rfl (atL dAX6_key_0 11 rfl) ?_
  refine v_aload_n hX 3 rfl (atL dAX6_key_0 12 rfl) ?_
  refine gf_X6_64 hX hk0 (atL dAX6_key_0 13 rfl) ?_
  refine v_aload hX 2 rfl (atL dAX6_key_0 14 rfl) ?_
  refine v_callV hX (As := [.ref (w.1 1 sp0)]) (rest := []) (c_X5_read (xl X) w σ 0 (hH 3 0 (by simp [mn, tp])) (hD 0) sp0 hvsp0 (hA sp0) (by rw [hrsp0.2, hlsp0]; omega)) lk_X6_132 (hH 3 0 (by simp [mn, tp])) (fun _ => rfl) rfl rfl rfl (by rw [hR]; exact ⟨Nat.le_of_ble_eq_true rfl, Nat.le_of_ble_eq_true rfl⟩) (by rw [hR]; exact ⟨Nat.le_of_ble_eq_true rfl, Nat.le_of_ble_eq_true rfl⟩) rfl (Nat.le_of_ble_eq_true rfl) (atL dAX6_key_0 15 rfl) (fun _ s4 e4 => ?_)
  obtain ⟨hw4, hf4⟩ := e4
  rw [hrsp0.2] at hw4
  have hb4 := rv_b hrsp0.by (by rw [hlsp0]; omega)
  have hA4 := hA.fr hf4 (by simp)
  have hD4 := hD.one hf4 hw4
  have hr4_sp0 := hrsp0.fr hf4 (by simp <;> omega) (by simp <;> omega)
  have hr4_sp1 := hrsp1.fr hf4 (by simp <;> omega) (by simp <;> omega)
  have hr4_sp2 := hrsp2.fr hf4 (by simp <;> omega) (by simp <;> omega)
  have hc4_400 := hf4 4 0 (by simp <;> omega)
  have hF4 := (FH.rf : FH 99 σ σ).tr hf4 (by simp [Hk] <;> omega)
  show V X _ w _ _ s4 []
  refine v_aload_n hX 3 rfl (atL dAX6_key_0 16 rfl) ?_
  refine gf_X6_68 hX hk0 (atL dAX6_key_0 17 rfl) ?_
  refine v_aload hX 1 rfl (atL dAX6_key_0 18 rfl) ?_
  refine v_callV hX (As := [.ref (w.1 1 sp1)]) (rest := []) (c_X5_read (xl X) w s4 1 (hH 3 1 (by simp [mn, tp])) (hD4 1) sp1 hvsp1 (hA4 sp1) (by rw [hr4_sp1.2, hlsp1]; omega)) lk_X6_132 (hH 3 1 (by simp [mn, tp])) (fun _ => rfl) rfl rfl rfl (by rw [hR]; exact ⟨Nat.le_of_ble_eq_true rfl, Nat.le_of_ble_eq_true rfl⟩) (by rw [hR]; exact ⟨Nat.le_of_ble_eq_true rfl, Nat.le_of_ble_eq_true rfl⟩) rfl (Nat.le_of_ble_eq_true rfl) (atL dAX6_key_0 19 rfl) (fun _ s5 e5 => ?_)
  obtain ⟨hw5, hf5⟩ := e5
  rw [hr4_sp1.2] at hw5
  have hb5 := rv_b hr4_sp1.by (by rw [hlsp1]; omega)
  have hA5 := hA4.fr hf5 (by simp)
  have hD5 := hD4.one hf5 hw5
  have hr5_sp0 := hr4_sp0.fr hf5 (by simp <;> omega) (by simp <;> omega)
  have hr5_sp1 := hr4_sp1.fr hf5 (by simp <;> omega) (by simp <;> omega)
  have hr5_sp2 := hr4_sp2.fr hf5 (by simp <;> omega) (by simp <;> omega)
  have hw5_0 := nm.fr hw4 hf5 (by simp <;> omega) (by simp <;> omega)
  have hc5_400 := hf5 4 0 (by simp <;> omega)
  have hF5 := hF4.tr hf5 (by simp [Hk] <;> omega)
  show V X _ w _ _ s5 []
  refine v_aload_n hX 3 rfl (atL dAX6_key_0 20 rfl) ?_
  refine gf_X6_71 hX hk0 (atL dAX6_key_0 21 rfl) ?_
  refine v_aload hX 0 rfl (atL dAX6_key_0 22 rfl) ?_
  refine v_callV hX (As := [.ref (w.1 1 sp2)]) (rest := []) (c_X5_read (xl X) w s5 2 (hH 3 2 (by simp [mn, tp])) (hD5 2) sp2 hvsp2 (hA5 sp2) (by rw [hr5_sp2.2, hlsp2]; omega)) lk_X6_132 (hH 3 2 (by simp [mn, tp])) (fun _ => rfl) rfl rfl rfl (by rw [hR]; exact ⟨Nat.le_of_ble_eq_true rfl, Nat.le_of_ble_eq_true rfl⟩) (by rw [hR]; exact ⟨Nat.le_of_ble_eq_true rfl, Nat.le_of_ble_eq_true rfl⟩) rfl (Nat.le_of_ble_eq_true rfl) (atL dAX6_key_0 23 rfl) (fun _ s6 e6 => ?_)
  obtain ⟨hw6, hf6⟩ := e6
  rw [hr5_sp2.2] at hw6
  have hb6 := rv_b hr5_sp2.by (by rw [hlsp2]; omega)
  have hA6 := hA5.fr hf6 (by simp)
  have hD6 := hD5.one hf6 hw6
  have hr6_sp0 := hr5_sp0.fr hf6 (by simp <;> omega) (by simp <;> omega)
  have hr6_sp1 := hr5_sp1.fr hf6 (by simp <;> omega) (by simp <;> omega)
  have hr6_sp2 := hr5_sp2.fr hf6 (by simp <;> omega) (by simp <;> omega)
  have hw6_0 := nm.fr hw5_0 hf6 (by simp <;> omega) (by simp <;> omega)
  have hw6_1 := nm.fr hw5 hf6 (by simp <;> omega) (by simp <;> omega)
  have hc6_400 := hf6 4 0 (by simp <;> omega)
  have hF6 := hF5.tr hf6 (by simp [Hk] <;> omega)
  show V X _ w _ _ s6 []
  refine v_aload_n hX 3 rfl (atL dAX6_key_0 24 rfl) ?_
  refine v_callV hX (As := []) (rest := []) (c_X6_refusalOfPrimes (xl X) w s6 hk0 hA6 hD6 (rv (A.1 sp0)) hw6_0 hb4 (rv (A.1 sp1)) hw6_1 hb5) lk_X6_176 hk0 (fun _ => rfl) rfl rfl rfl (by rw [hR]; exact ⟨Nat.le_of_ble_eq_true rfl, Nat.le_of_ble_eq_true rfl⟩) (by rw [hR]; exact ⟨Nat.le_of_ble_eq_true rfl, Nat.le_of_ble_eq_true rfl⟩) rfl (Nat.le_of_ble_eq_true rfl) (atL dAX6_key_0 25 rfl) (fun r7 s7 e7 => ?_)
  obtain ⟨gc7, gw7, hAp7, hDp7, hf7⟩ := e7
  have gd7 : r7 = -1 ∨ r7 = -2 ∨ r7 = -3 ∨ r7 = 0 := by rcases gc7 with x | x | x | x <;> omega
  have hA7 := hAp7
  have hD7 := hDp7
  have hr7_sp0 := hr6_sp0.fr hf7 (by simp <;> omega) (by simp <;> omega)
  have hr7_sp1 := hr6_sp1.fr hf7 (by simp <;> omega) (by simp <;> omega)
  have hr7_sp2 := hr6_sp2.fr hf7 (by simp <;> omega) (by simp <;> omega)
  have hw7_0 := nm.fr hw6_0 hf7 (by simp <;> omega) (by simp <;> omega)
  have hw7_1 := nm.fr hw6_1 hf7 (by simp <;> omega) (by simp <;> omega)
  have hw7_2 := nm.fr hw6 hf7 (by simp <;> omega) (by simp <;> omega)
  have hc7_400 := hf7 4 0 (by simp <;> omega)
  have hF7 := hF6.tr hf7 (by simp [Hk] <;> omega)
  show V X _ w _ _ s7 [.int (iI (r7))]
  refine v_istore hX (lv' := [(7, .int (iI (r7))), (6, .ref (w.1 1 sp2)), (5, .ref (w.1 1 sp1)), (4, .ref (w.1 1 sp0)), (0, .ref (w.1 0 0)), (1, .int (iI (p0))), (2, .int (iI (p1))), (3, .int (iI (p2)))]) (Nat.le_of_ble_eq_true rfl) rfl (atL dAX6_key_0 26 rfl) ?_
  refine v_iload hX 0 rfl (atL dAX6_key_0 27 rfl) ?_
  refine v_if_ne hX ⟨by omega, by omega⟩ (tgt := 65) (atL dAX6_key_0 28 rfl) (by decide) (fun h56 => ?_) (fun h56 => ?_)
  · refine v_iload hX 0 rfl (atL dAX6_key_0 32 rfl) ?_
    refine v_if_eq hX ⟨by omega, by omega⟩ (tgt := 73) (atL dAX6_key_0 33 rfl) (by decide) (fun h67 => absurd h67 h56) (fun h67 => ?_)
    refine v_iload hX 0 rfl (atL dAX6_key_0 34 rfl) ?_
    exact v_iret hX (atL dAX6_key_0 35 rfl) (hret _ _ _ ⟨A, (by unfold f_key; rw [htsp0, htsp1, htsp2]; exact Or.inr ⟨⟨by omega, by omega, by omega⟩, Or.inl ⟨_, gc7, h56, rfl⟩⟩), hS.keep hF7 hA7 hD7, hF7.fm.one, Wk.rf, hKW⟩ _ (Nat.le_of_ble_eq_true rfl) (Nat.le_of_ble_eq_true rfl))
  · have gR : fitN (rv (A.1 sp0) * rv (A.1 sp1)) ∧ PQ (rv (A.1 sp0)) (rv (A.1 sp1)) ∧ Nat.gcd (rv (A.1 sp0)) (rv (A.1 sp1)) = 1 := by
      rcases gc7 with x | x | x | x
      · exact absurd x.1 (by omega)
      · exact absurd x.1 (by omega)
      · exact absurd x.1 (by omega)
      · exact x.2
    have gc0 : RP (rv (A.1 sp0)) (rv (A.1 sp1)) 0 := Or.inr (Or.inr (Or.inr ⟨rfl, gR⟩))
    have hp3 := pb_3 gR.2.1.2.2.1.2 gR.2.1.1
    have hq3 := pb_3 gR.2.1.2.2.2.2 gR.2.1.2.1
    have hw56 := gw7 h56
    refine v_aload_n hX 4 rfl (atL dAX6_key_0 29 rfl) ?_
    refine v_callV hX (As := []) (rest := []) (c_X6_refusalOfExponent (xl X) w s7 hk0 hA7 hD7 (rv (A.1 sp0)) hw7_0 hb4 (by omega) (rv (A.1 sp1)) hw7_1 hb5 (by omega) (rv (A.1 sp2)) hw7_2 hb6 (rv (A.1 sp0) * rv (A.1 sp1)) hw56) lk_X6_179 hk0 (fun _ => rfl) rfl rfl rfl (by rw [hR]; exact ⟨Nat.le_of_ble_eq_true rfl, Nat.le_of_ble_eq_true rfl⟩) (by rw [hR]; exact ⟨Nat.le_of_ble_eq_true rfl, Nat.le_of_ble_eq_true rfl⟩) rfl (Nat.le_of_ble_eq_true rfl) (atL dAX6_key_0 30 rfl) (fun r8 s8 e8 => ?_)
    obtain ⟨gc8, gw8, hAp8, hDp8, hf8⟩ := e8
    have gd8 : r8 = -4 ∨ r8 = -5 ∨ r8 = 0 := by rcases gc8 with x | x | x <;> omega
    have hA8 := hAp8
    have hD8 := hDp8
    have hr8_sp0 := hr7_sp0.fr hf8 (by simp <;> omega) (by simp <;> omega)
    have hr8_sp1 := hr7_sp1.fr hf8 (by simp <;> omega) (by simp <;> omega)
    have hr8_sp2 := hr7_sp2.fr hf8 (by simp <;> omega) (by simp <;> omega)
    have hw8_0 := nm.fr hw7_0 hf8 (by simp <;> omega) (by simp <;> omega)
    have hw8_1 := nm.fr hw7_1 hf8 (by simp <;> omega) (by simp <;> omega)
    have hw8_2 := nm.fr hw7_2 hf8 (by simp <;> omega) (by simp <;> omega)
    have hw8_3 := nm.fr hw56 hf8 (by simp <;> omega) (by simp <;> omega)
    have hc8_400 := hf8 4 0 (by simp <;> omega)
    have hF8 := hF7.tr hf8 (by simp [Hk] <;> omega)
    show V X _ w _ _ s8 [.int (iI (r8))]
    refine v_istore hX (lv' := [(7, .int (iI (r8))), (6, .ref (w.1 1 sp2)), (5, .ref (w.1 1 sp1)), (4, .ref (w.1 1 sp0)), (0, .ref (w.1 0 0)), (1, .int (iI (p0))), (2, .int (iI (p1))), (3, .int (iI (p2)))]) (Nat.le_of_ble_eq_true rfl) rfl (atL dAX6_key_0 31 rfl) ?_
    refine v_iload hX 0 rfl (atL dAX6_key_0 32 rfl) ?_
    refine v_if_eq hX ⟨by omega, by omega⟩ (tgt := 73) (atL dAX6_key_0 33 rfl) (by decide) (fun h67 => ?_) (fun h67 => ?_)
    · have gE : XE (rv (A.1 sp2)) (rv (A.1 sp0) * rv (A.1 sp1)) ∧ Nat.gcd (rv (A.1 sp2)) (rv (A.1 sp0) - 1) = 1 ∧ Nat.gcd (rv (A.1 sp2)) (rv (A.1 sp1) - 1) = 1 := by
        rcases gc8 with x | x | x
        · exact absurd x.1 (by omega)
        · exact absurd x.1 (by omega)
        · exact x.2
      have gE0 : RE (rv (A.1 sp2)) (rv (A.1 sp0) * rv (A.1 sp1)) (rv (A.1 sp0)) (rv (A.1 sp1)) 0 := Or.inr (Or.inr ⟨rfl, gE⟩)
      have hw67 := gw8 h67
      refine v_aload_n hX 4 rfl (atL dAX6_key_0 36 rfl) ?_
      refine gf_X6_28 hX (v := (A.2.1 : Int)) (((congrFun hc8_400 0).trans ((congrFun hc7_400 0).trans ((congrFun hc6_400 0).trans ((congrFun hc5_400 0).trans ((congrFun hc4_400 0).trans hS.2.2.2.1)))))) hk0 (atL dAX6_key_0 37 rfl) ?_
      refine v_bipush hX (by decide +kernel) (atL dAX6_key_0 38 rfl) ?_
      refine v_icmp_ge hX ⟨by omega, by omega⟩ ⟨by omega, by omega⟩ (tgt := 93) (atL dAX6_key_0 39 rfl) (by decide) (fun h79 => ?_) (fun h79 => ?_)
      · refine v_bipush hX (by decide +kernel) (atL dAX6_key_0 45 rfl) ?_
        exact v_iret hX (atL dAX6_key_0 46 rfl) (hret _ _ _ ⟨A, (by unfold f_key; rw [htsp0, htsp1, htsp2]; exact Or.inr ⟨⟨by omega, by omega, by omega⟩, Or.inr ⟨gc0, Or.inr ⟨gE0, Or.inl ⟨by omega, rfl⟩⟩⟩⟩), hS.keep hF8 hA8 hD8, hF8.fm.one, Wk.rf, hKW⟩ _ (Nat.le_of_ble_eq_true rfl) (Nat.le_of_ble_eq_true rfl))
      · have hlt : A.2.1 < 16 := by omega
        have hN := hKW.2 A.2.1 (Nat.le_refl _)
        refine v_aload_n hX 4 rfl (atL dAX6_key_0 40 rfl) ?_
        refine v_aload_n hX 4 rfl (atL dAX6_key_0 41 rfl) ?_
        refine v_callVG hX (As := []) (rest := [.ref (w.1 0 0)]) (c_X6_wholeKey (xl X) w s8 hk0 A.2.1 hN.2.2.1 hN.1 hN.2.1 hN.2.2.2.1 hN.2.2.2.2 (rv (A.1 sp0)) (rv (A.1 sp1)) (rv (A.1 sp2)) hw8_0 hw8_1 hw8_2 hw8_3 hw67.1 hw67.2 (fit_1024 gR.1) hp3 hq3 gE.1.2.2 gR.2.2 gE.2.1 gE.2.2 hA8 hD8) lk_X6_182 hk0 (fun _ => rfl) rfl rfl rfl (by rw [hR]; exact ⟨Nat.le_of_ble_eq_true rfl, Nat.le_of_ble_eq_true rfl⟩) (by rw [hR]; exact ⟨Nat.le_of_ble_eq_true rfl, Nat.le_of_ble_eq_true rfl⟩) rfl (Nat.le_of_ble_eq_true rfl) (atL dAX6_key_0 42 rfl) (fun xq w1 s1q hpq => ?_)
        obtain ⟨⟨m, hw1, hmm⟩, hxq, hKYq, hA1q, hD1q, hFq⟩ := hpq
        subst hxq
        have hFK : FK A.2.1 σ s1q := (FH.fk hF8).tr hFq
        show V X _ w1 _ _ s1q [.ref (w1.1 5 A.2.1), .ref (w.1 0 0)]
        have e00 : w1.1 0 0 = w.1 0 0 := hw1.2 0 0 hk0
        rw [← e00]
        have hs4 : s1q 4 0 0 = (A.2.1 : Int) := (congrFun (hFK 4 0 (Or.inr (Or.inr (Or.inl ⟨by omega, by omega⟩))) (by decide) (fun q => by omega) (fun q => by omega)) 0).trans hS.2.2.2.1
        have hKW1 := hKW.add hw1 (P := 8) (by decide) hmm
        refine v_callV hX (As := [.ref (w1.1 5 A.2.1)]) (rest := []) (c_X6_keep (xl X) w1 s1q (hw1.old hk0) hKW1.1 A.2.1 hlt hs4 (hw1.new ((hmm _).mpr (Or.inl rfl)))) lk_X6_186 (hw1.old hk0) (fun _ => rfl) rfl rfl rfl (by rw [hR]; exact ⟨Nat.le_of_ble_eq_true rfl, Nat.le_of_ble_eq_true rfl⟩) (by rw [hR]; exact ⟨Nat.le_of_ble_eq_true rfl, Nat.le_of_ble_eq_true rfl⟩) rfl (Nat.le_of_ble_eq_true rfl) (atL dAX6_key_0 43 rfl) (fun yq s2q hq2 => ?_)
        obtain ⟨hy, hs2⟩ := hq2
        subst hy
        show V X _ w1 _ _ s2q [.int (iI (A.2.1 : Int))]
        refine v_goto hX (tgt := 95) (atL dAX6_key_0 44 rfl) (by decide) ?_
        exact v_iret hX (atL dAX6_key_0 46 rfl) (hret _ _ _ ⟨_, (by unfold f_key; rw [htsp0, htsp1, htsp2]; exact Or.inr ⟨⟨by omega, by omega, by omega⟩, Or.inr ⟨gc0, Or.inr ⟨gE0, Or.inr ⟨hlt, rfl⟩⟩⟩⟩), hS.add hlt hFK hA1q hD1q hKYq hs2, hFK.fm1.kp hs2, hw1.wk hmm, hKW1⟩ _ (Nat.le_of_ble_eq_true rfl) (Nat.le_of_ble_eq_true rfl))
    · refine v_iload hX 0 rfl (atL dAX6_key_0 34 rfl) ?_
      exact v_iret hX (atL dAX6_key_0 35 rfl) (hret _ _ _ ⟨A, (by unfold f_key; rw [htsp0, htsp1, htsp2]; exact Or.inr ⟨⟨by omega, by omega, by omega⟩, Or.inr ⟨gc0, Or.inl ⟨_, gc8, h67, rfl⟩⟩⟩), hS.keep hF8 hA8 hD8, hF8.fm.one, Wk.rf, hKW⟩ _ (Nat.le_of_ble_eq_true rfl) (Nat.le_of_ble_eq_true rfl))

set_option maxHeartbeats 1000000 in
set_option maxRecDepth 100000 in
theorem c_X6_open (l : Launch) (hst : l.stackTraces = false) (w : Wl) (σ : St) (hk0 : w.2 0 0) (A : Ab) (hS : HS σ A) (hKW : KW w A.2.1) (p0 : Int) (hp0 : rI p0) (p1 : Int) (hp1 : rI p1) : Cy l yX6_open cX6_open 5 (Option.some Jvm.ClassFile.FieldType.int) 7 103 20 678 wI [.ref (w.1 0 0), .int (iI (p0)), .int (iI (p1))] w σ (fun a w' σ' => ∃ A', f_open A p0 p1 (0, a, A') ∧ HS σ' A' ∧ FM1 σ σ' ∧ Wk w w' ∧ KW w' A'.2.1) (fun E => (E = eI ∧ f_open A p0 p1 (1, 0, A)) ∨ (E = eA ∧ f_open A p0 p1 (2, 0, A))) := by
  refine Cy.of (own := RX6) (lv := [(0, .ref (w.1 0 0)), (1, .int (iI (p0))), (2, .int (iI (p1)))]) (by decide +kernel) rfl (Nat.le_of_ble_eq_true rfl) rfl (fun X hX hxl hR hcl hret hx => ?_)
  subst hxl
  have hH : ∀ c q, (c, q) ∈ mn σ 0 0 → w.2 c q := fun c q h => hcl 0 0 hk0 (c, q) h
  have hp0a := hp0.1
  have hp0b := hp0.2
  have hp1a := hp1.1
  have hp1b := hp1.2
  have hA := hS.2.1
  have hD := hS.2.2.1
  have hk16 := hS.2.2.2.2.1
  refine v_aload_n hX 0 rfl (atL dAX6_open_0 0 rfl) ?_
  refine v_iload_n hX 1 rfl (atL dAX6_open_0 1 rfl) ?_
  refine v_callVX hX (As := [.int (iI (p0))]) (rest := []) (c_X6_slotAt (xl X) hst w σ hk0 p0 hp0) lk_X6_92 hk0 (fun _ => rfl) rfl rfl rfl (by rw [hR]; exact ⟨Nat.le_of_ble_eq_true rfl, Nat.le_of_ble_eq_true rfl⟩) (by rw [hR]; exact ⟨Nat.le_of_ble_eq_true rfl, Nat.le_of_ble_eq_true rfl⟩) rfl (Nat.le_of_ble_eq_true rfl) (atL dAX6_open_0 2 rfl) (fun E hE => hx E (Or.inl ⟨hE.1, Or.inl ⟨fun q => hE.2 (by omega), rfl⟩⟩) _ (Nat.le_of_ble_eq_true rfl) (Nat.le_of_ble_eq_true rfl)) (fun r1 z1 g1 => ?_)
  obtain ⟨sp0, hsp0, hsp02, ga1, gb1⟩ := g1
  rw [gb1]
  subst ga1
  have hrsp0 := hS.1 sp0 (by omega)
  obtain ⟨lsp0, hlsp0⟩ : ∃ q, (A.1 sp0).length = q := ⟨_, rfl⟩
  have hqsp0 : lsp0 ≤ 256 := by rw [← hlsp0]; exact hS.sl hsp02
  have hvsp0 : w.2 1 sp0 := hcl 11 0 (hH 11 0 (by simp [mn, tp])) (1, sp0) (by simp [mn]; omega)
  have htsp0 : p0.toNat = sp0 := by omega
  show V X _ w _ _ σ [.ref (w.1 1 sp0)]
  refine v_astore_n hX (i := 3) rfl (lv' := [(3, .ref (w.1 1 sp0)), (0, .ref (w.1 0 0)), (1, .int (iI (p0))), (2, .int (iI (p1)))]) (Nat.le_of_ble_eq_true rfl) rfl (atL dAX6_open_0 3 rfl) ?_
  refine v_aload_n hX 1 rfl (atL dAX6_open_0 4 rfl) ?_
  refine v_iload_n hX 3 rfl (atL dAX6_open_0 5 rfl) ?_
  refine v_callVX hX (As := [.int (iI (p1))]) (rest := []) (c_X6_slotAt (xl X) hst w σ hk0 p1 hp1) lk_X6_92 hk0 (fun _ => rfl) rfl rfl rfl (by rw [hR]; exact ⟨Nat.le_of_ble_eq_true rfl, Nat.le_of_ble_eq_true rfl⟩) (by rw [hR]; exact ⟨Nat.le_of_ble_eq_true rfl, Nat.le_of_ble_eq_true rfl⟩) rfl (Nat.le_of_ble_eq_true rfl) (atL dAX6_open_0 6 rfl) (fun E hE => hx E (Or.inl ⟨hE.1, Or.inl ⟨fun q => hE.2 (by omega), rfl⟩⟩) _ (Nat.le_of_ble_eq_true rfl) (Nat.le_of_ble_eq_true rfl)) (fun r2 z2 g2 => ?_)
  obtain ⟨sp1, hsp1, hsp12, ga2, gb2⟩ := g2
  rw [gb2]
  subst ga2
  have hrsp1 := hS.1 sp1 (by omega)
  obtain ⟨lsp1, hlsp1⟩ : ∃ q, (A.1 sp1).length = q := ⟨_, rfl⟩
  have hqsp1 : lsp1 ≤ 256 := by rw [← hlsp1]; exact hS.sl hsp12
  have hvsp1 : w.2 1 sp1 := hcl 11 0 (hH 11 0 (by simp [mn, tp])) (1, sp1) (by simp [mn]; omega)
  have htsp1 : p1.toNat = sp1 := by omega
  show V X _ w _ _ σ [.ref (w.1 1 sp1)]
  refine v_astore hX (lv' := [(4, .ref (w.1 1 sp1)), (3, .ref (w.1 1 sp0)), (0, .ref (w.1 0 0)), (1, .int (iI (p0))), (2, .int (iI (p1)))]) (Nat.le_of_ble_eq_true rfl) rfl (atL dAX6_open_0 7 rfl) ?_
  refine v_aload_n hX 2 rfl (atL dAX6_open_0 8 rfl) ?_
  refine gf_X6_74 hX hk0 (atL dAX6_open_0 9 rfl) ?_
  refine v_aload_n hX 1 rfl (atL dAX6_open_0 10 rfl) ?_
  refine v_callV hX (As := [.ref (w.1 1 sp0)]) (rest := []) (c_X5_read (xl X) w σ 3 (hH 3 3 (by simp [mn, tp])) (hD 3) sp0 hvsp0 (hA sp0) (by rw [hrsp0.2, hlsp0]; omega)) lk_X6_132 (hH 3 3 (by simp [mn, tp])) (fun _ => rfl) rfl rfl rfl (by rw [hR]; exact ⟨Nat.le_of_ble_eq_true rfl, Nat.le_of_ble_eq_true rfl⟩) (by rw [hR]; exact ⟨Nat.le_of_ble_eq_true rfl, Nat.le_of_ble_eq_true rfl⟩) rfl (Nat.le_of_ble_eq_true rfl) (atL dAX6_open_0 11 rfl) (fun _ s3 e3 => ?_)
  obtain ⟨hw3, hf3⟩ := e3
  rw [hrsp0.2] at hw3
  have hb3 := rv_b hrsp0.by (by rw [hlsp0]; omega)
  have hA3 := hA.fr hf3 (by simp)
  have hD3 := hD.one hf3 hw3
  have hr3_sp0 := hrsp0.fr hf3 (by simp <;> omega) (by simp <;> omega)
  have hr3_sp1 := hrsp1.fr hf3 (by simp <;> omega) (by simp <;> omega)
  have hc3_400 := hf3 4 0 (by simp <;> omega)
  have hF3 := (FH.rf : FH 99 σ σ).tr hf3 (by simp [Hk] <;> omega)
  show V X _ w _ _ s3 []
  refine v_aload_n hX 2 rfl (atL dAX6_open_0 12 rfl) ?_
  refine gf_X6_71 hX hk0 (atL dAX6_open_0 13 rfl) ?_
  refine v_aload hX 0 rfl (atL dAX6_open_0 14 rfl) ?_
  refine v_callV hX (As := [.ref (w.1 1 sp1)]) (rest := []) (c_X5_read (xl X) w s3 2 (hH 3 2 (by simp [mn, tp])) (hD3 2) sp1 hvsp1 (hA3 sp1) (by rw [hr3_sp1.2, hlsp1]; omega)) lk_X6_132 (hH 3 2 (by simp [mn, tp])) (fun _ => rfl) rfl rfl rfl (by rw [hR]; exact ⟨Nat.le_of_ble_eq_true rfl, Nat.le_of_ble_eq_true rfl⟩) (by rw [hR]; exact ⟨Nat.le_of_ble_eq_true rfl, Nat.le_of_ble_eq_true rfl⟩) rfl (Nat.le_of_ble_eq_true rfl) (atL dAX6_open_0 15 rfl) (fun _ s4 e4 => ?_)
  obtain ⟨hw4, hf4⟩ := e4
  rw [hr3_sp1.2] at hw4
  have hb4 := rv_b hr3_sp1.by (by rw [hlsp1]; omega)
  have hA4 := hA3.fr hf4 (by simp)
  have hD4 := hD3.one hf4 hw4
  have hr4_sp0 := hr3_sp0.fr hf4 (by simp <;> omega) (by simp <;> omega)
  have hr4_sp1 := hr3_sp1.fr hf4 (by simp <;> omega) (by simp <;> omega)
  have hw4_3 := nm.fr hw3 hf4 (by simp <;> omega) (by simp <;> omega)
  have hc4_400 := hf4 4 0 (by simp <;> omega)
  have hF4 := hF3.tr hf4 (by simp [Hk] <;> omega)
  show V X _ w _ _ s4 []
  refine v_aload_n hX 2 rfl (atL dAX6_open_0 16 rfl) ?_
  refine gf_X6_74 hX hk0 (atL dAX6_open_0 17 rfl) ?_
  refine v_callV hX (As := []) (rest := []) (c_X5_byteLength (xl X) w s4 3 (rv (A.1 sp0)) (hH 3 3 (by simp [mn, tp])) hw4_3) lk_X6_157 (hH 3 3 (by simp [mn, tp])) (fun _ => rfl) rfl rfl rfl (by rw [hR]; exact ⟨Nat.le_of_ble_eq_true rfl, Nat.le_of_ble_eq_true rfl⟩) (by rw [hR]; exact ⟨Nat.le_of_ble_eq_true rfl, Nat.le_of_ble_eq_true rfl⟩) rfl (Nat.le_of_ble_eq_true rfl) (atL dAX6_open_0 18 rfl) (fun r5 z5 g5 => ?_)
  obtain ⟨ga5, gb5⟩ := g5
  rw [gb5]
  subst ga5
  have hbl5 : blen (rv (A.1 sp0)) ≤ 2240 := blen_le (WN.le hw4_3)
  show V X _ w _ _ s4 [.int (iI ((((blen (rv (A.1 sp0)) + 7) / 8 : Nat) : Int)))]
  refine v_callS hX (As := [.int (iI ((((blen (rv (A.1 sp0)) + 7) / 8 : Nat) : Int)))]) (rest := []) (c_X6_isModulusLength (xl X) w s4 ((blen (rv (A.1 sp0)) + 7) / 8) (by omega)) lk_X6_190 rfl (by rw [hR]; exact ⟨Nat.le_of_ble_eq_true rfl, Nat.le_of_ble_eq_true rfl⟩) (by rw [hR]; exact ⟨Nat.le_of_ble_eq_true rfl, Nat.le_of_ble_eq_true rfl⟩) rfl (Nat.le_of_ble_eq_true rfl) (atL dAX6_open_0 19 rfl) (fun r6 z6 g6 => ?_)
  obtain ⟨gc6, gb6⟩ := g6
  rw [gb6]
  have gd6 : r6 = 0 ∨ r6 = 1 := by rcases gc6 with q | q <;> omega
  show V X _ w _ _ s4 [.int (iI (r6))]
  refine v_if_ne hX ⟨by omega, by omega⟩ (tgt := 45) (atL dAX6_open_0 20 rfl) (by decide) (fun h40 => ?_) (fun h40 => ?_)
  · have hfit : fitN (rv (A.1 sp0)) := gc6.t h40
    refine v_aload_n hX 2 rfl (atL dAX6_open_0 23 rfl) ?_
    refine gf_X6_71 hX hk0 (atL dAX6_open_0 24 rfl) ?_
    refine v_aload_n hX 2 rfl (atL dAX6_open_0 25 rfl) ?_
    refine gf_X6_74 hX hk0 (atL dAX6_open_0 26 rfl) ?_
    refine v_callS hX (As := [.ref (w.1 3 2), .ref (w.1 3 3)]) (rest := []) (c_X6_isExponent (xl X) w s4 hA4 hD4 2 (rv (A.1 sp1)) (hH 3 2 (by simp [mn, tp])) hw4 3 (rv (A.1 sp0)) (hH 3 3 (by simp [mn, tp])) hw4_3) lk_X6_193 rfl (by rw [hR]; exact ⟨Nat.le_of_ble_eq_true rfl, Nat.le_of_ble_eq_true rfl⟩) (by rw [hR]; exact ⟨Nat.le_of_ble_eq_true rfl, Nat.le_of_ble_eq_true rfl⟩) rfl (Nat.le_of_ble_eq_true rfl) (atL dAX6_open_0 27 rfl) (fun r7 z7 g7 => ?_)
    obtain ⟨gc7, gb7⟩ := g7
    rw [gb7]
    have gd7 : r7 = 0 ∨ r7 = 1 := by rcases gc7 with q | q <;> omega
    show V X _ w _ _ s4 [.int (iI (r7))]
    refine v_if_eq hX ⟨by omega, by omega⟩ (tgt := 69) (atL dAX6_open_0 28 rfl) (by decide) (fun h56 => ?_) (fun h56 => ?_)
    · refine v_bipush hX (by decide +kernel) (atL dAX6_open_0 33 rfl) ?_
      exact v_iret hX (atL dAX6_open_0 34 rfl) (hret _ _ _ ⟨A, (by unfold f_open; rw [htsp0, htsp1]; exact Or.inr ⟨⟨by omega, by omega⟩, Or.inr (Or.inl ⟨hfit, fun x => gc7.f h56 x.2, rfl⟩)⟩), hS.keep hF4 hA4 hD4, hF4.fm.one, Wk.rf, hKW⟩ _ (Nat.le_of_ble_eq_true rfl) (Nat.le_of_ble_eq_true rfl))
    · refine v_aload_n hX 2 rfl (atL dAX6_open_0 29 rfl) ?_
      refine gf_X6_74 hX hk0 (atL dAX6_open_0 30 rfl) ?_
      refine v_callV hX (As := []) (rest := []) (c_X5_isOdd (xl X) w s4 3 (rv (A.1 sp0)) (hH 3 3 (by simp [mn, tp])) hw4_3) lk_X6_197 (hH 3 3 (by simp [mn, tp])) (fun _ => rfl) rfl rfl rfl (by rw [hR]; exact ⟨Nat.le_of_ble_eq_true rfl, Nat.le_of_ble_eq_true rfl⟩) (by rw [hR]; exact ⟨Nat.le_of_ble_eq_true rfl, Nat.le_of_ble_eq_true rfl⟩) rfl (Nat.le_of_ble_eq_true rfl) (atL dAX6_open_0 31 rfl) (fun r8 z8 g8 => ?_)
      obtain ⟨ga8, gb8⟩ := g8
      rw [gb8]
      have gc8 : tf r8 ((rv (A.1 sp0)) % 2 = 1) := by rw [ga8]; split; exact tf_p (by assumption); exact tf_n (by assumption)
      have gd8 : r8 = 0 ∨ r8 = 1 := by rw [ga8]; split <;> simp
      show V X _ w _ _ s4 [.int (iI (r8))]
      refine v_if_ne hX ⟨by omega, by omega⟩ (tgt := 72) (atL dAX6_open_0 32 rfl) (by decide) (fun h66 => ?_) (fun h66 => ?_)
      · refine v_aload_n hX 2 rfl (atL dAX6_open_0 35 rfl) ?_
        refine gf_X6_28 hX (v := (A.2.1 : Int)) (((congrFun hc4_400 0).trans ((congrFun hc3_400 0).trans hS.2.2.2.1))) hk0 (atL dAX6_open_0 36 rfl) ?_
        refine v_bipush hX (by decide +kernel) (atL dAX6_open_0 37 rfl) ?_
        refine v_icmp_ge hX ⟨by omega, by omega⟩ ⟨by omega, by omega⟩ (tgt := 104) (atL dAX6_open_0 38 rfl) (by decide) (fun h78 => ?_) (fun h78 => ?_)
        · refine v_bipush hX (by decide +kernel) (atL dAX6_open_0 50 rfl) ?_
          exact v_iret hX (atL dAX6_open_0 51 rfl) (hret _ _ _ ⟨A, (by unfold f_open; rw [htsp0, htsp1]; exact Or.inr ⟨⟨by omega, by omega⟩, Or.inr (Or.inr ⟨hfit, ⟨gc8.t h66, gc7.t h56⟩, Or.inl ⟨by omega, rfl⟩⟩)⟩), hS.keep hF4 hA4 hD4, hF4.fm.one, Wk.rf, hKW⟩ _ (Nat.le_of_ble_eq_true rfl) (Nat.le_of_ble_eq_true rfl))
        · have hlt : A.2.1 < 16 := by omega
          have hN := hKW.2 A.2.1 (Nat.le_refl _)
          have hod : rv (A.1 sp0) % 2 = 1 := gc8.t h66
          have hxe : XE (rv (A.1 sp1)) (rv (A.1 sp0)) := gc7.t h56
          refine v_aload_n hX 2 rfl (atL dAX6_open_0 39 rfl) ?_
          refine nw_X6_22 hX (i := A.2.1) hN.2.2.1 (by rw [hR]; exact ⟨Nat.le_of_ble_eq_true rfl, Nat.le_of_ble_eq_true rfl⟩) (atL dAX6_open_0 40 rfl) (fun a => ?_)
          refine v_dup hX rfl (atL dAX6_open_0 41 rfl) ?_
          refine v_iconst hX (atL dAX6_open_0 42 rfl) ?_
          have hu : Wad w (wup w 35 A.2.1 a) [(35, A.2.1)] := Wad.rf.up hN.2.2.1
          have u00 : (wup w 35 A.2.1 a).1 0 0 = w.1 0 0 := hu.2 0 0 hk0
          refine v_aload_n hX 2 rfl (atL dAX6_open_0 43 rfl) ?_
          refine v_eq0 u00 (gf_X6_74 hX (hu.old hk0) (atL dAX6_open_0 44 rfl) ?_)
          refine v_aload_n hX 2 rfl (atL dAX6_open_0 45 rfl) ?_
          refine v_eq0 u00 (gf_X6_71 hX (hu.old hk0) (atL dAX6_open_0 46 rfl) ?_)
          refine v_callI hX (As := [.int (iI ((2 : Nat) : Int)), .ref ((wup w 35 A.2.1 a).1 3 3), .ref ((wup w 35 A.2.1 a).1 3 2)]) (rest := [.ref a, .ref (w.1 0 0)]) (c_X2_init _ _ _ (i := A.2.1) (o := a) (P := 2) (Or.inl rfl) wup_new wup_at (wup_fr hN.1 (fun e => absurd e.1 (by decide))) (wup_fr hN.2.1 (fun e => absurd e.1 (by decide))) (wup_fr hN.2.2.2.1 (fun e => absurd e.1 (by decide))) (fun j hj => ⟨wup_fr (hN.2.2.2.2 j hj).1 (fun e => absurd e.1 (by decide)), wup_fr (hN.2.2.2.2 j hj).2.1 (fun e => absurd e.1 (by decide)), wup_fr (hN.2.2.2.2 j hj).2.2 (fun e => absurd e.1 (by decide))⟩) su_s (n := 3) (v := rv (A.1 sp0)) (e := 2) (x := rv (A.1 sp1)) (hu.old (hH 3 3 (by simp [mn, tp]))) (WN_eq hw4_3 (by rw [su_rc (by decide)]) (by rw [su_rc (by decide)])) (by decide) (fun q0 => by rw [q0] at hod; omega) (fit_1024 hfit) (hu.old (hH 3 2 (by simp [mn, tp]))) (WN_eq hw4 (by rw [su_rc (by decide)]) (by rw [su_rc (by decide)])) (by decide) (hD4.eq (su_rc (by decide)))) li_X6_201 rfl (by rw [hR]; exact ⟨Nat.le_of_ble_eq_true rfl, Nat.le_of_ble_eq_true rfl⟩) (by rw [hR]; exact ⟨Nat.le_of_ble_eq_true rfl, Nat.le_of_ble_eq_true rfl⟩) rfl (Nat.le_of_ble_eq_true rfl) (atL dAX6_open_0 47 rfl) (fun _ w1 s1q hp1 => ?_)
          obtain ⟨⟨m0, hto, hm0⟩, hK0, hD1q, hFX⟩ := hp1
          obtain ⟨hw1, ha1⟩ := Wad.mk Wad.rf hN.2.2.1 hto
          rw [List.append_nil] at hw1
          have hmm : ∀ q, q ∈ (5, A.2.1) :: m0 ↔ q = (5, A.2.1) ∨ q = (6, A.2.1) ∨ ((q.1 = 3 ∨ q.1 = 4) ∧ 32 + 8 * A.2.1 ≤ q.2 ∧ q.2 < 32 + 8 * A.2.1 + 2) := fun q => by rw [List.mem_cons, hm0 q]
          have hFX2 : FX A.2.1 s4 s1q := (FX.su (Or.inl rfl)).tr hFX
          have hA1q := hFX2.ar hA4
          have hFK : FK A.2.1 σ s1q := (FH.fk hF4).tr hFX2.fk
          have hKYq : KY s1q A.2.1 2 (openK (rv (A.1 sp0)) (rv (A.1 sp1))) := hK0.congr (fun j hj => by rcases (show j = 0 ∨ j = 1 by omega) with rfl | rfl <;> rfl)
          show V X _ w1 _ _ s1q [.ref a, .ref (w.1 0 0)]
          rw [← ha1]
          have e00 : w1.1 0 0 = w.1 0 0 := hw1.2 0 0 hk0
          rw [← e00]
          have hs4 : s1q 4 0 0 = (A.2.1 : Int) := (congrFun (hFK 4 0 (Or.inr (Or.inr (Or.inl ⟨by omega, by omega⟩))) (by decide) (fun q => by omega) (fun q => by omega)) 0).trans hS.2.2.2.1
          have hKW1 := hKW.add hw1 (P := 2) (by decide) hmm
          refine v_callV hX (As := [.ref (w1.1 5 A.2.1)]) (rest := []) (c_X6_keep (xl X) w1 s1q (hw1.old hk0) hKW1.1 A.2.1 hlt hs4 (hw1.new ((hmm _).mpr (Or.inl rfl)))) lk_X6_186 (hw1.old hk0) (fun _ => rfl) rfl rfl rfl (by rw [hR]; exact ⟨Nat.le_of_ble_eq_true rfl, Nat.le_of_ble_eq_true rfl⟩) (by rw [hR]; exact ⟨Nat.le_of_ble_eq_true rfl, Nat.le_of_ble_eq_true rfl⟩) rfl (Nat.le_of_ble_eq_true rfl) (atL dAX6_open_0 48 rfl) (fun yq s2q hq2 => ?_)
          obtain ⟨hy, hs2⟩ := hq2
          subst hy
          show V X _ w1 _ _ s2q [.int (iI (A.2.1 : Int))]
          refine v_goto hX (tgt := 106) (atL dAX6_open_0 49 rfl) (by decide) ?_
          exact v_iret hX (atL dAX6_open_0 51 rfl) (hret _ _ _ ⟨_, (by unfold f_open; rw [htsp0, htsp1]; exact Or.inr ⟨⟨by omega, by omega⟩, Or.inr (Or.inr ⟨hfit, ⟨hod, hxe⟩, Or.inr ⟨hlt, rfl⟩⟩)⟩), hS.add hlt hFK hA1q hD1q hKYq hs2, hFK.fm1.kp hs2, hw1.wk hmm, hKW1⟩ _ (Nat.le_of_ble_eq_true rfl) (Nat.le_of_ble_eq_true rfl))
      · refine v_bipush hX (by decide +kernel) (atL dAX6_open_0 33 rfl) ?_
        exact v_iret hX (atL dAX6_open_0 34 rfl) (hret _ _ _ ⟨A, (by unfold f_open; rw [htsp0, htsp1]; exact Or.inr ⟨⟨by omega, by omega⟩, Or.inr (Or.inl ⟨hfit, fun x => gc8.f h66 x.1, rfl⟩)⟩), hS.keep hF4 hA4 hD4, hF4.fm.one, Wk.rf, hKW⟩ _ (Nat.le_of_ble_eq_true rfl) (Nat.le_of_ble_eq_true rfl))
  · refine v_iconst hX (atL dAX6_open_0 21 rfl) ?_
    exact v_iret hX (atL dAX6_open_0 22 rfl) (hret _ _ _ ⟨A, (by unfold f_open; rw [htsp0, htsp1]; exact Or.inr ⟨⟨by omega, by omega⟩, Or.inl ⟨gc6.f h40, rfl⟩⟩), hS.keep hF4 hA4 hD4, hF4.fm.one, Wk.rf, hKW⟩ _ (Nat.le_of_ble_eq_true rfl) (Nat.le_of_ble_eq_true rfl))
