/-! the law's helpers: what they say of the house -/
def FMo (σ s : St) : Prop := ∀ c, 10 ≤ c → c ≠ 15 → c ≠ 21 → s c = σ c
theorem FM1.o {σ s : St} (h : FM1 σ s) : FMo σ s := fun c h1 _ h3 => h c h1 h3
theorem FMo.rf {σ : St} : FMo σ σ := fun _ _ _ _ => rfl
theorem FMo.out {σ s : St} {v : Int} (h : FMo σ s) : FMo σ (su s 15 0 0 v) := fun c h1 h2 h3 => by rw [su_rc h2]; exact h c h1 h2 h3
theorem HS.eq {σ s : St} {A : Ab} (h : HS σ A) (e : ∀ c, c < 10 → s c = σ c) : HS s A := by
  obtain ⟨h1, h2, h3, h4, h5, h6, h7⟩ := h
  have ho : ∀ i, okR σ i → okR s i := fun i g => by unfold okR; rw [e 0 (by decide), e 1 (by decide)]; exact g
  have hr : ∀ i, row s i = row σ i := fun i => by unfold row; rw [e 0 (by decide), e 1 (by decide)]
  refine ⟨fun i hi => ⟨ho i (h1 i hi).1, (hr i).trans (h1 i hi).2⟩, fun i => ho i (h2 i), h3.eq (e 3 (by decide)), by rw [e 4 (by decide)]; exact h4, h5, fun j hj => by rw [e 7 (by decide)]; exact h6 j hj, fun k hk => ?_⟩
  have g := h7 k hk
  exact ⟨g.1, by rw [e 6 (by decide)]; exact g.2.1, by rw [e 5 (by decide)]; exact g.2.2.1, fun j hj => WN_eq (g.2.2.2.1 j hj) (by rw [e 2 (by decide)]) (by rw [e 3 (by decide)]), g.2.2.2.2⟩
theorem HS.out {σ : St} {A : Ab} {v : Int} (h : HS σ A) : HS (su σ 15 0 0 v) A := h.eq (fun c hc => su_rc (by omega))
/-- a helper's end: how it came out, what it answered, the house then -/
def HQ (w : Wl) (σ : St) (R : Res → Prop) (ov : Int → Int → Prop) (k : Int) (w' : Wl) (σ' : St) : Prop := ∃ (a : Int) (A' : Ab), R (k, a, A') ∧ HS σ' A' ∧ FMo σ σ' ∧ (k = 0 → ov a (σ' 15 0 0)) ∧ Wk w w' ∧ KW w' A'.2.1 ∧ (k = 0 ∨ k = 1 ∨ k = 2)
def oI (a : Int) : Int := (iI a).toInt
def oZ (a : Int) : Int := if a = 0 then 0 else 1
def pN (_ _ : Int) : Prop := True
def pI (a v : Int) : Prop := v = oI a
def pZ (a v : Int) : Prop := v = oZ a
theorem i2l_of (a : Int) : (iI a).toInt64 = jI (oI a) := by
  have h := iI_i2l (rI_of (iI a))
  rw [iI_of] at h
  exact h
theorem kc_putR {A : Ab} {t v : Nat} : (putR A t v).2.2.2.1 = A.2.1 := by
  unfold putR
  split <;> rfl
theorem kc_load {A : Ab} {p0 p1 : Int} : (f_load A p0 p1).2.2.2.1 = A.2.1 := by
  unfold f_load
  repeat' split
  all_goals rfl
theorem kc_size {A : Ab} {p0 : Int} : (f_size A p0).2.2.2.1 = A.2.1 := by
  unfold f_size
  repeat' split
  all_goals rfl
theorem kc_octet {A : Ab} {p0 p1 : Int} : (f_octet A p0 p1).2.2.2.1 = A.2.1 := by
  unfold f_octet
  repeat' split
  all_goals rfl
theorem kc_cut {A : Ab} {p0 p1 p2 p3 : Int} : (f_cut A p0 p1 p2 p3).2.2.2.1 = A.2.1 := by
  unfold f_cut
  repeat' split
  all_goals rfl
theorem kc_join {A : Ab} {p0 p1 p2 : Int} : (f_join A p0 p1 p2).2.2.2.1 = A.2.1 := by
  unfold f_join
  repeat' split
  all_goals rfl
theorem kc_change {A : Ab} {p0 p1 p2 : Int} : (f_change A p0 p1 p2).2.2.2.1 = A.2.1 := by
  unfold f_change
  repeat' split
  all_goals rfl
theorem kc_calc {A : Ab} {p0 p1 p2 p3 p4 : Int} : (f_calc A p0 p1 p2 p3 p4).2.2.2.1 = A.2.1 := by
  unfold f_calc outR
  repeat' split
  all_goals first | rfl | exact kc_putR
theorem kc_compare {A : Ab} {p0 p1 : Int} : (f_compare A p0 p1).2.2.2.1 = A.2.1 := by
  unfold f_compare
  repeat' split
  all_goals rfl
theorem kc_bits {A : Ab} {p0 : Int} : (f_bits A p0).2.2.2.1 = A.2.1 := by
  unfold f_bits
  repeat' split
  all_goals rfl
theorem kc_digest {A : Ab} {p0 p1 p2 : Int} : (f_digest A p0 p1 p2).2.2.2.1 = A.2.1 := by
  unfold f_digest
  repeat' split
  all_goals rfl
theorem kc_mask {A : Ab} {p0 p1 p2 p3 : Int} : (f_mask A p0 p1 p2 p3).2.2.2.1 = A.2.1 := by
  unfold f_mask
  repeat' split
  all_goals rfl
theorem kc_part {A : Ab} {p0 p1 p2 : Int} : (f_part A p0 p1 p2).2.2.2.1 = A.2.1 := by
  unfold f_part
  repeat' split
  all_goals first | rfl | exact kc_putR
theorem kc_turn {A : Ab} {p0 p1 p2 p3 : Int} : (f_turn A p0 p1 p2 p3).2.2.2.1 = A.2.1 := by
  unfold f_turn
  repeat' split
  all_goals rfl
theorem kc_hide {A : Ab} {p0 p1 p2 p3 p4 p5 : Int} : (f_hide A p0 p1 p2 p3 p4 p5).2.2.2.1 = A.2.1 := by
  unfold f_hide
  repeat' split
  all_goals rfl
theorem kc_show {A : Ab} {p0 p1 p2 p3 p4 : Int} : (f_show A p0 p1 p2 p3 p4).2.2.2.1 = A.2.1 := by
  unfold f_show
  repeat' split
  all_goals rfl
theorem kc_fill {A : Ab} {p0 p1 p2 p3 : Int} : (f_fill A p0 p1 p2 p3).2.2.2.1 = A.2.1 := by
  unfold f_fill
  repeat' split
  all_goals rfl
theorem kc_empty {A : Ab} {p0 p1 p2 : Int} : (f_empty A p0 p1 p2).2.2.2.1 = A.2.1 := by
  unfold f_empty
  repeat' split
  all_goals rfl
theorem kc_sign {A : Ab} {p0 p1 p2 p3 : Int} : (f_sign A p0 p1 p2 p3).2.2.2.1 = A.2.1 := by
  unfold f_sign
  repeat' split
  all_goals rfl
theorem kc_prove {A : Ab} {p0 p1 p2 p3 : Int} : (f_prove A p0 p1 p2 p3).2.2.2.1 = A.2.1 := by
  unfold f_prove
  repeat' split
  all_goals rfl
theorem kc_salt {A : Ab} {p0 p1 p2 p3 p4 : Int} : (f_salt A p0 p1 p2 p3 p4).2.2.2.1 = A.2.1 := by
  unfold f_salt
  repeat' split
  all_goals rfl
theorem kc_taste {A : Ab} {p0 p1 p2 p3 p4 : Int} : (f_taste A p0 p1 p2 p3 p4).2.2.2.1 = A.2.1 := by
  unfold f_taste
  repeat' split
  all_goals rfl
theorem kc_feed {A : Ab} {p0 p1 p2 p3 p4 : Int} : (f_feed A p0 p1 p2 p3 p4).2.2.2.1 = A.2.1 := by
  unfold f_feed
  repeat' split
  all_goals rfl
theorem kc_probable {A : Ab} {p0 : Int} {r : Res} (h : f_probable A p0 r) : r.2.2.2.1 = A.2.1 := by
  rcases h with ⟨-, rfl⟩ | ⟨-, a, rfl, -⟩ <;> rfl
theorem kc_next {A : Ab} {p0 p1 : Int} {r : Res} (h : f_next A p0 p1 r) : r.2.2.2.1 = A.2.1 := by
  rcases h with ⟨-, rfl⟩ | ⟨-, -, rfl⟩ | ⟨-, -, k, -, -, -, rfl⟩ | ⟨-, -, -, rfl⟩
  · rfl
  · rfl
  · exact kc_putR
  · rfl
theorem no2_size {A : Ab} {p0 : Int} : ¬ f_size A p0 = (2, 0, A) := by
  intro h
  have h1 := congrArg Prod.fst h
  unfold f_size at h1
  revert h1
  repeat' split
  all_goals (intro h1; simp at h1)
theorem no2_octet {A : Ab} {p0 p1 : Int} : ¬ f_octet A p0 p1 = (2, 0, A) := by
  intro h
  have h1 := congrArg Prod.fst h
  unfold f_octet at h1
  revert h1
  repeat' split
  all_goals (intro h1; simp at h1)
theorem no2_join {A : Ab} {p0 p1 p2 : Int} : ¬ f_join A p0 p1 p2 = (2, 0, A) := by
  intro h
  have h1 := congrArg Prod.fst h
  unfold f_join at h1
  revert h1
  repeat' split
  all_goals (intro h1; simp at h1)
theorem no2_compare {A : Ab} {p0 p1 : Int} : ¬ f_compare A p0 p1 = (2, 0, A) := by
  intro h
  have h1 := congrArg Prod.fst h
  unfold f_compare at h1
  revert h1
  repeat' split
  all_goals (intro h1; simp at h1)
theorem no2_bits {A : Ab} {p0 : Int} : ¬ f_bits A p0 = (2, 0, A) := by
  intro h
  have h1 := congrArg Prod.fst h
  unfold f_bits at h1
  revert h1
  repeat' split
  all_goals (intro h1; simp at h1)
theorem no2_probable {A : Ab} {p0 : Int} : ¬ f_probable A p0 (2, 0, A) := by
  intro h
  unfold f_probable at h
  simp at h
theorem no2_next {A : Ab} {p0 p1 : Int} : ¬ f_next A p0 p1 (2, 0, A) := by
  have hp : ∀ t v, (putR A t v).1 = 0 := fun t v => by unfold putR; split <;> rfl
  rintro (⟨-, h⟩ | ⟨-, -, h⟩ | ⟨-, -, k, -, -, -, h⟩ | ⟨-, -, -, h⟩)
  · exact absurd (congrArg Prod.fst h) (by simp)
  · exact absurd (congrArg Prod.fst h) (by simp)
  · have := congrArg Prod.fst h
    rw [hp] at this
    simp at this
  · exact absurd (congrArg Prod.fst h) (by simp)
theorem no2_key {A : Ab} {p0 p1 p2 : Int} : ¬ f_key A p0 p1 p2 (2, 0, A) := by
  intro h
  unfold f_key at h
  simp at h
theorem no2_open {A : Ab} {p0 p1 : Int} : ¬ f_open A p0 p1 (2, 0, A) := by
  intro h
  unfold f_open at h
  simp at h
theorem no2_fill {A : Ab} {p0 p1 p2 p3 : Int} : ¬ f_fill A p0 p1 p2 p3 = (2, 0, A) := by
  intro h
  have h1 := congrArg Prod.fst h
  unfold f_fill at h1
  revert h1
  repeat' split
  all_goals (intro h1; simp at h1)
theorem no2_empty {A : Ab} {p0 p1 p2 : Int} : ¬ f_empty A p0 p1 p2 = (2, 0, A) := by
  intro h
  have h1 := congrArg Prod.fst h
  unfold f_empty at h1
  revert h1
  repeat' split
  all_goals (intro h1; simp at h1)
theorem lkh {idx n : Nat} {y : MethodName} {b : ByteArray} {r : Option FieldType} {hh : List (Nat × Nat × Nat × Nat)} (h1 : Cond.methodLink RL idx y ∈ BW) (h2 : Cond.static y ∈ BW) (h3 : Cond.codeWith y b n r hh ∈ BW) (h4 : Cond.initialized y.cls ∈ BW) : GoodIn BW (va_wsS RL idx y (.codeWith y b n r hh :: BW)) := by
  have hb : ∀ x ∈ BW, x ∈ BW ∧ ((x.onTables && x.keeps) = true ∨ ∃ ty, x = .arrayClass ty) := fun x hx => ⟨hx, good_of_word (List.mem_filter.mp hx).2⟩
  intro x hx
  unfold va_wsS at hx
  rcases List.mem_append.mp hx with hx | hx
  · simp only [List.mem_cons, List.not_mem_nil, or_false] at hx
    rcases hx with rfl | rfl | rfl
    · exact hb _ h1
    · exact hb _ h2
    · exact hb _ h4
  · rcases List.mem_cons.mp hx with rfl | hx
    · exact hb _ h3
    · exact hb _ hx
theorem lh_load : LkH 104 yL_load method_3_code 4 (Option.some Jvm.ClassFile.FieldType.int) [(0, 6, 9, 13), (0, 6, 12, 15)] 3 := ⟨lkh wd_238 wd_239 wd_240 wd_0, by decide, by decide, by decide +kernel⟩
theorem lh_size : LkH 114 yL_size method_4_code 4 (Option.some Jvm.ClassFile.FieldType.int) [(0, 9, 12, 13)] 3 := ⟨lkh wd_345 wd_346 wd_347 wd_0, by decide, by decide, by decide +kernel⟩
theorem lh_octet : LkH 118 yL_octet method_5_code 5 (Option.some Jvm.ClassFile.FieldType.int) [(0, 10, 13, 13)] 4 := ⟨lkh wd_352 wd_353 wd_354 wd_0, by decide, by decide, by decide +kernel⟩
theorem lh_cut : LkH 122 yL_cut method_6_code 7 (Option.some Jvm.ClassFile.FieldType.int) [(0, 14, 17, 13), (0, 14, 21, 15)] 6 := ⟨lkh wd_364 wd_365 wd_366 wd_0, by decide, by decide, by decide +kernel⟩
theorem lh_join : LkH 126 yL_join method_7_code 6 (Option.some Jvm.ClassFile.FieldType.int) [(0, 12, 15, 13)] 5 := ⟨lkh wd_377 wd_378 wd_379 wd_0, by decide, by decide, by decide +kernel⟩
theorem lh_change : LkH 130 yL_change method_8_code 6 (Option.some Jvm.ClassFile.FieldType.int) [(0, 12, 15, 13), (0, 12, 19, 15)] 5 := ⟨lkh wd_388 wd_389 wd_390 wd_0, by decide, by decide, by decide +kernel⟩
theorem lh_calc : LkH 133 yL_calc method_9_code 8 (Option.some Jvm.ClassFile.FieldType.int) [(0, 16, 19, 13), (0, 16, 23, 15)] 7 := ⟨lkh wd_400 wd_401 wd_402 wd_0, by decide, by decide, by decide +kernel⟩
theorem lh_compare : LkH 137 yL_compare method_10_code 5 (Option.some Jvm.ClassFile.FieldType.int) [(0, 10, 13, 13)] 4 := ⟨lkh wd_555 wd_556 wd_557 wd_0, by decide, by decide, by decide +kernel⟩
theorem lh_bits : LkH 140 yL_bits method_11_code 4 (Option.some Jvm.ClassFile.FieldType.int) [(0, 9, 12, 13)] 3 := ⟨lkh wd_562 wd_563 wd_564 wd_0, by decide, by decide, by decide +kernel⟩
theorem lh_probable : LkH 143 yL_probable method_12_code 4 (Option.some Jvm.ClassFile.FieldType.int) [(0, 16, 19, 13)] 3 := ⟨lkh wd_570 wd_571 wd_572 wd_0, by decide, by decide, by decide +kernel⟩
theorem lh_next : LkH 146 yL_next method_13_code 5 (Option.some Jvm.ClassFile.FieldType.int) [(0, 10, 13, 13)] 4 := ⟨lkh wd_611 wd_612 wd_613 wd_0, by decide, by decide, by decide +kernel⟩
theorem lh_digest : LkH 149 yL_digest method_14_code 6 (Option.some Jvm.ClassFile.FieldType.int) [(0, 12, 15, 13), (0, 12, 19, 15)] 5 := ⟨lkh wd_622 wd_623 wd_624 wd_0, by decide, by decide, by decide +kernel⟩
theorem lh_mask : LkH 152 yL_mask method_15_code 7 (Option.some Jvm.ClassFile.FieldType.int) [(0, 14, 17, 13), (0, 14, 21, 15)] 6 := ⟨lkh wd_667 wd_668 wd_669 wd_0, by decide, by decide, by decide +kernel⟩
theorem lh_key : LkH 155 yL_key method_16_code 6 (Option.some Jvm.ClassFile.FieldType.int) [(0, 12, 15, 13)] 5 := ⟨lkh wd_683 wd_684 wd_685 wd_0, by decide, by decide, by decide +kernel⟩
theorem lh_open : LkH 158 yL_open method_17_code 5 (Option.some Jvm.ClassFile.FieldType.int) [(0, 10, 13, 13)] 4 := ⟨lkh wd_748 wd_749 wd_750 wd_0, by decide, by decide, by decide +kernel⟩
theorem lh_part : LkH 161 yL_part method_18_code 6 (Option.some Jvm.ClassFile.FieldType.int) [(0, 12, 15, 13), (0, 12, 19, 15)] 5 := ⟨lkh wd_755 wd_756 wd_757 wd_0, by decide, by decide, by decide +kernel⟩
theorem lh_turn : LkH 164 yL_turn method_19_code 7 (Option.some Jvm.ClassFile.FieldType.int) [(0, 14, 17, 13), (0, 14, 21, 15)] 6 := ⟨lkh wd_769 wd_770 wd_771 wd_0, by decide, by decide, by decide +kernel⟩
theorem lh_hide : LkH 167 yL_hide method_20_code 9 (Option.some Jvm.ClassFile.FieldType.int) [(0, 18, 21, 13), (0, 18, 25, 15)] 8 := ⟨lkh wd_785 wd_786 wd_787 wd_0, by decide, by decide, by decide +kernel⟩
theorem lh_show : LkH 171 yL_show method_21_code 8 (Option.some Jvm.ClassFile.FieldType.int) [(0, 16, 19, 13), (0, 16, 23, 15)] 7 := ⟨lkh wd_815 wd_816 wd_817 wd_0, by decide, by decide, by decide +kernel⟩
theorem lh_fill : LkH 174 yL_fill method_22_code 7 (Option.some Jvm.ClassFile.FieldType.int) [(0, 14, 17, 13)] 6 := ⟨lkh wd_840 wd_841 wd_842 wd_0, by decide, by decide, by decide +kernel⟩
theorem lh_empty : LkH 177 yL_empty method_23_code 6 (Option.some Jvm.ClassFile.FieldType.int) [(0, 12, 15, 13)] 5 := ⟨lkh wd_855 wd_856 wd_857 wd_0, by decide, by decide, by decide +kernel⟩
theorem lh_sign : LkH 180 yL_sign method_24_code 7 (Option.some Jvm.ClassFile.FieldType.int) [(0, 14, 17, 13), (0, 14, 21, 15)] 6 := ⟨lkh wd_868 wd_869 wd_870 wd_0, by decide, by decide, by decide +kernel⟩
theorem lh_prove : LkH 183 yL_prove method_25_code 7 (Option.some Jvm.ClassFile.FieldType.int) [(0, 14, 17, 13), (0, 14, 21, 15)] 6 := ⟨lkh wd_886 wd_887 wd_888 wd_0, by decide, by decide, by decide +kernel⟩
theorem lh_salt : LkH 186 yL_salt method_26_code 8 (Option.some Jvm.ClassFile.FieldType.int) [(0, 16, 19, 13), (0, 16, 23, 15)] 7 := ⟨lkh wd_894 wd_895 wd_896 wd_0, by decide, by decide, by decide +kernel⟩
theorem lh_taste : LkH 189 yL_taste method_27_code 8 (Option.some Jvm.ClassFile.FieldType.int) [(0, 16, 19, 13), (0, 16, 23, 15)] 7 := ⟨lkh wd_917 wd_918 wd_919 wd_0, by decide, by decide, by decide +kernel⟩
theorem dAL_load_0 : ([(0, .aload_n 0, 1, 1), (1, .iload_n 1, 1, 2), (2, .iload_n 2, 1, 3), (3, .invokevirtual 7, 3, 6), (6, .goto 9, 3, 9), (9, .astore_n 3, 1, 10), (10, .iconst 1, 1, 11), (11, .ireturn, 1, 12), (12, .astore_n 3, 1, 13), (13, .iconst 2, 1, 14), (14, .ireturn, 1, 15), (15, .iconst 0, 1, 16), (16, .ireturn, 1, 17)] : List (Nat × Instr × Nat × Nat)).all (fun q => decide (decode method_3_code q.1 = .ok (q.2.1, q.2.2.1)) && q.2.2.2 == q.1 + q.2.2.1) = true := by decide +kernel
set_option maxHeartbeats 1000000 in
set_option maxRecDepth 100000 in
theorem c_L_load (l : Launch) (hst : l.stackTraces = false) (w : Wl) (σ : St) (hk0 : w.2 0 0) (ho : w.2 18 0) (A : Ab) (hS : HS σ A) (hKW : KW w A.2.1) (p0 : Int) (hp0 : rI p0) (p1 : Int) (hp1 : rI p1) : Ch l yL_load method_3_code 4 (Option.some Jvm.ClassFile.FieldType.int) [(0, 6, 9, 13), (0, 6, 12, 15)] 8 126 2 12 wI [.ref (w.1 0 0), .int (iI p0), .int (iI p1)] w σ (HQ w σ (fun r => f_load A p0 p1 = r) pN) := by
  refine Ch.of (own := RL) (lv := [(0, .ref (w.1 0 0)), (1, .int (iI p0)), (2, .int (iI p1))]) (by decide +kernel) rfl (Nat.le_of_ble_eq_true rfl) rfl (fun X hX hxl hR htab hNc hcl hret => ?_)
  subst hxl
  have hX1 : (f_load A p0 p1 = (1, 0, A)) → ∀ q, V X (2, 12) w 9 [(0, .ref (w.1 0 0)), (1, .int (iI p0)), (2, .int (iI p1))] σ [.ref q] := by
    intro hf q
    refine v_astore_n hX (i := 3) rfl (lv' := [(3, .ref q), (0, .ref (w.1 0 0)), (1, .int (iI p0)), (2, .int (iI p1))]) (Nat.le_of_ble_eq_true rfl) rfl (atL dAL_load_0 5 rfl) ?_
    refine v_iconst hX (atL dAL_load_0 6 rfl) ?_
    exact v_iret hX (atL dAL_load_0 7 rfl) (hret 1 w σ ⟨0, A, hf, hS, FMo.rf, fun e => absurd e (by decide), Wk.rf, hKW, by decide⟩ _ (Nat.le_refl _) (Nat.le_refl _))
  have hX2 : (f_load A p0 p1 = (2, 0, A)) → ∀ q, V X (2, 12) w 12 [(0, .ref (w.1 0 0)), (1, .int (iI p0)), (2, .int (iI p1))] σ [.ref q] := by
    intro hf q
    refine v_astore_n hX (i := 3) rfl (lv' := [(3, .ref q), (0, .ref (w.1 0 0)), (1, .int (iI p0)), (2, .int (iI p1))]) (Nat.le_of_ble_eq_true rfl) rfl (atL dAL_load_0 8 rfl) ?_
    refine v_iconst hX (atL dAL_load_0 9 rfl) ?_
    exact v_iret hX (atL dAL_load_0 10 rfl) (hret 2 w σ ⟨0, A, hf, hS, FMo.rf, fun e => absurd e (by decide), Wk.rf, hKW, by decide⟩ _ (Nat.le_refl _) (Nat.le_refl _))
  refine v_aload_n hX 0 rfl (atL dAL_load_0 0 rfl) ?_
  refine v_iload_n hX 1 rfl (atL dAL_load_0 1 rfl) ?_
  refine v_iload_n hX 2 rfl (atL dAL_load_0 2 rfl) ?_
  refine v_callVTx hX (As := [.int (iI p0), .int (iI p1)]) (rest := []) (c_X6_load (xl X) hst w σ hk0 A hS p0 hp0 p1 hp1) lk_L_7 hk0 (fun _ => rfl) rfl rfl rfl (by rw [hR]; exact ⟨Nat.le_of_ble_eq_true rfl, Nat.le_of_ble_eq_true rfl⟩) (by rw [hR]; exact ⟨Nat.le_of_ble_eq_true rfl, Nat.le_of_ble_eq_true rfl⟩) rfl (Nat.le_of_ble_eq_true rfl) (atL dAL_load_0 3 rfl) (fun E hE => ?_) (fun a σ1 hp1 => ?_)
  · rcases hE with ⟨rfl, hf⟩ | ⟨rfl, hf⟩
    · exact ⟨_, hc_I htab (by decide) (by decide), hX1 hf⟩
    · exact ⟨_, hc_A hX htab hNc (by decide) (by decide), hX2 hf⟩
  · obtain ⟨A1, hf, hS1, hM1⟩ := hp1
    have hWk : Wk w w := Wk.rf
    have hK1 : KW w A1.2.1 := by rw [show A1.2.1 = (f_load A p0 p1).2.2.2.1 by rw [hf], kc_load]; exact hKW
    show V X _ w _ _ σ1 []
    refine v_goto hX (tgt := 15) (atL dAL_load_0 4 rfl) (by decide) ?_
    refine v_iconst hX (atL dAL_load_0 11 rfl) ?_
    exact v_iret hX (atL dAL_load_0 12 rfl) (hret 0 w σ1 ⟨0, A1, hf, hS1, hM1.one.o, fun _ => trivial, hWk, hK1, by decide⟩ _ (Nat.le_refl _) (Nat.le_refl _))
theorem dAL_size_0 : ([(0, .aload_n 2, 1, 1), (1, .iconst 0, 1, 2), (2, .aload_n 0, 1, 3), (3, .iload_n 1, 1, 4), (4, .invokevirtual 17, 3, 7), (7, .i2l, 1, 8), (8, .lastore, 1, 9), (9, .goto 6, 3, 12), (12, .astore_n 3, 1, 13), (13, .iconst 1, 1, 14), (14, .ireturn, 1, 15), (15, .iconst 0, 1, 16), (16, .ireturn, 1, 17)] : List (Nat × Instr × Nat × Nat)).all (fun q => decide (decode method_4_code q.1 = .ok (q.2.1, q.2.2.1)) && q.2.2.2 == q.1 + q.2.2.1) = true := by decide +kernel
set_option maxHeartbeats 1000000 in
set_option maxRecDepth 100000 in
theorem c_L_size (l : Launch) (hst : l.stackTraces = false) (w : Wl) (σ : St) (hk0 : w.2 0 0) (ho : w.2 18 0) (A : Ab) (hS : HS σ A) (hKW : KW w A.2.1) (p0 : Int) (hp0 : rI p0) : Ch l yL_size method_4_code 4 (Option.some Jvm.ClassFile.FieldType.int) [(0, 9, 12, 13)] 8 124 1 6 wI [.ref (w.1 0 0), .int (iI p0), .ref (w.1 18 0)] w σ (HQ w σ (fun r => f_size A p0 = r) pI) := by
  refine Ch.of (own := RL) (lv := [(0, .ref (w.1 0 0)), (1, .int (iI p0)), (2, .ref (w.1 18 0))]) (by decide +kernel) rfl (Nat.le_of_ble_eq_true rfl) rfl (fun X hX hxl hR htab hNc hcl hret => ?_)
  subst hxl
  have hX1 : (f_size A p0 = (1, 0, A)) → ∀ q, V X (1, 6) w 12 [(0, .ref (w.1 0 0)), (1, .int (iI p0)), (2, .ref (w.1 18 0))] σ [.ref q] := by
    intro hf q
    refine v_astore_n hX (i := 3) rfl (lv' := [(3, .ref q), (0, .ref (w.1 0 0)), (1, .int (iI p0)), (2, .ref (w.1 18 0))]) (Nat.le_of_ble_eq_true rfl) rfl (atL dAL_size_0 8 rfl) ?_
    refine v_iconst hX (atL dAL_size_0 9 rfl) ?_
    exact v_iret hX (atL dAL_size_0 10 rfl) (hret 1 w σ ⟨0, A, hf, hS, FMo.rf, fun e => absurd e (by decide), Wk.rf, hKW, by decide⟩ _ (Nat.le_refl _) (Nat.le_refl _))
  refine v_aload_n hX 2 rfl (atL dAL_size_0 0 rfl) ?_
  refine v_iconst hX (atL dAL_size_0 1 rfl) ?_
  refine v_aload_n hX 0 rfl (atL dAL_size_0 2 rfl) ?_
  refine v_iload_n hX 1 rfl (atL dAL_size_0 3 rfl) ?_
  refine v_callVTx hX (As := [.int (iI p0)]) (rest := [.int (iI 0), .ref (w.1 18 0)]) (c_X6_size (xl X) hst w σ hk0 A hS p0 hp0) lk_L_17 hk0 (fun _ => rfl) rfl rfl rfl (by rw [hR]; exact ⟨Nat.le_of_ble_eq_true rfl, Nat.le_of_ble_eq_true rfl⟩) (by rw [hR]; exact ⟨Nat.le_of_ble_eq_true rfl, Nat.le_of_ble_eq_true rfl⟩) rfl (Nat.le_of_ble_eq_true rfl) (atL dAL_size_0 4 rfl) (fun E hE => ?_) (fun a σ1 hp1 => ?_)
  · rcases hE with ⟨rfl, hf⟩ | ⟨rfl, hf⟩
    · exact ⟨_, hc_I htab (by decide) (by decide), hX1 hf⟩
    · exact absurd hf no2_size
  · obtain ⟨A1, hf, hS1, hM1⟩ := hp1
    have hWk : Wk w w := Wk.rf
    have hK1 : KW w A1.2.1 := by rw [show A1.2.1 = (f_size A p0).2.2.2.1 by rw [hf], kc_size]; exact hKW
    show V X _ w _ _ σ1 [.int (iI a), .int (iI 0), .ref (w.1 18 0)]
    refine v_i2l hX (i2l_of a) (atL dAL_size_0 5 rfl) ?_
    refine v_last hX (c := 15) (i := 0) 0 ho (by decide) (fun _ _ => rfl) rfl (by decide) (by decide) (atL dAL_size_0 6 rfl) ?_
    refine v_goto hX (tgt := 15) (atL dAL_size_0 7 rfl) (by decide) ?_
    refine v_iconst hX (atL dAL_size_0 11 rfl) ?_
    exact v_iret hX (atL dAL_size_0 12 rfl) (hret 0 w _ ⟨a, A1, hf, hS1.out, hM1.one.o.out, fun _ => su_s, hWk, hK1, by decide⟩ _ (Nat.le_refl _) (Nat.le_refl _))
theorem dAL_octet_0 : ([(0, .aload_n 3, 1, 1), (1, .iconst 0, 1, 2), (2, .aload_n 0, 1, 3), (3, .iload_n 1, 1, 4), (4, .iload_n 2, 1, 5), (5, .invokevirtual 21, 3, 8), (8, .i2l, 1, 9), (9, .lastore, 1, 10), (10, .goto 7, 3, 13), (13, .astore 4, 2, 15), (15, .iconst 1, 1, 16), (16, .ireturn, 1, 17), (17, .iconst 0, 1, 18), (18, .ireturn, 1, 19)] : List (Nat × Instr × Nat × Nat)).all (fun q => decide (decode method_5_code q.1 = .ok (q.2.1, q.2.2.1)) && q.2.2.2 == q.1 + q.2.2.1) = true := by decide +kernel
set_option maxHeartbeats 1000000 in
set_option maxRecDepth 100000 in
theorem c_L_octet (l : Launch) (hst : l.stackTraces = false) (w : Wl) (σ : St) (hk0 : w.2 0 0) (ho : w.2 18 0) (A : Ab) (hS : HS σ A) (hKW : KW w A.2.1) (p0 : Int) (hp0 : rI p0) (p1 : Int) (hp1 : rI p1) : Ch l yL_octet method_5_code 5 (Option.some Jvm.ClassFile.FieldType.int) [(0, 10, 13, 13)] 8 126 1 6 wI [.ref (w.1 0 0), .int (iI p0), .int (iI p1), .ref (w.1 18 0)] w σ (HQ w σ (fun r => f_octet A p0 p1 = r) pI) := by
  refine Ch.of (own := RL) (lv := [(0, .ref (w.1 0 0)), (1, .int (iI p0)), (2, .int (iI p1)), (3, .ref (w.1 18 0))]) (by decide +kernel) rfl (Nat.le_of_ble_eq_true rfl) rfl (fun X hX hxl hR htab hNc hcl hret => ?_)
  subst hxl
  have hX1 : (f_octet A p0 p1 = (1, 0, A)) → ∀ q, V X (1, 6) w 13 [(0, .ref (w.1 0 0)), (1, .int (iI p0)), (2, .int (iI p1)), (3, .ref (w.1 18 0))] σ [.ref q] := by
    intro hf q
    refine v_astore hX (lv' := [(4, .ref q), (0, .ref (w.1 0 0)), (1, .int (iI p0)), (2, .int (iI p1)), (3, .ref (w.1 18 0))]) (Nat.le_of_ble_eq_true rfl) rfl (atL dAL_octet_0 9 rfl) ?_
    refine v_iconst hX (atL dAL_octet_0 10 rfl) ?_
    exact v_iret hX (atL dAL_octet_0 11 rfl) (hret 1 w σ ⟨0, A, hf, hS, FMo.rf, fun e => absurd e (by decide), Wk.rf, hKW, by decide⟩ _ (Nat.le_refl _) (Nat.le_refl _))
  refine v_aload_n hX 3 rfl (atL dAL_octet_0 0 rfl) ?_
  refine v_iconst hX (atL dAL_octet_0 1 rfl) ?_
  refine v_aload_n hX 0 rfl (atL dAL_octet_0 2 rfl) ?_
  refine v_iload_n hX 1 rfl (atL dAL_octet_0 3 rfl) ?_
  refine v_iload_n hX 2 rfl (atL dAL_octet_0 4 rfl) ?_
  refine v_callVTx hX (As := [.int (iI p0), .int (iI p1)]) (rest := [.int (iI 0), .ref (w.1 18 0)]) (c_X6_octet (xl X) hst w σ hk0 A hS p0 hp0 p1 hp1) lk_L_21 hk0 (fun _ => rfl) rfl rfl rfl (by rw [hR]; exact ⟨Nat.le_of_ble_eq_true rfl, Nat.le_of_ble_eq_true rfl⟩) (by rw [hR]; exact ⟨Nat.le_of_ble_eq_true rfl, Nat.le_of_ble_eq_true rfl⟩) rfl (Nat.le_of_ble_eq_true rfl) (atL dAL_octet_0 5 rfl) (fun E hE => ?_) (fun a σ1 hp1 => ?_)
  · rcases hE with ⟨rfl, hf⟩ | ⟨rfl, hf⟩
    · exact ⟨_, hc_I htab (by decide) (by decide), hX1 hf⟩
    · exact absurd hf no2_octet
  · obtain ⟨A1, hf, hS1, hM1⟩ := hp1
    have hWk : Wk w w := Wk.rf
    have hK1 : KW w A1.2.1 := by rw [show A1.2.1 = (f_octet A p0 p1).2.2.2.1 by rw [hf], kc_octet]; exact hKW
    show V X _ w _ _ σ1 [.int (iI a), .int (iI 0), .ref (w.1 18 0)]
    refine v_i2l hX (i2l_of a) (atL dAL_octet_0 6 rfl) ?_
    refine v_last hX (c := 15) (i := 0) 0 ho (by decide) (fun _ _ => rfl) rfl (by decide) (by decide) (atL dAL_octet_0 7 rfl) ?_
    refine v_goto hX (tgt := 17) (atL dAL_octet_0 8 rfl) (by decide) ?_
    refine v_iconst hX (atL dAL_octet_0 12 rfl) ?_
    exact v_iret hX (atL dAL_octet_0 13 rfl) (hret 0 w _ ⟨a, A1, hf, hS1.out, hM1.one.o.out, fun _ => su_s, hWk, hK1, by decide⟩ _ (Nat.le_refl _) (Nat.le_refl _))
theorem dAL_cut_0 : ([(0, .aload 5, 2, 2), (2, .iconst 0, 1, 3), (3, .aload_n 0, 1, 4), (4, .iload_n 1, 1, 5), (5, .iload_n 2, 1, 6), (6, .iload_n 3, 1, 7), (7, .iload 4, 2, 9), (9, .invokevirtual 25, 3, 12), (12, .i2l, 1, 13), (13, .lastore, 1, 14), (14, .goto 11, 3, 17), (17, .astore 6, 2, 19), (19, .iconst 1, 1, 20), (20, .ireturn, 1, 21), (21, .astore 6, 2, 23), (23, .iconst 2, 1, 24), (24, .ireturn, 1, 25), (25, .iconst 0, 1, 26), (26, .ireturn, 1, 27)] : List (Nat × Instr × Nat × Nat)).all (fun q => decide (decode method_6_code q.1 = .ok (q.2.1, q.2.2.1)) && q.2.2.2 == q.1 + q.2.2.1) = true := by decide +kernel
set_option maxHeartbeats 1000000 in
set_option maxRecDepth 100000 in
theorem c_L_cut (l : Launch) (hst : l.stackTraces = false) (w : Wl) (σ : St) (hk0 : w.2 0 0) (ho : w.2 18 0) (A : Ab) (hS : HS σ A) (hKW : KW w A.2.1) (p0 : Int) (hp0 : rI p0) (p1 : Int) (hp1 : rI p1) (p2 : Int) (hp2 : rI p2) (p3 : Int) (hp3 : rI p3) : Ch l yL_cut method_6_code 7 (Option.some Jvm.ClassFile.FieldType.int) [(0, 14, 17, 13), (0, 14, 21, 15)] 8 129 3 18 wI [.ref (w.1 0 0), .int (iI p0), .int (iI p1), .int (iI p2), .int (iI p3), .ref (w.1 18 0)] w σ (HQ w σ (fun r => f_cut A p0 p1 p2 p3 = r) pI) := by
  refine Ch.of (own := RL) (lv := [(0, .ref (w.1 0 0)), (1, .int (iI p0)), (2, .int (iI p1)), (3, .int (iI p2)), (4, .int (iI p3)), (5, .ref (w.1 18 0))]) (by decide +kernel) rfl (Nat.le_of_ble_eq_true rfl) rfl (fun X hX hxl hR htab hNc hcl hret => ?_)
  subst hxl
  have hX1 : (f_cut A p0 p1 p2 p3 = (1, 0, A)) → ∀ q, V X (3, 18) w 17 [(0, .ref (w.1 0 0)), (1, .int (iI p0)), (2, .int (iI p1)), (3, .int (iI p2)), (4, .int (iI p3)), (5, .ref (w.1 18 0))] σ [.ref q] := by
    intro hf q
    refine v_astore hX (lv' := [(6, .ref q), (0, .ref (w.1 0 0)), (1, .int (iI p0)), (2, .int (iI p1)), (3, .int (iI p2)), (4, .int (iI p3)), (5, .ref (w.1 18 0))]) (Nat.le_of_ble_eq_true rfl) rfl (atL dAL_cut_0 11 rfl) ?_
    refine v_iconst hX (atL dAL_cut_0 12 rfl) ?_
    exact v_iret hX (atL dAL_cut_0 13 rfl) (hret 1 w σ ⟨0, A, hf, hS, FMo.rf, fun e => absurd e (by decide), Wk.rf, hKW, by decide⟩ _ (Nat.le_refl _) (Nat.le_refl _))
  have hX2 : (f_cut A p0 p1 p2 p3 = (2, 0, A)) → ∀ q, V X (3, 18) w 21 [(0, .ref (w.1 0 0)), (1, .int (iI p0)), (2, .int (iI p1)), (3, .int (iI p2)), (4, .int (iI p3)), (5, .ref (w.1 18 0))] σ [.ref q] := by
    intro hf q
    refine v_astore hX (lv' := [(6, .ref q), (0, .ref (w.1 0 0)), (1, .int (iI p0)), (2, .int (iI p1)), (3, .int (iI p2)), (4, .int (iI p3)), (5, .ref (w.1 18 0))]) (Nat.le_of_ble_eq_true rfl) rfl (atL dAL_cut_0 14 rfl) ?_
    refine v_iconst hX (atL dAL_cut_0 15 rfl) ?_
    exact v_iret hX (atL dAL_cut_0 16 rfl) (hret 2 w σ ⟨0, A, hf, hS, FMo.rf, fun e => absurd e (by decide), Wk.rf, hKW, by decide⟩ _ (Nat.le_refl _) (Nat.le_refl _))
  refine v_aload hX 5 rfl (atL dAL_cut_0 0 rfl) ?_
  refine v_iconst hX (atL dAL_cut_0 1 rfl) ?_
  refine v_aload_n hX 0 rfl (atL dAL_cut_0 2 rfl) ?_
  refine v_iload_n hX 1 rfl (atL dAL_cut_0 3 rfl) ?_
  refine v_iload_n hX 2 rfl (atL dAL_cut_0 4 rfl) ?_
  refine v_iload_n hX 3 rfl (atL dAL_cut_0 5 rfl) ?_
  refine v_iload hX 4 rfl (atL dAL_cut_0 6 rfl) ?_
  refine v_callVTx hX (As := [.int (iI p0), .int (iI p1), .int (iI p2), .int (iI p3)]) (rest := [.int (iI 0), .ref (w.1 18 0)]) (c_X6_cut (xl X) hst w σ hk0 A hS p0 hp0 p1 hp1 p2 hp2 p3 hp3) lk_L_25 hk0 (fun _ => rfl) rfl rfl rfl (by rw [hR]; exact ⟨Nat.le_of_ble_eq_true rfl, Nat.le_of_ble_eq_true rfl⟩) (by rw [hR]; exact ⟨Nat.le_of_ble_eq_true rfl, Nat.le_of_ble_eq_true rfl⟩) rfl (Nat.le_of_ble_eq_true rfl) (atL dAL_cut_0 7 rfl) (fun E hE => ?_) (fun a σ1 hp1 => ?_)
  · rcases hE with ⟨rfl, hf⟩ | ⟨rfl, hf⟩
    · exact ⟨_, hc_I htab (by decide) (by decide), hX1 hf⟩
    · exact ⟨_, hc_A hX htab hNc (by decide) (by decide), hX2 hf⟩
  · obtain ⟨A1, hf, hS1, hM1⟩ := hp1
    have hWk : Wk w w := Wk.rf
    have hK1 : KW w A1.2.1 := by rw [show A1.2.1 = (f_cut A p0 p1 p2 p3).2.2.2.1 by rw [hf], kc_cut]; exact hKW
    show V X _ w _ _ σ1 [.int (iI a), .int (iI 0), .ref (w.1 18 0)]
    refine v_i2l hX (i2l_of a) (atL dAL_cut_0 8 rfl) ?_
    refine v_last hX (c := 15) (i := 0) 0 ho (by decide) (fun _ _ => rfl) rfl (by decide) (by decide) (atL dAL_cut_0 9 rfl) ?_
    refine v_goto hX (tgt := 25) (atL dAL_cut_0 10 rfl) (by decide) ?_
    refine v_iconst hX (atL dAL_cut_0 17 rfl) ?_
    exact v_iret hX (atL dAL_cut_0 18 rfl) (hret 0 w _ ⟨a, A1, hf, hS1.out, hM1.one.o.out, fun _ => su_s, hWk, hK1, by decide⟩ _ (Nat.le_refl _) (Nat.le_refl _))
theorem dAL_join_0 : ([(0, .aload 4, 2, 2), (2, .iconst 0, 1, 3), (3, .aload_n 0, 1, 4), (4, .iload_n 1, 1, 5), (5, .iload_n 2, 1, 6), (6, .iload_n 3, 1, 7), (7, .invokevirtual 29, 3, 10), (10, .i2l, 1, 11), (11, .lastore, 1, 12), (12, .goto 7, 3, 15), (15, .astore 5, 2, 17), (17, .iconst 1, 1, 18), (18, .ireturn, 1, 19), (19, .iconst 0, 1, 20), (20, .ireturn, 1, 21)] : List (Nat × Instr × Nat × Nat)).all (fun q => decide (decode method_7_code q.1 = .ok (q.2.1, q.2.2.1)) && q.2.2.2 == q.1 + q.2.2.1) = true := by decide +kernel
set_option maxHeartbeats 1000000 in
set_option maxRecDepth 100000 in
theorem c_L_join (l : Launch) (hst : l.stackTraces = false) (w : Wl) (σ : St) (hk0 : w.2 0 0) (ho : w.2 18 0) (A : Ab) (hS : HS σ A) (hKW : KW w A.2.1) (p0 : Int) (hp0 : rI p0) (p1 : Int) (hp1 : rI p1) (p2 : Int) (hp2 : rI p2) : Ch l yL_join method_7_code 6 (Option.some Jvm.ClassFile.FieldType.int) [(0, 12, 15, 13)] 8 129 3 18 wI [.ref (w.1 0 0), .int (iI p0), .int (iI p1), .int (iI p2), .ref (w.1 18 0)] w σ (HQ w σ (fun r => f_join A p0 p1 p2 = r) pI) := by
  refine Ch.of (own := RL) (lv := [(0, .ref (w.1 0 0)), (1, .int (iI p0)), (2, .int (iI p1)), (3, .int (iI p2)), (4, .ref (w.1 18 0))]) (by decide +kernel) rfl (Nat.le_of_ble_eq_true rfl) rfl (fun X hX hxl hR htab hNc hcl hret => ?_)
  subst hxl
  have hX1 : (f_join A p0 p1 p2 = (1, 0, A)) → ∀ q, V X (3, 18) w 15 [(0, .ref (w.1 0 0)), (1, .int (iI p0)), (2, .int (iI p1)), (3, .int (iI p2)), (4, .ref (w.1 18 0))] σ [.ref q] := by
    intro hf q
    refine v_astore hX (lv' := [(5, .ref q), (0, .ref (w.1 0 0)), (1, .int (iI p0)), (2, .int (iI p1)), (3, .int (iI p2)), (4, .ref (w.1 18 0))]) (Nat.le_of_ble_eq_true rfl) rfl (atL dAL_join_0 10 rfl) ?_
    refine v_iconst hX (atL dAL_join_0 11 rfl) ?_
    exact v_iret hX (atL dAL_join_0 12 rfl) (hret 1 w σ ⟨0, A, hf, hS, FMo.rf, fun e => absurd e (by decide), Wk.rf, hKW, by decide⟩ _ (Nat.le_refl _) (Nat.le_refl _))
  refine v_aload hX 4 rfl (atL dAL_join_0 0 rfl) ?_
  refine v_iconst hX (atL dAL_join_0 1 rfl) ?_
  refine v_aload_n hX 0 rfl (atL dAL_join_0 2 rfl) ?_
  refine v_iload_n hX 1 rfl (atL dAL_join_0 3 rfl) ?_
  refine v_iload_n hX 2 rfl (atL dAL_join_0 4 rfl) ?_
  refine v_iload_n hX 3 rfl (atL dAL_join_0 5 rfl) ?_
  refine v_callVTx hX (As := [.int (iI p0), .int (iI p1), .int (iI p2)]) (rest := [.int (iI 0), .ref (w.1 18 0)]) (c_X6_join (xl X) hst w σ hk0 A hS p0 hp0 p1 hp1 p2 hp2) lk_L_29 hk0 (fun _ => rfl) rfl rfl rfl (by rw [hR]; exact ⟨Nat.le_of_ble_eq_true rfl, Nat.le_of_ble_eq_true rfl⟩) (by rw [hR]; exact ⟨Nat.le_of_ble_eq_true rfl, Nat.le_of_ble_eq_true rfl⟩) rfl (Nat.le_of_ble_eq_true rfl) (atL dAL_join_0 6 rfl) (fun E hE => ?_) (fun a σ1 hp1 => ?_)
  · rcases hE with ⟨rfl, hf⟩ | ⟨rfl, hf⟩
    · exact ⟨_, hc_I htab (by decide) (by decide), hX1 hf⟩
    · exact absurd hf no2_join
  · obtain ⟨A1, hf, hS1, hM1⟩ := hp1
    have hWk : Wk w w := Wk.rf
    have hK1 : KW w A1.2.1 := by rw [show A1.2.1 = (f_join A p0 p1 p2).2.2.2.1 by rw [hf], kc_join]; exact hKW
    show V X _ w _ _ σ1 [.int (iI a), .int (iI 0), .ref (w.1 18 0)]
    refine v_i2l hX (i2l_of a) (atL dAL_join_0 7 rfl) ?_
    refine v_last hX (c := 15) (i := 0) 0 ho (by decide) (fun _ _ => rfl) rfl (by decide) (by decide) (atL dAL_join_0 8 rfl) ?_
    refine v_goto hX (tgt := 19) (atL dAL_join_0 9 rfl) (by decide) ?_
    refine v_iconst hX (atL dAL_join_0 13 rfl) ?_
    exact v_iret hX (atL dAL_join_0 14 rfl) (hret 0 w _ ⟨a, A1, hf, hS1.out, hM1.one.o.out, fun _ => su_s, hWk, hK1, by decide⟩ _ (Nat.le_refl _) (Nat.le_refl _))
theorem dAL_change_0 : ([(0, .aload 4, 2, 2), (2, .iconst 0, 1, 3), (3, .aload_n 0, 1, 4), (4, .iload_n 1, 1, 5), (5, .iload_n 2, 1, 6), (6, .iload_n 3, 1, 7), (7, .invokevirtual 33, 3, 10), (10, .i2l, 1, 11), (11, .lastore, 1, 12), (12, .goto 11, 3, 15), (15, .astore 5, 2, 17), (17, .iconst 1, 1, 18), (18, .ireturn, 1, 19), (19, .astore 5, 2, 21), (21, .iconst 2, 1, 22), (22, .ireturn, 1, 23), (23, .iconst 0, 1, 24), (24, .ireturn, 1, 25)] : List (Nat × Instr × Nat × Nat)).all (fun q => decide (decode method_8_code q.1 = .ok (q.2.1, q.2.2.1)) && q.2.2.2 == q.1 + q.2.2.1) = true := by decide +kernel
set_option maxHeartbeats 1000000 in
set_option maxRecDepth 100000 in
theorem c_L_change (l : Launch) (hst : l.stackTraces = false) (w : Wl) (σ : St) (hk0 : w.2 0 0) (ho : w.2 18 0) (A : Ab) (hS : HS σ A) (hKW : KW w A.2.1) (p0 : Int) (hp0 : rI p0) (p1 : Int) (hp1 : rI p1) (p2 : Int) (hp2 : rI p2) : Ch l yL_change method_8_code 6 (Option.some Jvm.ClassFile.FieldType.int) [(0, 12, 15, 13), (0, 12, 19, 15)] 8 128 2 12 wI [.ref (w.1 0 0), .int (iI p0), .int (iI p1), .int (iI p2), .ref (w.1 18 0)] w σ (HQ w σ (fun r => f_change A p0 p1 p2 = r) pI) := by
  refine Ch.of (own := RL) (lv := [(0, .ref (w.1 0 0)), (1, .int (iI p0)), (2, .int (iI p1)), (3, .int (iI p2)), (4, .ref (w.1 18 0))]) (by decide +kernel) rfl (Nat.le_of_ble_eq_true rfl) rfl (fun X hX hxl hR htab hNc hcl hret => ?_)
  subst hxl
  have hX1 : (f_change A p0 p1 p2 = (1, 0, A)) → ∀ q, V X (2, 12) w 15 [(0, .ref (w.1 0 0)), (1, .int (iI p0)), (2, .int (iI p1)), (3, .int (iI p2)), (4, .ref (w.1 18 0))] σ [.ref q] := by
    intro hf q
    refine v_astore hX (lv' := [(5, .ref q), (0, .ref (w.1 0 0)), (1, .int (iI p0)), (2, .int (iI p1)), (3, .int (iI p2)), (4, .ref (w.1 18 0))]) (Nat.le_of_ble_eq_true rfl) rfl (atL dAL_change_0 10 rfl) ?_
    refine v_iconst hX (atL dAL_change_0 11 rfl) ?_
    exact v_iret hX (atL dAL_change_0 12 rfl) (hret 1 w σ ⟨0, A, hf, hS, FMo.rf, fun e => absurd e (by decide), Wk.rf, hKW, by decide⟩ _ (Nat.le_refl _) (Nat.le_refl _))
  have hX2 : (f_change A p0 p1 p2 = (2, 0, A)) → ∀ q, V X (2, 12) w 19 [(0, .ref (w.1 0 0)), (1, .int (iI p0)), (2, .int (iI p1)), (3, .int (iI p2)), (4, .ref (w.1 18 0))] σ [.ref q] := by
    intro hf q
    refine v_astore hX (lv' := [(5, .ref q), (0, .ref (w.1 0 0)), (1, .int (iI p0)), (2, .int (iI p1)), (3, .int (iI p2)), (4, .ref (w.1 18 0))]) (Nat.le_of_ble_eq_true rfl) rfl (atL dAL_change_0 13 rfl) ?_
    refine v_iconst hX (atL dAL_change_0 14 rfl) ?_
    exact v_iret hX (atL dAL_change_0 15 rfl) (hret 2 w σ ⟨0, A, hf, hS, FMo.rf, fun e => absurd e (by decide), Wk.rf, hKW, by decide⟩ _ (Nat.le_refl _) (Nat.le_refl _))
  refine v_aload hX 4 rfl (atL dAL_change_0 0 rfl) ?_
  refine v_iconst hX (atL dAL_change_0 1 rfl) ?_
  refine v_aload_n hX 0 rfl (atL dAL_change_0 2 rfl) ?_
  refine v_iload_n hX 1 rfl (atL dAL_change_0 3 rfl) ?_
  refine v_iload_n hX 2 rfl (atL dAL_change_0 4 rfl) ?_
  refine v_iload_n hX 3 rfl (atL dAL_change_0 5 rfl) ?_
  refine v_callVTx hX (As := [.int (iI p0), .int (iI p1), .int (iI p2)]) (rest := [.int (iI 0), .ref (w.1 18 0)]) (c_X6_change (xl X) hst w σ hk0 A hS p0 hp0 p1 hp1 p2 hp2) lk_L_33 hk0 (fun _ => rfl) rfl rfl rfl (by rw [hR]; exact ⟨Nat.le_of_ble_eq_true rfl, Nat.le_of_ble_eq_true rfl⟩) (by rw [hR]; exact ⟨Nat.le_of_ble_eq_true rfl, Nat.le_of_ble_eq_true rfl⟩) rfl (Nat.le_of_ble_eq_true rfl) (atL dAL_change_0 6 rfl) (fun E hE => ?_) (fun a σ1 hp1 => ?_)
  · rcases hE with ⟨rfl, hf⟩ | ⟨rfl, hf⟩
    · exact ⟨_, hc_I htab (by decide) (by decide), hX1 hf⟩
    · exact ⟨_, hc_A hX htab hNc (by decide) (by decide), hX2 hf⟩
  · obtain ⟨A1, hf, hS1, hM1⟩ := hp1
    have hWk : Wk w w := Wk.rf
    have hK1 : KW w A1.2.1 := by rw [show A1.2.1 = (f_change A p0 p1 p2).2.2.2.1 by rw [hf], kc_change]; exact hKW
    show V X _ w _ _ σ1 [.int (iI a), .int (iI 0), .ref (w.1 18 0)]
    refine v_i2l hX (i2l_of a) (atL dAL_change_0 7 rfl) ?_
    refine v_last hX (c := 15) (i := 0) 0 ho (by decide) (fun _ _ => rfl) rfl (by decide) (by decide) (atL dAL_change_0 8 rfl) ?_
    refine v_goto hX (tgt := 23) (atL dAL_change_0 9 rfl) (by decide) ?_
    refine v_iconst hX (atL dAL_change_0 16 rfl) ?_
    exact v_iret hX (atL dAL_change_0 17 rfl) (hret 0 w _ ⟨a, A1, hf, hS1.out, hM1.one.o.out, fun _ => su_s, hWk, hK1, by decide⟩ _ (Nat.le_refl _) (Nat.le_refl _))
theorem dAL_calc_0 : ([(0, .aload 6, 2, 2), (2, .iconst 0, 1, 3), (3, .aload_n 0, 1, 4), (4, .iload_n 1, 1, 5), (5, .iload_n 2, 1, 6), (6, .iload_n 3, 1, 7), (7, .iload 4, 2, 9), (9, .iload 5, 2, 11), (11, .invokevirtual 36, 3, 14), (14, .i2l, 1, 15), (15, .lastore, 1, 16), (16, .goto 11, 3, 19), (19, .astore 7, 2, 21), (21, .iconst 1, 1, 22), (22, .ireturn, 1, 23), (23, .astore 7, 2, 25), (25, .iconst 2, 1, 26), (26, .ireturn, 1, 27), (27, .iconst 0, 1, 28), (28, .ireturn, 1, 29)] : List (Nat × Instr × Nat × Nat)).all (fun q => decide (decode method_9_code q.1 = .ok (q.2.1, q.2.2.1)) && q.2.2.2 == q.1 + q.2.2.1) = true := by decide +kernel
set_option maxHeartbeats 1000000 in
set_option maxRecDepth 100000 in
theorem c_L_calc (l : Launch) (hst : l.stackTraces = false) (w : Wl) (σ : St) (hk0 : w.2 0 0) (ho : w.2 18 0) (A : Ab) (hS : HS σ A) (hKW : KW w A.2.1) (p0 : Int) (hp0 : rI p0) (p1 : Int) (hp1 : rI p1) (p2 : Int) (hp2 : rI p2) (p3 : Int) (hp3 : rI p3) (p4 : Int) (hp4 : rI p4) : Ch l yL_calc method_9_code 8 (Option.some Jvm.ClassFile.FieldType.int) [(0, 16, 19, 13), (0, 16, 23, 15)] 8 185 5 30 wI [.ref (w.1 0 0), .int (iI p0), .int (iI p1), .int (iI p2), .int (iI p3), .int (iI p4), .ref (w.1 18 0)] w σ (HQ w σ (fun r => f_calc A p0 p1 p2 p3 p4 = r) pI) := by
  refine Ch.of (own := RL) (lv := [(0, .ref (w.1 0 0)), (1, .int (iI p0)), (2, .int (iI p1)), (3, .int (iI p2)), (4, .int (iI p3)), (5, .int (iI p4)), (6, .ref (w.1 18 0))]) (by decide +kernel) rfl (Nat.le_of_ble_eq_true rfl) rfl (fun X hX hxl hR htab hNc hcl hret => ?_)
  subst hxl
  have hX1 : (f_calc A p0 p1 p2 p3 p4 = (1, 0, A)) → ∀ q, V X (5, 30) w 19 [(0, .ref (w.1 0 0)), (1, .int (iI p0)), (2, .int (iI p1)), (3, .int (iI p2)), (4, .int (iI p3)), (5, .int (iI p4)), (6, .ref (w.1 18 0))] σ [.ref q] := by
    intro hf q
    refine v_astore hX (lv' := [(7, .ref q), (0, .ref (w.1 0 0)), (1, .int (iI p0)), (2, .int (iI p1)), (3, .int (iI p2)), (4, .int (iI p3)), (5, .int (iI p4)), (6, .ref (w.1 18 0))]) (Nat.le_of_ble_eq_true rfl) rfl (atL dAL_calc_0 12 rfl) ?_
    refine v_iconst hX (atL dAL_calc_0 13 rfl) ?_
    exact v_iret hX (atL dAL_calc_0 14 rfl) (hret 1 w σ ⟨0, A, hf, hS, FMo.rf, fun e => absurd e (by decide), Wk.rf, hKW, by decide⟩ _ (Nat.le_refl _) (Nat.le_refl _))
  have hX2 : (f_calc A p0 p1 p2 p3 p4 = (2, 0, A)) → ∀ q, V X (5, 30) w 23 [(0, .ref (w.1 0 0)), (1, .int (iI p0)), (2, .int (iI p1)), (3, .int (iI p2)), (4, .int (iI p3)), (5, .int (iI p4)), (6, .ref (w.1 18 0))] σ [.ref q] := by
    intro hf q
    refine v_astore hX (lv' := [(7, .ref q), (0, .ref (w.1 0 0)), (1, .int (iI p0)), (2, .int (iI p1)), (3, .int (iI p2)), (4, .int (iI p3)), (5, .int (iI p4)), (6, .ref (w.1 18 0))]) (Nat.le_of_ble_eq_true rfl) rfl (atL dAL_calc_0 15 rfl) ?_
    refine v_iconst hX (atL dAL_calc_0 16 rfl) ?_
    exact v_iret hX (atL dAL_calc_0 17 rfl) (hret 2 w σ ⟨0, A, hf, hS, FMo.rf, fun e => absurd e (by decide), Wk.rf, hKW, by decide⟩ _ (Nat.le_refl _) (Nat.le_refl _))
  refine v_aload hX 6 rfl (atL dAL_calc_0 0 rfl) ?_
  refine v_iconst hX (atL dAL_calc_0 1 rfl) ?_
  refine v_aload_n hX 0 rfl (atL dAL_calc_0 2 rfl) ?_
  refine v_iload_n hX 1 rfl (atL dAL_calc_0 3 rfl) ?_
  refine v_iload_n hX 2 rfl (atL dAL_calc_0 4 rfl) ?_
  refine v_iload_n hX 3 rfl (atL dAL_calc_0 5 rfl) ?_
  refine v_iload hX 4 rfl (atL dAL_calc_0 6 rfl) ?_
  refine v_iload hX 5 rfl (atL dAL_calc_0 7 rfl) ?_
  refine v_callVTx hX (As := [.int (iI p0), .int (iI p1), .int (iI p2), .int (iI p3), .int (iI p4)]) (rest := [.int (iI 0), .ref (w.1 18 0)]) (c_X6_calc (xl X) hst w σ hk0 A hS p0 hp0 p1 hp1 p2 hp2 p3 hp3 p4 hp4) lk_L_36 hk0 (fun _ => rfl) rfl rfl rfl (by rw [hR]; exact ⟨Nat.le_of_ble_eq_true rfl, Nat.le_of_ble_eq_true rfl⟩) (by rw [hR]; exact ⟨Nat.le_of_ble_eq_true rfl, Nat.le_of_ble_eq_true rfl⟩) rfl (Nat.le_of_ble_eq_true rfl) (atL dAL_calc_0 8 rfl) (fun E hE => ?_) (fun a σ1 hp1 => ?_)
  · rcases hE with ⟨rfl, hf⟩ | ⟨rfl, hf⟩
    · exact ⟨_, hc_I htab (by decide) (by decide), hX1 hf⟩
    · exact ⟨_, hc_A hX htab hNc (by decide) (by decide), hX2 hf⟩
  · obtain ⟨A1, hf, hS1, hM1⟩ := hp1
    have hWk : Wk w w := Wk.rf
    have hK1 : KW w A1.2.1 := by rw [show A1.2.1 = (f_calc A p0 p1 p2 p3 p4).2.2.2.1 by rw [hf], kc_calc]; exact hKW
    show V X _ w _ _ σ1 [.int (iI a), .int (iI 0), .ref (w.1 18 0)]
    refine v_i2l hX (i2l_of a) (atL dAL_calc_0 9 rfl) ?_
    refine v_last hX (c := 15) (i := 0) 0 ho (by decide) (fun _ _ => rfl) rfl (by decide) (by decide) (atL dAL_calc_0 10 rfl) ?_
    refine v_goto hX (tgt := 27) (atL dAL_calc_0 11 rfl) (by decide) ?_
    refine v_iconst hX (atL dAL_calc_0 18 rfl) ?_
    exact v_iret hX (atL dAL_calc_0 19 rfl) (hret 0 w _ ⟨a, A1, hf, hS1.out, hM1.one.o.out, fun _ => su_s, hWk, hK1, by decide⟩ _ (Nat.le_refl _) (Nat.le_refl _))
theorem dAL_compare_0 : ([(0, .aload_n 3, 1, 1), (1, .iconst 0, 1, 2), (2, .aload_n 0, 1, 3), (3, .iload_n 1, 1, 4), (4, .iload_n 2, 1, 5), (5, .invokevirtual 40, 3, 8), (8, .i2l, 1, 9), (9, .lastore, 1, 10), (10, .goto 7, 3, 13), (13, .astore 4, 2, 15), (15, .iconst 1, 1, 16), (16, .ireturn, 1, 17), (17, .iconst 0, 1, 18), (18, .ireturn, 1, 19)] : List (Nat × Instr × Nat × Nat)).all (fun q => decide (decode method_10_code q.1 = .ok (q.2.1, q.2.2.1)) && q.2.2.2 == q.1 + q.2.2.1) = true := by decide +kernel
set_option maxHeartbeats 1000000 in
set_option maxRecDepth 100000 in
theorem c_L_compare (l : Launch) (hst : l.stackTraces = false) (w : Wl) (σ : St) (hk0 : w.2 0 0) (ho : w.2 18 0) (A : Ab) (hS : HS σ A) (hKW : KW w A.2.1) (p0 : Int) (hp0 : rI p0) (p1 : Int) (hp1 : rI p1) : Ch l yL_compare method_10_code 5 (Option.some Jvm.ClassFile.FieldType.int) [(0, 10, 13, 13)] 8 127 2 12 wI [.ref (w.1 0 0), .int (iI p0), .int (iI p1), .ref (w.1 18 0)] w σ (HQ w σ (fun r => f_compare A p0 p1 = r) pI) := by
  refine Ch.of (own := RL) (lv := [(0, .ref (w.1 0 0)), (1, .int (iI p0)), (2, .int (iI p1)), (3, .ref (w.1 18 0))]) (by decide +kernel) rfl (Nat.le_of_ble_eq_true rfl) rfl (fun X hX hxl hR htab hNc hcl hret => ?_)
  subst hxl
  have hX1 : (f_compare A p0 p1 = (1, 0, A)) → ∀ q, V X (2, 12) w 13 [(0, .ref (w.1 0 0)), (1, .int (iI p0)), (2, .int (iI p1)), (3, .ref (w.1 18 0))] σ [.ref q] := by
    intro hf q
    refine v_astore hX (lv' := [(4, .ref q), (0, .ref (w.1 0 0)), (1, .int (iI p0)), (2, .int (iI p1)), (3, .ref (w.1 18 0))]) (Nat.le_of_ble_eq_true rfl) rfl (atL dAL_compare_0 9 rfl) ?_
    refine v_iconst hX (atL dAL_compare_0 10 rfl) ?_
    exact v_iret hX (atL dAL_compare_0 11 rfl) (hret 1 w σ ⟨0, A, hf, hS, FMo.rf, fun e => absurd e (by decide), Wk.rf, hKW, by decide⟩ _ (Nat.le_refl _) (Nat.le_refl _))
  refine v_aload_n hX 3 rfl (atL dAL_compare_0 0 rfl) ?_
  refine v_iconst hX (atL dAL_compare_0 1 rfl) ?_
  refine v_aload_n hX 0 rfl (atL dAL_compare_0 2 rfl) ?_
  refine v_iload_n hX 1 rfl (atL dAL_compare_0 3 rfl) ?_
  refine v_iload_n hX 2 rfl (atL dAL_compare_0 4 rfl) ?_
  refine v_callVTx hX (As := [.int (iI p0), .int (iI p1)]) (rest := [.int (iI 0), .ref (w.1 18 0)]) (c_X6_compare (xl X) hst w σ hk0 A hS p0 hp0 p1 hp1) lk_L_40 hk0 (fun _ => rfl) rfl rfl rfl (by rw [hR]; exact ⟨Nat.le_of_ble_eq_true rfl, Nat.le_of_ble_eq_true rfl⟩) (by rw [hR]; exact ⟨Nat.le_of_ble_eq_true rfl, Nat.le_of_ble_eq_true rfl⟩) rfl (Nat.le_of_ble_eq_true rfl) (atL dAL_compare_0 5 rfl) (fun E hE => ?_) (fun a σ1 hp1 => ?_)
  · rcases hE with ⟨rfl, hf⟩ | ⟨rfl, hf⟩
    · exact ⟨_, hc_I htab (by decide) (by decide), hX1 hf⟩
    · exact absurd hf no2_compare
  · obtain ⟨A1, hf, hS1, hM1⟩ := hp1
    have hWk : Wk w w := Wk.rf
    have hK1 : KW w A1.2.1 := by rw [show A1.2.1 = (f_compare A p0 p1).2.2.2.1 by rw [hf], kc_compare]; exact hKW
    show V X _ w _ _ σ1 [.int (iI a), .int (iI 0), .ref (w.1 18 0)]
    refine v_i2l hX (i2l_of a) (atL dAL_compare_0 6 rfl) ?_
    refine v_last hX (c := 15) (i := 0) 0 ho (by decide) (fun _ _ => rfl) rfl (by decide) (by decide) (atL dAL_compare_0 7 rfl) ?_
    refine v_goto hX (tgt := 17) (atL dAL_compare_0 8 rfl) (by decide) ?_
    refine v_iconst hX (atL dAL_compare_0 12 rfl) ?_
    exact v_iret hX (atL dAL_compare_0 13 rfl) (hret 0 w _ ⟨a, A1, hf, hS1.out, hM1.one.o.out, fun _ => su_s, hWk, hK1, by decide⟩ _ (Nat.le_refl _) (Nat.le_refl _))
theorem dAL_bits_0 : ([(0, .aload_n 2, 1, 1), (1, .iconst 0, 1, 2), (2, .aload_n 0, 1, 3), (3, .iload_n 1, 1, 4), (4, .invokevirtual 43, 3, 7), (7, .i2l, 1, 8), (8, .lastore, 1, 9), (9, .goto 6, 3, 12), (12, .astore_n 3, 1, 13), (13, .iconst 1, 1, 14), (14, .ireturn, 1, 15), (15, .iconst 0, 1, 16), (16, .ireturn, 1, 17)] : List (Nat × Instr × Nat × Nat)).all (fun q => decide (decode method_11_code q.1 = .ok (q.2.1, q.2.2.1)) && q.2.2.2 == q.1 + q.2.2.1) = true := by decide +kernel
set_option maxHeartbeats 1000000 in
set_option maxRecDepth 100000 in
theorem c_L_bits (l : Launch) (hst : l.stackTraces = false) (w : Wl) (σ : St) (hk0 : w.2 0 0) (ho : w.2 18 0) (A : Ab) (hS : HS σ A) (hKW : KW w A.2.1) (p0 : Int) (hp0 : rI p0) : Ch l yL_bits method_11_code 4 (Option.some Jvm.ClassFile.FieldType.int) [(0, 9, 12, 13)] 8 124 1 6 wI [.ref (w.1 0 0), .int (iI p0), .ref (w.1 18 0)] w σ (HQ w σ (fun r => f_bits A p0 = r) pI) := by
  refine Ch.of (own := RL) (lv := [(0, .ref (w.1 0 0)), (1, .int (iI p0)), (2, .ref (w.1 18 0))]) (by decide +kernel) rfl (Nat.le_of_ble_eq_true rfl) rfl (fun X hX hxl hR htab hNc hcl hret => ?_)
  subst hxl
  have hX1 : (f_bits A p0 = (1, 0, A)) → ∀ q, V X (1, 6) w 12 [(0, .ref (w.1 0 0)), (1, .int (iI p0)), (2, .ref (w.1 18 0))] σ [.ref q] := by
    intro hf q
    refine v_astore_n hX (i := 3) rfl (lv' := [(3, .ref q), (0, .ref (w.1 0 0)), (1, .int (iI p0)), (2, .ref (w.1 18 0))]) (Nat.le_of_ble_eq_true rfl) rfl (atL dAL_bits_0 8 rfl) ?_
    refine v_iconst hX (atL dAL_bits_0 9 rfl) ?_
    exact v_iret hX (atL dAL_bits_0 10 rfl) (hret 1 w σ ⟨0, A, hf, hS, FMo.rf, fun e => absurd e (by decide), Wk.rf, hKW, by decide⟩ _ (Nat.le_refl _) (Nat.le_refl _))
  refine v_aload_n hX 2 rfl (atL dAL_bits_0 0 rfl) ?_
  refine v_iconst hX (atL dAL_bits_0 1 rfl) ?_
  refine v_aload_n hX 0 rfl (atL dAL_bits_0 2 rfl) ?_
  refine v_iload_n hX 1 rfl (atL dAL_bits_0 3 rfl) ?_
  refine v_callVTx hX (As := [.int (iI p0)]) (rest := [.int (iI 0), .ref (w.1 18 0)]) (c_X6_bits (xl X) hst w σ hk0 A hS p0 hp0) lk_L_43 hk0 (fun _ => rfl) rfl rfl rfl (by rw [hR]; exact ⟨Nat.le_of_ble_eq_true rfl, Nat.le_of_ble_eq_true rfl⟩) (by rw [hR]; exact ⟨Nat.le_of_ble_eq_true rfl, Nat.le_of_ble_eq_true rfl⟩) rfl (Nat.le_of_ble_eq_true rfl) (atL dAL_bits_0 4 rfl) (fun E hE => ?_) (fun a σ1 hp1 => ?_)
  · rcases hE with ⟨rfl, hf⟩ | ⟨rfl, hf⟩
    · exact ⟨_, hc_I htab (by decide) (by decide), hX1 hf⟩
    · exact absurd hf no2_bits
  · obtain ⟨A1, hf, hS1, hM1⟩ := hp1
    have hWk : Wk w w := Wk.rf
    have hK1 : KW w A1.2.1 := by rw [show A1.2.1 = (f_bits A p0).2.2.2.1 by rw [hf], kc_bits]; exact hKW
    show V X _ w _ _ σ1 [.int (iI a), .int (iI 0), .ref (w.1 18 0)]
    refine v_i2l hX (i2l_of a) (atL dAL_bits_0 5 rfl) ?_
    refine v_last hX (c := 15) (i := 0) 0 ho (by decide) (fun _ _ => rfl) rfl (by decide) (by decide) (atL dAL_bits_0 6 rfl) ?_
    refine v_goto hX (tgt := 15) (atL dAL_bits_0 7 rfl) (by decide) ?_
    refine v_iconst hX (atL dAL_bits_0 11 rfl) ?_
    exact v_iret hX (atL dAL_bits_0 12 rfl) (hret 0 w _ ⟨a, A1, hf, hS1.out, hM1.one.o.out, fun _ => su_s, hWk, hK1, by decide⟩ _ (Nat.le_refl _) (Nat.le_refl _))
theorem dAL_probable_0 : ([(0, .aload_n 2, 1, 1), (1, .iconst 0, 1, 2), (2, .aload_n 0, 1, 3), (3, .iload_n 1, 1, 4), (4, .invokevirtual 46, 3, 7), (7, .ifCond .eq 7, 3, 10), (10, .lconst 1, 1, 11), (11, .goto 4, 3, 14), (14, .lconst 0, 1, 15), (15, .lastore, 1, 16), (16, .goto 6, 3, 19), (19, .astore_n 3, 1, 20), (20, .iconst 1, 1, 21), (21, .ireturn, 1, 22), (22, .iconst 0, 1, 23), (23, .ireturn, 1, 24)] : List (Nat × Instr × Nat × Nat)).all (fun q => decide (decode method_12_code q.1 = .ok (q.2.1, q.2.2.1)) && q.2.2.2 == q.1 + q.2.2.1) = true := by decide +kernel
set_option maxHeartbeats 1000000 in
set_option maxRecDepth 100000 in
theorem c_L_probable (l : Launch) (hst : l.stackTraces = false) (w : Wl) (σ : St) (hk0 : w.2 0 0) (ho : w.2 18 0) (A : Ab) (hS : HS σ A) (hKW : KW w A.2.1) (p0 : Int) (hp0 : rI p0) : Ch l yL_probable method_12_code 4 (Option.some Jvm.ClassFile.FieldType.int) [(0, 16, 19, 13)] 8 159 1 6 wI [.ref (w.1 0 0), .int (iI p0), .ref (w.1 18 0)] w σ (HQ w σ (f_probable A p0) pZ) := by
  refine Ch.of (own := RL) (lv := [(0, .ref (w.1 0 0)), (1, .int (iI p0)), (2, .ref (w.1 18 0))]) (by decide +kernel) rfl (Nat.le_of_ble_eq_true rfl) rfl (fun X hX hxl hR htab hNc hcl hret => ?_)
  subst hxl
  have hX1 : (f_probable A p0 (1, 0, A)) → ∀ q, V X (1, 6) w 19 [(0, .ref (w.1 0 0)), (1, .int (iI p0)), (2, .ref (w.1 18 0))] σ [.ref q] := by
    intro hf q
    refine v_astore_n hX (i := 3) rfl (lv' := [(3, .ref q), (0, .ref (w.1 0 0)), (1, .int (iI p0)), (2, .ref (w.1 18 0))]) (Nat.le_of_ble_eq_true rfl) rfl (atL dAL_probable_0 11 rfl) ?_
    refine v_iconst hX (atL dAL_probable_0 12 rfl) ?_
    exact v_iret hX (atL dAL_probable_0 13 rfl) (hret 1 w σ ⟨0, A, hf, hS, FMo.rf, fun e => absurd e (by decide), Wk.rf, hKW, by decide⟩ _ (Nat.le_refl _) (Nat.le_refl _))
  refine v_aload_n hX 2 rfl (atL dAL_probable_0 0 rfl) ?_
  refine v_iconst hX (atL dAL_probable_0 1 rfl) ?_
  refine v_aload_n hX 0 rfl (atL dAL_probable_0 2 rfl) ?_
  refine v_iload_n hX 1 rfl (atL dAL_probable_0 3 rfl) ?_
  refine v_callVTx hX (As := [.int (iI p0)]) (rest := [.int (iI 0), .ref (w.1 18 0)]) (c_X6_probable (xl X) hst w σ hk0 A hS p0 hp0) lk_L_46 hk0 (fun _ => rfl) rfl rfl rfl (by rw [hR]; exact ⟨Nat.le_of_ble_eq_true rfl, Nat.le_of_ble_eq_true rfl⟩) (by rw [hR]; exact ⟨Nat.le_of_ble_eq_true rfl, Nat.le_of_ble_eq_true rfl⟩) rfl (Nat.le_of_ble_eq_true rfl) (atL dAL_probable_0 4 rfl) (fun E hE => ?_) (fun a σ1 hp1 => ?_)
  · rcases hE with ⟨rfl, hf⟩ | ⟨rfl, hf⟩
    · exact ⟨_, hc_I htab (by decide) (by decide), hX1 hf⟩
    · exact absurd hf no2_probable
  · obtain ⟨A1, hf, hS1, hM1⟩ := hp1
    have hWk : Wk w w := Wk.rf
    have hK1 : KW w A1.2.1 := by rw [show A1.2.1 = A.2.1 from kc_probable hf]; exact hKW
    have ha : a = 0 ∨ a = 1 := by rcases hf with ⟨-, e⟩ | ⟨-, b, e, g⟩; exact absurd (congrArg Prod.fst e) (by simp); have e2 : a = b := congrArg (fun r : Res => r.2.1) e; rcases g with g | g <;> omega
    show V X _ w _ _ σ1 [.int (iI a), .int (iI 0), .ref (w.1 18 0)]
    have q0 : V X (1, 6) w 15 [(0, .ref (w.1 0 0)), (1, .int (iI p0)), (2, .ref (w.1 18 0))] σ1 [.long (jI (oZ a)), .int (iI 0), .ref (w.1 18 0)] := by
      refine v_last hX (c := 15) (i := 0) 0 ho (by decide) (fun _ _ => rfl) rfl (by decide) (by decide) (atL dAL_probable_0 9 rfl) ?_
      refine v_goto hX (tgt := 22) (atL dAL_probable_0 10 rfl) (by decide) ?_
      refine v_iconst hX (atL dAL_probable_0 14 rfl) ?_
      exact v_iret hX (atL dAL_probable_0 15 rfl) (hret 0 w _ ⟨a, A1, hf, hS1.out, hM1.one.o.out, fun _ => su_s, hWk, hK1, by decide⟩ _ (Nat.le_refl _) (Nat.le_refl _))
    refine v_if_eq hX ⟨by omega, by omega⟩ (tgt := 14) (atL dAL_probable_0 5 rfl) (by decide) (fun h7 => ?_) (fun h7 => ?_)
    · refine v_lconst hX (atL dAL_probable_0 8 rfl) ?_
      have e : oZ a = 0 := if_pos h7
      rw [e] at q0
      exact q0
    · refine v_lconst hX (atL dAL_probable_0 6 rfl) ?_
      refine v_goto hX (tgt := 15) (atL dAL_probable_0 7 rfl) (by decide) ?_
      have e : oZ a = 1 := if_neg h7
      rw [e] at q0
      exact q0
theorem dAL_next_0 : ([(0, .aload_n 3, 1, 1), (1, .iconst 0, 1, 2), (2, .aload_n 0, 1, 3), (3, .iload_n 1, 1, 4), (4, .iload_n 2, 1, 5), (5, .invokevirtual 50, 3, 8), (8, .i2l, 1, 9), (9, .lastore, 1, 10), (10, .goto 7, 3, 13), (13, .astore 4, 2, 15), (15, .iconst 1, 1, 16), (16, .ireturn, 1, 17), (17, .iconst 0, 1, 18), (18, .ireturn, 1, 19)] : List (Nat × Instr × Nat × Nat)).all (fun q => decide (decode method_13_code q.1 = .ok (q.2.1, q.2.2.1)) && q.2.2.2 == q.1 + q.2.2.1) = true := by decide +kernel
set_option maxHeartbeats 1000000 in
set_option maxRecDepth 100000 in
theorem c_L_next (l : Launch) (hst : l.stackTraces = false) (w : Wl) (σ : St) (hk0 : w.2 0 0) (ho : w.2 18 0) (A : Ab) (hS : HS σ A) (hKW : KW w A.2.1) (p0 : Int) (hp0 : rI p0) (p1 : Int) (hp1 : rI p1) : Ch l yL_next method_13_code 5 (Option.some Jvm.ClassFile.FieldType.int) [(0, 10, 13, 13)] 8 163 2 12 wI [.ref (w.1 0 0), .int (iI p0), .int (iI p1), .ref (w.1 18 0)] w σ (HQ w σ (f_next A p0 p1) pI) := by
  refine Ch.of (own := RL) (lv := [(0, .ref (w.1 0 0)), (1, .int (iI p0)), (2, .int (iI p1)), (3, .ref (w.1 18 0))]) (by decide +kernel) rfl (Nat.le_of_ble_eq_true rfl) rfl (fun X hX hxl hR htab hNc hcl hret => ?_)
  subst hxl
  have hX1 : (f_next A p0 p1 (1, 0, A)) → ∀ q, V X (2, 12) w 13 [(0, .ref (w.1 0 0)), (1, .int (iI p0)), (2, .int (iI p1)), (3, .ref (w.1 18 0))] σ [.ref q] := by
    intro hf q
    refine v_astore hX (lv' := [(4, .ref q), (0, .ref (w.1 0 0)), (1, .int (iI p0)), (2, .int (iI p1)), (3, .ref (w.1 18 0))]) (Nat.le_of_ble_eq_true rfl) rfl (atL dAL_next_0 9 rfl) ?_
    refine v_iconst hX (atL dAL_next_0 10 rfl) ?_
    exact v_iret hX (atL dAL_next_0 11 rfl) (hret 1 w σ ⟨0, A, hf, hS, FMo.rf, fun e => absurd e (by decide), Wk.rf, hKW, by decide⟩ _ (Nat.le_refl _) (Nat.le_refl _))
  refine v_aload_n hX 3 rfl (atL dAL_next_0 0 rfl) ?_
  refine v_iconst hX (atL dAL_next_0 1 rfl) ?_
  refine v_aload_n hX 0 rfl (atL dAL_next_0 2 rfl) ?_
  refine v_iload_n hX 1 rfl (atL dAL_next_0 3 rfl) ?_
  refine v_iload_n hX 2 rfl (atL dAL_next_0 4 rfl) ?_
  refine v_callVTx hX (As := [.int (iI p0), .int (iI p1)]) (rest := [.int (iI 0), .ref (w.1 18 0)]) (c_X6_next (xl X) hst w σ hk0 A hS p0 hp0 p1 hp1) lk_L_50 hk0 (fun _ => rfl) rfl rfl rfl (by rw [hR]; exact ⟨Nat.le_of_ble_eq_true rfl, Nat.le_of_ble_eq_true rfl⟩) (by rw [hR]; exact ⟨Nat.le_of_ble_eq_true rfl, Nat.le_of_ble_eq_true rfl⟩) rfl (Nat.le_of_ble_eq_true rfl) (atL dAL_next_0 5 rfl) (fun E hE => ?_) (fun a σ1 hp1 => ?_)
  · rcases hE with ⟨rfl, hf⟩ | ⟨rfl, hf⟩
    · exact ⟨_, hc_I htab (by decide) (by decide), hX1 hf⟩
    · exact absurd hf no2_next
  · obtain ⟨A1, hf, hS1, hM1⟩ := hp1
    have hWk : Wk w w := Wk.rf
    have hK1 : KW w A1.2.1 := by rw [show A1.2.1 = A.2.1 from kc_next hf]; exact hKW
    show V X _ w _ _ σ1 [.int (iI a), .int (iI 0), .ref (w.1 18 0)]
    refine v_i2l hX (i2l_of a) (atL dAL_next_0 6 rfl) ?_
    refine v_last hX (c := 15) (i := 0) 0 ho (by decide) (fun _ _ => rfl) rfl (by decide) (by decide) (atL dAL_next_0 7 rfl) ?_
    refine v_goto hX (tgt := 17) (atL dAL_next_0 8 rfl) (by decide) ?_
    refine v_iconst hX (atL dAL_next_0 12 rfl) ?_
    exact v_iret hX (atL dAL_next_0 13 rfl) (hret 0 w _ ⟨a, A1, hf, hS1.out, hM1.one.o.out, fun _ => su_s, hWk, hK1, by decide⟩ _ (Nat.le_refl _) (Nat.le_refl _))
theorem dAL_digest_0 : ([(0, .aload 4, 2, 2), (2, .iconst 0, 1, 3), (3, .aload_n 0, 1, 4), (4, .iload_n 1, 1, 5), (5, .iload_n 2, 1, 6), (6, .iload_n 3, 1, 7), (7, .invokevirtual 53, 3, 10), (10, .i2l, 1, 11), (11, .lastore, 1, 12), (12, .goto 11, 3, 15), (15, .astore 5, 2, 17), (17, .iconst 1, 1, 18), (18, .ireturn, 1, 19), (19, .astore 5, 2, 21), (21, .iconst 2, 1, 22), (22, .ireturn, 1, 23), (23, .iconst 0, 1, 24), (24, .ireturn, 1, 25)] : List (Nat × Instr × Nat × Nat)).all (fun q => decide (decode method_14_code q.1 = .ok (q.2.1, q.2.2.1)) && q.2.2.2 == q.1 + q.2.2.1) = true := by decide +kernel
set_option maxHeartbeats 1000000 in
set_option maxRecDepth 100000 in
theorem c_L_digest (l : Launch) (hst : l.stackTraces = false) (w : Wl) (σ : St) (hk0 : w.2 0 0) (ho : w.2 18 0) (A : Ab) (hS : HS σ A) (hKW : KW w A.2.1) (p0 : Int) (hp0 : rI p0) (p1 : Int) (hp1 : rI p1) (p2 : Int) (hp2 : rI p2) : Ch l yL_digest method_14_code 6 (Option.some Jvm.ClassFile.FieldType.int) [(0, 12, 15, 13), (0, 12, 19, 15)] 8 128 3 18 wI [.ref (w.1 0 0), .int (iI p0), .int (iI p1), .int (iI p2), .ref (w.1 18 0)] w σ (HQ w σ (fun r => f_digest A p0 p1 p2 = r) pI) := by
  refine Ch.of (own := RL) (lv := [(0, .ref (w.1 0 0)), (1, .int (iI p0)), (2, .int (iI p1)), (3, .int (iI p2)), (4, .ref (w.1 18 0))]) (by decide +kernel) rfl (Nat.le_of_ble_eq_true rfl) rfl (fun X hX hxl hR htab hNc hcl hret => ?_)
  subst hxl
  have hX1 : (f_digest A p0 p1 p2 = (1, 0, A)) → ∀ q, V X (3, 18) w 15 [(0, .ref (w.1 0 0)), (1, .int (iI p0)), (2, .int (iI p1)), (3, .int (iI p2)), (4, .ref (w.1 18 0))] σ [.ref q] := by
    intro hf q
    refine v_astore hX (lv' := [(5, .ref q), (0, .ref (w.1 0 0)), (1, .int (iI p0)), (2, .int (iI p1)), (3, .int (iI p2)), (4, .ref (w.1 18 0))]) (Nat.le_of_ble_eq_true rfl) rfl (atL dAL_digest_0 10 rfl) ?_
    refine v_iconst hX (atL dAL_digest_0 11 rfl) ?_
    exact v_iret hX (atL dAL_digest_0 12 rfl) (hret 1 w σ ⟨0, A, hf, hS, FMo.rf, fun e => absurd e (by decide), Wk.rf, hKW, by decide⟩ _ (Nat.le_refl _) (Nat.le_refl _))
  have hX2 : (f_digest A p0 p1 p2 = (2, 0, A)) → ∀ q, V X (3, 18) w 19 [(0, .ref (w.1 0 0)), (1, .int (iI p0)), (2, .int (iI p1)), (3, .int (iI p2)), (4, .ref (w.1 18 0))] σ [.ref q] := by
    intro hf q
    refine v_astore hX (lv' := [(5, .ref q), (0, .ref (w.1 0 0)), (1, .int (iI p0)), (2, .int (iI p1)), (3, .int (iI p2)), (4, .ref (w.1 18 0))]) (Nat.le_of_ble_eq_true rfl) rfl (atL dAL_digest_0 13 rfl) ?_
    refine v_iconst hX (atL dAL_digest_0 14 rfl) ?_
    exact v_iret hX (atL dAL_digest_0 15 rfl) (hret 2 w σ ⟨0, A, hf, hS, FMo.rf, fun e => absurd e (by decide), Wk.rf, hKW, by decide⟩ _ (Nat.le_refl _) (Nat.le_refl _))
  refine v_aload hX 4 rfl (atL dAL_digest_0 0 rfl) ?_
  refine v_iconst hX (atL dAL_digest_0 1 rfl) ?_
  refine v_aload_n hX 0 rfl (atL dAL_digest_0 2 rfl) ?_
  refine v_iload_n hX 1 rfl (atL dAL_digest_0 3 rfl) ?_
  refine v_iload_n hX 2 rfl (atL dAL_digest_0 4 rfl) ?_
  refine v_iload_n hX 3 rfl (atL dAL_digest_0 5 rfl) ?_
  refine v_callVTx hX (As := [.int (iI p0), .int (iI p1), .int (iI p2)]) (rest := [.int (iI 0), .ref (w.1 18 0)]) (c_X6_digest (xl X) hst w σ hk0 A hS p0 hp0 p1 hp1 p2 hp2) lk_L_53 hk0 (fun _ => rfl) rfl rfl rfl (by rw [hR]; exact ⟨Nat.le_of_ble_eq_true rfl, Nat.le_of_ble_eq_true rfl⟩) (by rw [hR]; exact ⟨Nat.le_of_ble_eq_true rfl, Nat.le_of_ble_eq_true rfl⟩) rfl (Nat.le_of_ble_eq_true rfl) (atL dAL_digest_0 6 rfl) (fun E hE => ?_) (fun a σ1 hp1 => ?_)
  · rcases hE with ⟨rfl, hf⟩ | ⟨rfl, hf⟩
    · exact ⟨_, hc_I htab (by decide) (by decide), hX1 hf⟩
    · exact ⟨_, hc_A hX htab hNc (by decide) (by decide), hX2 hf⟩
  · obtain ⟨A1, hf, hS1, hM1⟩ := hp1
    have hWk : Wk w w := Wk.rf
    have hK1 : KW w A1.2.1 := by rw [show A1.2.1 = (f_digest A p0 p1 p2).2.2.2.1 by rw [hf], kc_digest]; exact hKW
    show V X _ w _ _ σ1 [.int (iI a), .int (iI 0), .ref (w.1 18 0)]
    refine v_i2l hX (i2l_of a) (atL dAL_digest_0 7 rfl) ?_
    refine v_last hX (c := 15) (i := 0) 0 ho (by decide) (fun _ _ => rfl) rfl (by decide) (by decide) (atL dAL_digest_0 8 rfl) ?_
    refine v_goto hX (tgt := 23) (atL dAL_digest_0 9 rfl) (by decide) ?_
    refine v_iconst hX (atL dAL_digest_0 16 rfl) ?_
    exact v_iret hX (atL dAL_digest_0 17 rfl) (hret 0 w _ ⟨a, A1, hf, hS1.out, hM1.one.o.out, fun _ => su_s, hWk, hK1, by decide⟩ _ (Nat.le_refl _) (Nat.le_refl _))
theorem dAL_mask_0 : ([(0, .aload 5, 2, 2), (2, .iconst 0, 1, 3), (3, .aload_n 0, 1, 4), (4, .iload_n 1, 1, 5), (5, .iload_n 2, 1, 6), (6, .iload_n 3, 1, 7), (7, .iload 4, 2, 9), (9, .invokevirtual 56, 3, 12), (12, .i2l, 1, 13), (13, .lastore, 1, 14), (14, .goto 11, 3, 17), (17, .astore 6, 2, 19), (19, .iconst 1, 1, 20), (20, .ireturn, 1, 21), (21, .astore 6, 2, 23), (23, .iconst 2, 1, 24), (24, .ireturn, 1, 25), (25, .iconst 0, 1, 26), (26, .ireturn, 1, 27)] : List (Nat × Instr × Nat × Nat)).all (fun q => decide (decode method_15_code q.1 = .ok (q.2.1, q.2.2.1)) && q.2.2.2 == q.1 + q.2.2.1) = true := by decide +kernel
set_option maxHeartbeats 1000000 in
set_option maxRecDepth 100000 in
theorem c_L_mask (l : Launch) (hst : l.stackTraces = false) (w : Wl) (σ : St) (hk0 : w.2 0 0) (ho : w.2 18 0) (A : Ab) (hS : HS σ A) (hKW : KW w A.2.1) (p0 : Int) (hp0 : rI p0) (p1 : Int) (hp1 : rI p1) (p2 : Int) (hp2 : rI p2) (p3 : Int) (hp3 : rI p3) : Ch l yL_mask method_15_code 7 (Option.some Jvm.ClassFile.FieldType.int) [(0, 14, 17, 13), (0, 14, 21, 15)] 8 148 4 24 wI [.ref (w.1 0 0), .int (iI p0), .int (iI p1), .int (iI p2), .int (iI p3), .ref (w.1 18 0)] w σ (HQ w σ (fun r => f_mask A p0 p1 p2 p3 = r) pI) := by
  refine Ch.of (own := RL) (lv := [(0, .ref (w.1 0 0)), (1, .int (iI p0)), (2, .int (iI p1)), (3, .int (iI p2)), (4, .int (iI p3)), (5, .ref (w.1 18 0))]) (by decide +kernel) rfl (Nat.le_of_ble_eq_true rfl) rfl (fun X hX hxl hR htab hNc hcl hret => ?_)
  subst hxl
  have hX1 : (f_mask A p0 p1 p2 p3 = (1, 0, A)) → ∀ q, V X (4, 24) w 17 [(0, .ref (w.1 0 0)), (1, .int (iI p0)), (2, .int (iI p1)), (3, .int (iI p2)), (4, .int (iI p3)), (5, .ref (w.1 18 0))] σ [.ref q] := by
    intro hf q
    refine v_astore hX (lv' := [(6, .ref q), (0, .ref (w.1 0 0)), (1, .int (iI p0)), (2, .int (iI p1)), (3, .int (iI p2)), (4, .int (iI p3)), (5, .ref (w.1 18 0))]) (Nat.le_of_ble_eq_true rfl) rfl (atL dAL_mask_0 11 rfl) ?_
    refine v_iconst hX (atL dAL_mask_0 12 rfl) ?_
    exact v_iret hX (atL dAL_mask_0 13 rfl) (hret 1 w σ ⟨0, A, hf, hS, FMo.rf, fun e => absurd e (by decide), Wk.rf, hKW, by decide⟩ _ (Nat.le_refl _) (Nat.le_refl _))
  have hX2 : (f_mask A p0 p1 p2 p3 = (2, 0, A)) → ∀ q, V X (4, 24) w 21 [(0, .ref (w.1 0 0)), (1, .int (iI p0)), (2, .int (iI p1)), (3, .int (iI p2)), (4, .int (iI p3)), (5, .ref (w.1 18 0))] σ [.ref q] := by
    intro hf q
    refine v_astore hX (lv' := [(6, .ref q), (0, .ref (w.1 0 0)), (1, .int (iI p0)), (2, .int (iI p1)), (3, .int (iI p2)), (4, .int (iI p3)), (5, .ref (w.1 18 0))]) (Nat.le_of_ble_eq_true rfl) rfl (atL dAL_mask_0 14 rfl) ?_
    refine v_iconst hX (atL dAL_mask_0 15 rfl) ?_
    exact v_iret hX (atL dAL_mask_0 16 rfl) (hret 2 w σ ⟨0, A, hf, hS, FMo.rf, fun e => absurd e (by decide), Wk.rf, hKW, by decide⟩ _ (Nat.le_refl _) (Nat.le_refl _))
  refine v_aload hX 5 rfl (atL dAL_mask_0 0 rfl) ?_
  refine v_iconst hX (atL dAL_mask_0 1 rfl) ?_
  refine v_aload_n hX 0 rfl (atL dAL_mask_0 2 rfl) ?_
  refine v_iload_n hX 1 rfl (atL dAL_mask_0 3 rfl) ?_
  refine v_iload_n hX 2 rfl (atL dAL_mask_0 4 rfl) ?_
  refine v_iload_n hX 3 rfl (atL dAL_mask_0 5 rfl) ?_
  refine v_iload hX 4 rfl (atL dAL_mask_0 6 rfl) ?_
  refine v_callVTx hX (As := [.int (iI p0), .int (iI p1), .int (iI p2), .int (iI p3)]) (rest := [.int (iI 0), .ref (w.1 18 0)]) (c_X6_mask (xl X) hst w σ hk0 A hS p0 hp0 p1 hp1 p2 hp2 p3 hp3) lk_L_56 hk0 (fun _ => rfl) rfl rfl rfl (by rw [hR]; exact ⟨Nat.le_of_ble_eq_true rfl, Nat.le_of_ble_eq_true rfl⟩) (by rw [hR]; exact ⟨Nat.le_of_ble_eq_true rfl, Nat.le_of_ble_eq_true rfl⟩) rfl (Nat.le_of_ble_eq_true rfl) (atL dAL_mask_0 7 rfl) (fun E hE => ?_) (fun a σ1 hp1 => ?_)
  · rcases hE with ⟨rfl, hf⟩ | ⟨rfl, hf⟩
    · exact ⟨_, hc_I htab (by decide) (by decide), hX1 hf⟩
    · exact ⟨_, hc_A hX htab hNc (by decide) (by decide), hX2 hf⟩
  · obtain ⟨A1, hf, hS1, hM1⟩ := hp1
    have hWk : Wk w w := Wk.rf
    have hK1 : KW w A1.2.1 := by rw [show A1.2.1 = (f_mask A p0 p1 p2 p3).2.2.2.1 by rw [hf], kc_mask]; exact hKW
    show V X _ w _ _ σ1 [.int (iI a), .int (iI 0), .ref (w.1 18 0)]
    refine v_i2l hX (i2l_of a) (atL dAL_mask_0 8 rfl) ?_
    refine v_last hX (c := 15) (i := 0) 0 ho (by decide) (fun _ _ => rfl) rfl (by decide) (by decide) (atL dAL_mask_0 9 rfl) ?_
    refine v_goto hX (tgt := 25) (atL dAL_mask_0 10 rfl) (by decide) ?_
    refine v_iconst hX (atL dAL_mask_0 17 rfl) ?_
    exact v_iret hX (atL dAL_mask_0 18 rfl) (hret 0 w _ ⟨a, A1, hf, hS1.out, hM1.one.o.out, fun _ => su_s, hWk, hK1, by decide⟩ _ (Nat.le_refl _) (Nat.le_refl _))
theorem dAL_key_0 : ([(0, .aload 4, 2, 2), (2, .iconst 0, 1, 3), (3, .aload_n 0, 1, 4), (4, .iload_n 1, 1, 5), (5, .iload_n 2, 1, 6), (6, .iload_n 3, 1, 7), (7, .invokevirtual 59, 3, 10), (10, .i2l, 1, 11), (11, .lastore, 1, 12), (12, .goto 7, 3, 15), (15, .astore 5, 2, 17), (17, .iconst 1, 1, 18), (18, .ireturn, 1, 19), (19, .iconst 0, 1, 20), (20, .ireturn, 1, 21)] : List (Nat × Instr × Nat × Nat)).all (fun q => decide (decode method_16_code q.1 = .ok (q.2.1, q.2.2.1)) && q.2.2.2 == q.1 + q.2.2.1) = true := by decide +kernel
set_option maxHeartbeats 1000000 in
set_option maxRecDepth 100000 in
theorem c_L_key (l : Launch) (hst : l.stackTraces = false) (w : Wl) (σ : St) (hk0 : w.2 0 0) (ho : w.2 18 0) (A : Ab) (hS : HS σ A) (hKW : KW w A.2.1) (p0 : Int) (hp0 : rI p0) (p1 : Int) (hp1 : rI p1) (p2 : Int) (hp2 : rI p2) : Ch l yL_key method_16_code 6 (Option.some Jvm.ClassFile.FieldType.int) [(0, 12, 15, 13)] 8 185 21 684 wI [.ref (w.1 0 0), .int (iI p0), .int (iI p1), .int (iI p2), .ref (w.1 18 0)] w σ (HQ w σ (f_key A p0 p1 p2) pI) := by
  refine Ch.of (own := RL) (lv := [(0, .ref (w.1 0 0)), (1, .int (iI p0)), (2, .int (iI p1)), (3, .int (iI p2)), (4, .ref (w.1 18 0))]) (by decide +kernel) rfl (Nat.le_of_ble_eq_true rfl) rfl (fun X hX hxl hR htab hNc hcl hret => ?_)
  subst hxl
  have hX1 : (f_key A p0 p1 p2 (1, 0, A)) → ∀ q, V X (21, 684) w 15 [(0, .ref (w.1 0 0)), (1, .int (iI p0)), (2, .int (iI p1)), (3, .int (iI p2)), (4, .ref (w.1 18 0))] σ [.ref q] := by
    intro hf q
    refine v_astore hX (lv' := [(5, .ref q), (0, .ref (w.1 0 0)), (1, .int (iI p0)), (2, .int (iI p1)), (3, .int (iI p2)), (4, .ref (w.1 18 0))]) (Nat.le_of_ble_eq_true rfl) rfl (atL dAL_key_0 10 rfl) ?_
    refine v_iconst hX (atL dAL_key_0 11 rfl) ?_
    exact v_iret hX (atL dAL_key_0 12 rfl) (hret 1 w σ ⟨0, A, hf, hS, FMo.rf, fun e => absurd e (by decide), Wk.rf, hKW, by decide⟩ _ (Nat.le_refl _) (Nat.le_refl _))
  refine v_aload hX 4 rfl (atL dAL_key_0 0 rfl) ?_
  refine v_iconst hX (atL dAL_key_0 1 rfl) ?_
  refine v_aload_n hX 0 rfl (atL dAL_key_0 2 rfl) ?_
  refine v_iload_n hX 1 rfl (atL dAL_key_0 3 rfl) ?_
  refine v_iload_n hX 2 rfl (atL dAL_key_0 4 rfl) ?_
  refine v_iload_n hX 3 rfl (atL dAL_key_0 5 rfl) ?_
  refine v_callVTy hX (As := [.int (iI p0), .int (iI p1), .int (iI p2)]) (rest := [.int (iI 0), .ref (w.1 18 0)]) (c_X6_key (xl X) hst w σ hk0 A hS hKW p0 hp0 p1 hp1 p2 hp2) lk_L_59 hk0 (fun _ => rfl) rfl rfl rfl (by rw [hR]; exact ⟨Nat.le_of_ble_eq_true rfl, Nat.le_of_ble_eq_true rfl⟩) (by rw [hR]; exact ⟨Nat.le_of_ble_eq_true rfl, Nat.le_of_ble_eq_true rfl⟩) rfl (Nat.le_of_ble_eq_true rfl) (atL dAL_key_0 6 rfl) (fun E hE => ?_) (fun a w1 σ1 hp1 => ?_)
  · rcases hE with ⟨rfl, hf⟩ | ⟨rfl, hf⟩
    · exact ⟨_, hc_I htab (by decide) (by decide), hX1 hf⟩
    · exact absurd hf no2_key
  · obtain ⟨A1, hf, hS1, hM1, hWk, hK1⟩ := hp1
    show V X _ w1 _ _ σ1 [.int (iI a), .int (iI 0), .ref (w.1 18 0)]
    rw [← (hWk.1 18 0 ho).2]
    refine v_i2l hX (i2l_of a) (atL dAL_key_0 7 rfl) ?_
    refine v_last hX (c := 15) (i := 0) 0 (hWk.1 18 0 ho).1 (by decide) (fun _ _ => rfl) rfl (by decide) (by decide) (atL dAL_key_0 8 rfl) ?_
    refine v_goto hX (tgt := 19) (atL dAL_key_0 9 rfl) (by decide) ?_
    refine v_iconst hX (atL dAL_key_0 13 rfl) ?_
    exact v_iret hX (atL dAL_key_0 14 rfl) (hret 0 w1 _ ⟨a, A1, hf, hS1.out, hM1.o.out, fun _ => su_s, hWk, hK1, by decide⟩ _ (Nat.le_refl _) (Nat.le_refl _))
theorem dAL_open_0 : ([(0, .aload_n 3, 1, 1), (1, .iconst 0, 1, 2), (2, .aload_n 0, 1, 3), (3, .iload_n 1, 1, 4), (4, .iload_n 2, 1, 5), (5, .invokevirtual 62, 3, 8), (8, .i2l, 1, 9), (9, .lastore, 1, 10), (10, .goto 7, 3, 13), (13, .astore 4, 2, 15), (15, .iconst 1, 1, 16), (16, .ireturn, 1, 17), (17, .iconst 0, 1, 18), (18, .ireturn, 1, 19)] : List (Nat × Instr × Nat × Nat)).all (fun q => decide (decode method_17_code q.1 = .ok (q.2.1, q.2.2.1)) && q.2.2.2 == q.1 + q.2.2.1) = true := by decide +kernel
set_option maxHeartbeats 1000000 in
set_option maxRecDepth 100000 in
theorem c_L_open (l : Launch) (hst : l.stackTraces = false) (w : Wl) (σ : St) (hk0 : w.2 0 0) (ho : w.2 18 0) (A : Ab) (hS : HS σ A) (hKW : KW w A.2.1) (p0 : Int) (hp0 : rI p0) (p1 : Int) (hp1 : rI p1) : Ch l yL_open method_17_code 5 (Option.some Jvm.ClassFile.FieldType.int) [(0, 10, 13, 13)] 8 127 20 678 wI [.ref (w.1 0 0), .int (iI p0), .int (iI p1), .ref (w.1 18 0)] w σ (HQ w σ (f_open A p0 p1) pI) := by
  refine Ch.of (own := RL) (lv := [(0, .ref (w.1 0 0)), (1, .int (iI p0)), (2, .int (iI p1)), (3, .ref (w.1 18 0))]) (by decide +kernel) rfl (Nat.le_of_ble_eq_true rfl) rfl (fun X hX hxl hR htab hNc hcl hret => ?_)
  subst hxl
  have hX1 : (f_open A p0 p1 (1, 0, A)) → ∀ q, V X (20, 678) w 13 [(0, .ref (w.1 0 0)), (1, .int (iI p0)), (2, .int (iI p1)), (3, .ref (w.1 18 0))] σ [.ref q] := by
    intro hf q
    refine v_astore hX (lv' := [(4, .ref q), (0, .ref (w.1 0 0)), (1, .int (iI p0)), (2, .int (iI p1)), (3, .ref (w.1 18 0))]) (Nat.le_of_ble_eq_true rfl) rfl (atL dAL_open_0 9 rfl) ?_
    refine v_iconst hX (atL dAL_open_0 10 rfl) ?_
    exact v_iret hX (atL dAL_open_0 11 rfl) (hret 1 w σ ⟨0, A, hf, hS, FMo.rf, fun e => absurd e (by decide), Wk.rf, hKW, by decide⟩ _ (Nat.le_refl _) (Nat.le_refl _))
  refine v_aload_n hX 3 rfl (atL dAL_open_0 0 rfl) ?_
  refine v_iconst hX (atL dAL_open_0 1 rfl) ?_
  refine v_aload_n hX 0 rfl (atL dAL_open_0 2 rfl) ?_
  refine v_iload_n hX 1 rfl (atL dAL_open_0 3 rfl) ?_
  refine v_iload_n hX 2 rfl (atL dAL_open_0 4 rfl) ?_
  refine v_callVTy hX (As := [.int (iI p0), .int (iI p1)]) (rest := [.int (iI 0), .ref (w.1 18 0)]) (c_X6_open (xl X) hst w σ hk0 A hS hKW p0 hp0 p1 hp1) lk_L_62 hk0 (fun _ => rfl) rfl rfl rfl (by rw [hR]; exact ⟨Nat.le_of_ble_eq_true rfl, Nat.le_of_ble_eq_true rfl⟩) (by rw [hR]; exact ⟨Nat.le_of_ble_eq_true rfl, Nat.le_of_ble_eq_true rfl⟩) rfl (Nat.le_of_ble_eq_true rfl) (atL dAL_open_0 5 rfl) (fun E hE => ?_) (fun a w1 σ1 hp1 => ?_)
  · rcases hE with ⟨rfl, hf⟩ | ⟨rfl, hf⟩
    · exact ⟨_, hc_I htab (by decide) (by decide), hX1 hf⟩
    · exact absurd hf no2_open
  · obtain ⟨A1, hf, hS1, hM1, hWk, hK1⟩ := hp1
    show V X _ w1 _ _ σ1 [.int (iI a), .int (iI 0), .ref (w.1 18 0)]
    rw [← (hWk.1 18 0 ho).2]
    refine v_i2l hX (i2l_of a) (atL dAL_open_0 6 rfl) ?_
    refine v_last hX (c := 15) (i := 0) 0 (hWk.1 18 0 ho).1 (by decide) (fun _ _ => rfl) rfl (by decide) (by decide) (atL dAL_open_0 7 rfl) ?_
    refine v_goto hX (tgt := 17) (atL dAL_open_0 8 rfl) (by decide) ?_
    refine v_iconst hX (atL dAL_open_0 12 rfl) ?_
    exact v_iret hX (atL dAL_open_0 13 rfl) (hret 0 w1 _ ⟨a, A1, hf, hS1.out, hM1.o.out, fun _ => su_s, hWk, hK1, by decide⟩ _ (Nat.le_refl _) (Nat.le_refl _))
theorem dAL_part_0 : ([(0, .aload 4, 2, 2), (2, .iconst 0, 1, 3), (3, .aload_n 0, 1, 4), (4, .iload_n 1, 1, 5), (5, .iload_n 2, 1, 6), (6, .iload_n 3, 1, 7), (7, .invokevirtual 65, 3, 10), (10, .i2l, 1, 11), (11, .lastore, 1, 12), (12, .goto 11, 3, 15), (15, .astore 5, 2, 17), (17, .iconst 1, 1, 18), (18, .ireturn, 1, 19), (19, .astore 5, 2, 21), (21, .iconst 2, 1, 22), (22, .ireturn, 1, 23), (23, .iconst 0, 1, 24), (24, .ireturn, 1, 25)] : List (Nat × Instr × Nat × Nat)).all (fun q => decide (decode method_18_code q.1 = .ok (q.2.1, q.2.2.1)) && q.2.2.2 == q.1 + q.2.2.1) = true := by decide +kernel
set_option maxHeartbeats 1000000 in
set_option maxRecDepth 100000 in
theorem c_L_part (l : Launch) (hst : l.stackTraces = false) (w : Wl) (σ : St) (hk0 : w.2 0 0) (ho : w.2 18 0) (A : Ab) (hS : HS σ A) (hKW : KW w A.2.1) (p0 : Int) (hp0 : rI p0) (p1 : Int) (hp1 : rI p1) (p2 : Int) (hp2 : rI p2) : Ch l yL_part method_18_code 6 (Option.some Jvm.ClassFile.FieldType.int) [(0, 12, 15, 13), (0, 12, 19, 15)] 8 128 3 18 wI [.ref (w.1 0 0), .int (iI p0), .int (iI p1), .int (iI p2), .ref (w.1 18 0)] w σ (HQ w σ (fun r => f_part A p0 p1 p2 = r) pI) := by
  refine Ch.of (own := RL) (lv := [(0, .ref (w.1 0 0)), (1, .int (iI p0)), (2, .int (iI p1)), (3, .int (iI p2)), (4, .ref (w.1 18 0))]) (by decide +kernel) rfl (Nat.le_of_ble_eq_true rfl) rfl (fun X hX hxl hR htab hNc hcl hret => ?_)
  subst hxl
  have hX1 : (f_part A p0 p1 p2 = (1, 0, A)) → ∀ q, V X (3, 18) w 15 [(0, .ref (w.1 0 0)), (1, .int (iI p0)), (2, .int (iI p1)), (3, .int (iI p2)), (4, .ref (w.1 18 0))] σ [.ref q] := by
    intro hf q
    refine v_astore hX (lv' := [(5, .ref q), (0, .ref (w.1 0 0)), (1, .int (iI p0)), (2, .int (iI p1)), (3, .int (iI p2)), (4, .ref (w.1 18 0))]) (Nat.le_of_ble_eq_true rfl) rfl (atL dAL_part_0 10 rfl) ?_
    refine v_iconst hX (atL dAL_part_0 11 rfl) ?_
    exact v_iret hX (atL dAL_part_0 12 rfl) (hret 1 w σ ⟨0, A, hf, hS, FMo.rf, fun e => absurd e (by decide), Wk.rf, hKW, by decide⟩ _ (Nat.le_refl _) (Nat.le_refl _))
  have hX2 : (f_part A p0 p1 p2 = (2, 0, A)) → ∀ q, V X (3, 18) w 19 [(0, .ref (w.1 0 0)), (1, .int (iI p0)), (2, .int (iI p1)), (3, .int (iI p2)), (4, .ref (w.1 18 0))] σ [.ref q] := by
    intro hf q
    refine v_astore hX (lv' := [(5, .ref q), (0, .ref (w.1 0 0)), (1, .int (iI p0)), (2, .int (iI p1)), (3, .int (iI p2)), (4, .ref (w.1 18 0))]) (Nat.le_of_ble_eq_true rfl) rfl (atL dAL_part_0 13 rfl) ?_
    refine v_iconst hX (atL dAL_part_0 14 rfl) ?_
    exact v_iret hX (atL dAL_part_0 15 rfl) (hret 2 w σ ⟨0, A, hf, hS, FMo.rf, fun e => absurd e (by decide), Wk.rf, hKW, by decide⟩ _ (Nat.le_refl _) (Nat.le_refl _))
  refine v_aload hX 4 rfl (atL dAL_part_0 0 rfl) ?_
  refine v_iconst hX (atL dAL_part_0 1 rfl) ?_
  refine v_aload_n hX 0 rfl (atL dAL_part_0 2 rfl) ?_
  refine v_iload_n hX 1 rfl (atL dAL_part_0 3 rfl) ?_
  refine v_iload_n hX 2 rfl (atL dAL_part_0 4 rfl) ?_
  refine v_iload_n hX 3 rfl (atL dAL_part_0 5 rfl) ?_
  refine v_callVTx hX (As := [.int (iI p0), .int (iI p1), .int (iI p2)]) (rest := [.int (iI 0), .ref (w.1 18 0)]) (c_X6_part (xl X) hst w σ hk0 A hS p0 hp0 p1 hp1 p2 hp2) lk_L_65 hk0 (fun _ => rfl) rfl rfl rfl (by rw [hR]; exact ⟨Nat.le_of_ble_eq_true rfl, Nat.le_of_ble_eq_true rfl⟩) (by rw [hR]; exact ⟨Nat.le_of_ble_eq_true rfl, Nat.le_of_ble_eq_true rfl⟩) rfl (Nat.le_of_ble_eq_true rfl) (atL dAL_part_0 6 rfl) (fun E hE => ?_) (fun a σ1 hp1 => ?_)
  · rcases hE with ⟨rfl, hf⟩ | ⟨rfl, hf⟩
    · exact ⟨_, hc_I htab (by decide) (by decide), hX1 hf⟩
    · exact ⟨_, hc_A hX htab hNc (by decide) (by decide), hX2 hf⟩
  · obtain ⟨A1, hf, hS1, hM1⟩ := hp1
    have hWk : Wk w w := Wk.rf
    have hK1 : KW w A1.2.1 := by rw [show A1.2.1 = (f_part A p0 p1 p2).2.2.2.1 by rw [hf], kc_part]; exact hKW
    show V X _ w _ _ σ1 [.int (iI a), .int (iI 0), .ref (w.1 18 0)]
    refine v_i2l hX (i2l_of a) (atL dAL_part_0 7 rfl) ?_
    refine v_last hX (c := 15) (i := 0) 0 ho (by decide) (fun _ _ => rfl) rfl (by decide) (by decide) (atL dAL_part_0 8 rfl) ?_
    refine v_goto hX (tgt := 23) (atL dAL_part_0 9 rfl) (by decide) ?_
    refine v_iconst hX (atL dAL_part_0 16 rfl) ?_
    exact v_iret hX (atL dAL_part_0 17 rfl) (hret 0 w _ ⟨a, A1, hf, hS1.out, hM1.one.o.out, fun _ => su_s, hWk, hK1, by decide⟩ _ (Nat.le_refl _) (Nat.le_refl _))
theorem dAL_turn_0 : ([(0, .aload 5, 2, 2), (2, .iconst 0, 1, 3), (3, .aload_n 0, 1, 4), (4, .iload_n 1, 1, 5), (5, .iload_n 2, 1, 6), (6, .iload_n 3, 1, 7), (7, .iload 4, 2, 9), (9, .invokevirtual 68, 3, 12), (12, .i2l, 1, 13), (13, .lastore, 1, 14), (14, .goto 11, 3, 17), (17, .astore 6, 2, 19), (19, .iconst 1, 1, 20), (20, .ireturn, 1, 21), (21, .astore 6, 2, 23), (23, .iconst 2, 1, 24), (24, .ireturn, 1, 25), (25, .iconst 0, 1, 26), (26, .ireturn, 1, 27)] : List (Nat × Instr × Nat × Nat)).all (fun q => decide (decode method_19_code q.1 = .ok (q.2.1, q.2.2.1)) && q.2.2.2 == q.1 + q.2.2.1) = true := by decide +kernel
set_option maxHeartbeats 1000000 in
set_option maxRecDepth 100000 in
theorem c_L_turn (l : Launch) (hst : l.stackTraces = false) (w : Wl) (σ : St) (hk0 : w.2 0 0) (ho : w.2 18 0) (A : Ab) (hS : HS σ A) (hKW : KW w A.2.1) (p0 : Int) (hp0 : rI p0) (p1 : Int) (hp1 : rI p1) (p2 : Int) (hp2 : rI p2) (p3 : Int) (hp3 : rI p3) : Ch l yL_turn method_19_code 7 (Option.some Jvm.ClassFile.FieldType.int) [(0, 14, 17, 13), (0, 14, 21, 15)] 8 142 4 24 wI [.ref (w.1 0 0), .int (iI p0), .int (iI p1), .int (iI p2), .int (iI p3), .ref (w.1 18 0)] w σ (HQ w σ (fun r => f_turn A p0 p1 p2 p3 = r) pI) := by
  refine Ch.of (own := RL) (lv := [(0, .ref (w.1 0 0)), (1, .int (iI p0)), (2, .int (iI p1)), (3, .int (iI p2)), (4, .int (iI p3)), (5, .ref (w.1 18 0))]) (by decide +kernel) rfl (Nat.le_of_ble_eq_true rfl) rfl (fun X hX hxl hR htab hNc hcl hret => ?_)
  subst hxl
  have hX1 : (f_turn A p0 p1 p2 p3 = (1, 0, A)) → ∀ q, V X (4, 24) w 17 [(0, .ref (w.1 0 0)), (1, .int (iI p0)), (2, .int (iI p1)), (3, .int (iI p2)), (4, .int (iI p3)), (5, .ref (w.1 18 0))] σ [.ref q] := by
    intro hf q
    refine v_astore hX (lv' := [(6, .ref q), (0, .ref (w.1 0 0)), (1, .int (iI p0)), (2, .int (iI p1)), (3, .int (iI p2)), (4, .int (iI p3)), (5, .ref (w.1 18 0))]) (Nat.le_of_ble_eq_true rfl) rfl (atL dAL_turn_0 11 rfl) ?_
    refine v_iconst hX (atL dAL_turn_0 12 rfl) ?_
    exact v_iret hX (atL dAL_turn_0 13 rfl) (hret 1 w σ ⟨0, A, hf, hS, FMo.rf, fun e => absurd e (by decide), Wk.rf, hKW, by decide⟩ _ (Nat.le_refl _) (Nat.le_refl _))
  have hX2 : (f_turn A p0 p1 p2 p3 = (2, 0, A)) → ∀ q, V X (4, 24) w 21 [(0, .ref (w.1 0 0)), (1, .int (iI p0)), (2, .int (iI p1)), (3, .int (iI p2)), (4, .int (iI p3)), (5, .ref (w.1 18 0))] σ [.ref q] := by
    intro hf q
    refine v_astore hX (lv' := [(6, .ref q), (0, .ref (w.1 0 0)), (1, .int (iI p0)), (2, .int (iI p1)), (3, .int (iI p2)), (4, .int (iI p3)), (5, .ref (w.1 18 0))]) (Nat.le_of_ble_eq_true rfl) rfl (atL dAL_turn_0 14 rfl) ?_
    refine v_iconst hX (atL dAL_turn_0 15 rfl) ?_
    exact v_iret hX (atL dAL_turn_0 16 rfl) (hret 2 w σ ⟨0, A, hf, hS, FMo.rf, fun e => absurd e (by decide), Wk.rf, hKW, by decide⟩ _ (Nat.le_refl _) (Nat.le_refl _))
  refine v_aload hX 5 rfl (atL dAL_turn_0 0 rfl) ?_
  refine v_iconst hX (atL dAL_turn_0 1 rfl) ?_
  refine v_aload_n hX 0 rfl (atL dAL_turn_0 2 rfl) ?_
  refine v_iload_n hX 1 rfl (atL dAL_turn_0 3 rfl) ?_
  refine v_iload_n hX 2 rfl (atL dAL_turn_0 4 rfl) ?_
  refine v_iload_n hX 3 rfl (atL dAL_turn_0 5 rfl) ?_
  refine v_iload hX 4 rfl (atL dAL_turn_0 6 rfl) ?_
  refine v_callVTx hX (As := [.int (iI p0), .int (iI p1), .int (iI p2), .int (iI p3)]) (rest := [.int (iI 0), .ref (w.1 18 0)]) (c_X6_turn (xl X) hst w σ hk0 A hS p0 hp0 p1 hp1 p2 hp2 p3 hp3) lk_L_68 hk0 (fun _ => rfl) rfl rfl rfl (by rw [hR]; exact ⟨Nat.le_of_ble_eq_true rfl, Nat.le_of_ble_eq_true rfl⟩) (by rw [hR]; exact ⟨Nat.le_of_ble_eq_true rfl, Nat.le_of_ble_eq_true rfl⟩) rfl (Nat.le_of_ble_eq_true rfl) (atL dAL_turn_0 7 rfl) (fun E hE => ?_) (fun a σ1 hp1 => ?_)
  · rcases hE with ⟨rfl, hf⟩ | ⟨rfl, hf⟩
    · exact ⟨_, hc_I htab (by decide) (by decide), hX1 hf⟩
    · exact ⟨_, hc_A hX htab hNc (by decide) (by decide), hX2 hf⟩
  · obtain ⟨A1, hf, hS1, hM1⟩ := hp1
    have hWk : Wk w w := Wk.rf
    have hK1 : KW w A1.2.1 := by rw [show A1.2.1 = (f_turn A p0 p1 p2 p3).2.2.2.1 by rw [hf], kc_turn]; exact hKW
    show V X _ w _ _ σ1 [.int (iI a), .int (iI 0), .ref (w.1 18 0)]
    refine v_i2l hX (i2l_of a) (atL dAL_turn_0 8 rfl) ?_
    refine v_last hX (c := 15) (i := 0) 0 ho (by decide) (fun _ _ => rfl) rfl (by decide) (by decide) (atL dAL_turn_0 9 rfl) ?_
    refine v_goto hX (tgt := 25) (atL dAL_turn_0 10 rfl) (by decide) ?_
    refine v_iconst hX (atL dAL_turn_0 17 rfl) ?_
    exact v_iret hX (atL dAL_turn_0 18 rfl) (hret 0 w _ ⟨a, A1, hf, hS1.out, hM1.one.o.out, fun _ => su_s, hWk, hK1, by decide⟩ _ (Nat.le_refl _) (Nat.le_refl _))
theorem dAL_hide_0 : ([(0, .aload 7, 2, 2), (2, .iconst 0, 1, 3), (3, .aload_n 0, 1, 4), (4, .iload_n 1, 1, 5), (5, .iload_n 2, 1, 6), (6, .iload_n 3, 1, 7), (7, .iload 4, 2, 9), (9, .iload 5, 2, 11), (11, .iload 6, 2, 13), (13, .invokevirtual 71, 3, 16), (16, .i2l, 1, 17), (17, .lastore, 1, 18), (18, .goto 11, 3, 21), (21, .astore 8, 2, 23), (23, .iconst 1, 1, 24), (24, .ireturn, 1, 25), (25, .astore 8, 2, 27), (27, .iconst 2, 1, 28), (28, .ireturn, 1, 29), (29, .iconst 0, 1, 30), (30, .ireturn, 1, 31)] : List (Nat × Instr × Nat × Nat)).all (fun q => decide (decode method_20_code q.1 = .ok (q.2.1, q.2.2.1)) && q.2.2.2 == q.1 + q.2.2.1) = true := by decide +kernel
set_option maxHeartbeats 1000000 in
set_option maxRecDepth 100000 in
theorem c_L_hide (l : Launch) (hst : l.stackTraces = false) (w : Wl) (σ : St) (hk0 : w.2 0 0) (ho : w.2 18 0) (A : Ab) (hS : HS σ A) (hKW : KW w A.2.1) (p0 : Int) (hp0 : rI p0) (p1 : Int) (hp1 : rI p1) (p2 : Int) (hp2 : rI p2) (p3 : Int) (hp3 : rI p3) (p4 : Int) (hp4 : rI p4) (p5 : Int) (hp5 : rI p5) : Ch l yL_hide method_20_code 9 (Option.some Jvm.ClassFile.FieldType.int) [(0, 18, 21, 13), (0, 18, 25, 15)] 8 181 6 36 wI [.ref (w.1 0 0), .int (iI p0), .int (iI p1), .int (iI p2), .int (iI p3), .int (iI p4), .int (iI p5), .ref (w.1 18 0)] w σ (HQ w σ (fun r => f_hide A p0 p1 p2 p3 p4 p5 = r) pI) := by
  refine Ch.of (own := RL) (lv := [(0, .ref (w.1 0 0)), (1, .int (iI p0)), (2, .int (iI p1)), (3, .int (iI p2)), (4, .int (iI p3)), (5, .int (iI p4)), (6, .int (iI p5)), (7, .ref (w.1 18 0))]) (by decide +kernel) rfl (Nat.le_of_ble_eq_true rfl) rfl (fun X hX hxl hR htab hNc hcl hret => ?_)
  subst hxl
  have hX1 : (f_hide A p0 p1 p2 p3 p4 p5 = (1, 0, A)) → ∀ q, V X (6, 36) w 21 [(0, .ref (w.1 0 0)), (1, .int (iI p0)), (2, .int (iI p1)), (3, .int (iI p2)), (4, .int (iI p3)), (5, .int (iI p4)), (6, .int (iI p5)), (7, .ref (w.1 18 0))] σ [.ref q] := by
    intro hf q
    refine v_astore hX (lv' := [(8, .ref q), (0, .ref (w.1 0 0)), (1, .int (iI p0)), (2, .int (iI p1)), (3, .int (iI p2)), (4, .int (iI p3)), (5, .int (iI p4)), (6, .int (iI p5)), (7, .ref (w.1 18 0))]) (Nat.le_of_ble_eq_true rfl) rfl (atL dAL_hide_0 13 rfl) ?_
    refine v_iconst hX (atL dAL_hide_0 14 rfl) ?_
    exact v_iret hX (atL dAL_hide_0 15 rfl) (hret 1 w σ ⟨0, A, hf, hS, FMo.rf, fun e => absurd e (by decide), Wk.rf, hKW, by decide⟩ _ (Nat.le_refl _) (Nat.le_refl _))
  have hX2 : (f_hide A p0 p1 p2 p3 p4 p5 = (2, 0, A)) → ∀ q, V X (6, 36) w 25 [(0, .ref (w.1 0 0)), (1, .int (iI p0)), (2, .int (iI p1)), (3, .int (iI p2)), (4, .int (iI p3)), (5, .int (iI p4)), (6, .int (iI p5)), (7, .ref (w.1 18 0))] σ [.ref q] := by
    intro hf q
    refine v_astore hX (lv' := [(8, .ref q), (0, .ref (w.1 0 0)), (1, .int (iI p0)), (2, .int (iI p1)), (3, .int (iI p2)), (4, .int (iI p3)), (5, .int (iI p4)), (6, .int (iI p5)), (7, .ref (w.1 18 0))]) (Nat.le_of_ble_eq_true rfl) rfl (atL dAL_hide_0 16 rfl) ?_
    refine v_iconst hX (atL dAL_hide_0 17 rfl) ?_
    exact v_iret hX (atL dAL_hide_0 18 rfl) (hret 2 w σ ⟨0, A, hf, hS, FMo.rf, fun e => absurd e (by decide), Wk.rf, hKW, by decide⟩ _ (Nat.le_refl _) (Nat.le_refl _))
  refine v_aload hX 7 rfl (atL dAL_hide_0 0 rfl) ?_
  refine v_iconst hX (atL dAL_hide_0 1 rfl) ?_
  refine v_aload_n hX 0 rfl (atL dAL_hide_0 2 rfl) ?_
  refine v_iload_n hX 1 rfl (atL dAL_hide_0 3 rfl) ?_
  refine v_iload_n hX 2 rfl (atL dAL_hide_0 4 rfl) ?_
  refine v_iload_n hX 3 rfl (atL dAL_hide_0 5 rfl) ?_
  refine v_iload hX 4 rfl (atL dAL_hide_0 6 rfl) ?_
  refine v_iload hX 5 rfl (atL dAL_hide_0 7 rfl) ?_
  refine v_iload hX 6 rfl (atL dAL_hide_0 8 rfl) ?_
  refine v_callVTx hX (As := [.int (iI p0), .int (iI p1), .int (iI p2), .int (iI p3), .int (iI p4), .int (iI p5)]) (rest := [.int (iI 0), .ref (w.1 18 0)]) (c_X6_hide (xl X) hst w σ hk0 A hS p0 hp0 p1 hp1 p2 hp2 p3 hp3 p4 hp4 p5 hp5) lk_L_71 hk0 (fun _ => rfl) rfl rfl rfl (by rw [hR]; exact ⟨Nat.le_of_ble_eq_true rfl, Nat.le_of_ble_eq_true rfl⟩) (by rw [hR]; exact ⟨Nat.le_of_ble_eq_true rfl, Nat.le_of_ble_eq_true rfl⟩) rfl (Nat.le_of_ble_eq_true rfl) (atL dAL_hide_0 9 rfl) (fun E hE => ?_) (fun a σ1 hp1 => ?_)
  · rcases hE with ⟨rfl, hf⟩ | ⟨rfl, hf⟩
    · exact ⟨_, hc_I htab (by decide) (by decide), hX1 hf⟩
    · exact ⟨_, hc_A hX htab hNc (by decide) (by decide), hX2 hf⟩
  · obtain ⟨A1, hf, hS1, hM1⟩ := hp1
    have hWk : Wk w w := Wk.rf
    have hK1 : KW w A1.2.1 := by rw [show A1.2.1 = (f_hide A p0 p1 p2 p3 p4 p5).2.2.2.1 by rw [hf], kc_hide]; exact hKW
    show V X _ w _ _ σ1 [.int (iI a), .int (iI 0), .ref (w.1 18 0)]
    refine v_i2l hX (i2l_of a) (atL dAL_hide_0 10 rfl) ?_
    refine v_last hX (c := 15) (i := 0) 0 ho (by decide) (fun _ _ => rfl) rfl (by decide) (by decide) (atL dAL_hide_0 11 rfl) ?_
    refine v_goto hX (tgt := 29) (atL dAL_hide_0 12 rfl) (by decide) ?_
    refine v_iconst hX (atL dAL_hide_0 19 rfl) ?_
    exact v_iret hX (atL dAL_hide_0 20 rfl) (hret 0 w _ ⟨a, A1, hf, hS1.out, hM1.one.o.out, fun _ => su_s, hWk, hK1, by decide⟩ _ (Nat.le_refl _) (Nat.le_refl _))
theorem dAL_show_0 : ([(0, .aload 6, 2, 2), (2, .iconst 0, 1, 3), (3, .aload_n 0, 1, 4), (4, .iload_n 1, 1, 5), (5, .iload_n 2, 1, 6), (6, .iload_n 3, 1, 7), (7, .iload 4, 2, 9), (9, .iload 5, 2, 11), (11, .invokevirtual 75, 3, 14), (14, .i2l, 1, 15), (15, .lastore, 1, 16), (16, .goto 11, 3, 19), (19, .astore 7, 2, 21), (21, .iconst 1, 1, 22), (22, .ireturn, 1, 23), (23, .astore 7, 2, 25), (25, .iconst 2, 1, 26), (26, .ireturn, 1, 27), (27, .iconst 0, 1, 28), (28, .ireturn, 1, 29)] : List (Nat × Instr × Nat × Nat)).all (fun q => decide (decode method_21_code q.1 = .ok (q.2.1, q.2.2.1)) && q.2.2.2 == q.1 + q.2.2.1) = true := by decide +kernel
set_option maxHeartbeats 1000000 in
set_option maxRecDepth 100000 in
theorem c_L_show (l : Launch) (hst : l.stackTraces = false) (w : Wl) (σ : St) (hk0 : w.2 0 0) (ho : w.2 18 0) (A : Ab) (hS : HS σ A) (hKW : KW w A.2.1) (p0 : Int) (hp0 : rI p0) (p1 : Int) (hp1 : rI p1) (p2 : Int) (hp2 : rI p2) (p3 : Int) (hp3 : rI p3) (p4 : Int) (hp4 : rI p4) : Ch l yL_show method_21_code 8 (Option.some Jvm.ClassFile.FieldType.int) [(0, 16, 19, 13), (0, 16, 23, 15)] 8 177 5 30 wI [.ref (w.1 0 0), .int (iI p0), .int (iI p1), .int (iI p2), .int (iI p3), .int (iI p4), .ref (w.1 18 0)] w σ (HQ w σ (fun r => f_show A p0 p1 p2 p3 p4 = r) pI) := by
  refine Ch.of (own := RL) (lv := [(0, .ref (w.1 0 0)), (1, .int (iI p0)), (2, .int (iI p1)), (3, .int (iI p2)), (4, .int (iI p3)), (5, .int (iI p4)), (6, .ref (w.1 18 0))]) (by decide +kernel) rfl (Nat.le_of_ble_eq_true rfl) rfl (fun X hX hxl hR htab hNc hcl hret => ?_)
  subst hxl
  have hX1 : (f_show A p0 p1 p2 p3 p4 = (1, 0, A)) → ∀ q, V X (5, 30) w 19 [(0, .ref (w.1 0 0)), (1, .int (iI p0)), (2, .int (iI p1)), (3, .int (iI p2)), (4, .int (iI p3)), (5, .int (iI p4)), (6, .ref (w.1 18 0))] σ [.ref q] := by
    intro hf q
    refine v_astore hX (lv' := [(7, .ref q), (0, .ref (w.1 0 0)), (1, .int (iI p0)), (2, .int (iI p1)), (3, .int (iI p2)), (4, .int (iI p3)), (5, .int (iI p4)), (6, .ref (w.1 18 0))]) (Nat.le_of_ble_eq_true rfl) rfl (atL dAL_show_0 12 rfl) ?_
    refine v_iconst hX (atL dAL_show_0 13 rfl) ?_
    exact v_iret hX (atL dAL_show_0 14 rfl) (hret 1 w σ ⟨0, A, hf, hS, FMo.rf, fun e => absurd e (by decide), Wk.rf, hKW, by decide⟩ _ (Nat.le_refl _) (Nat.le_refl _))
  have hX2 : (f_show A p0 p1 p2 p3 p4 = (2, 0, A)) → ∀ q, V X (5, 30) w 23 [(0, .ref (w.1 0 0)), (1, .int (iI p0)), (2, .int (iI p1)), (3, .int (iI p2)), (4, .int (iI p3)), (5, .int (iI p4)), (6, .ref (w.1 18 0))] σ [.ref q] := by
    intro hf q
    refine v_astore hX (lv' := [(7, .ref q), (0, .ref (w.1 0 0)), (1, .int (iI p0)), (2, .int (iI p1)), (3, .int (iI p2)), (4, .int (iI p3)), (5, .int (iI p4)), (6, .ref (w.1 18 0))]) (Nat.le_of_ble_eq_true rfl) rfl (atL dAL_show_0 15 rfl) ?_
    refine v_iconst hX (atL dAL_show_0 16 rfl) ?_
    exact v_iret hX (atL dAL_show_0 17 rfl) (hret 2 w σ ⟨0, A, hf, hS, FMo.rf, fun e => absurd e (by decide), Wk.rf, hKW, by decide⟩ _ (Nat.le_refl _) (Nat.le_refl _))
  refine v_aload hX 6 rfl (atL dAL_show_0 0 rfl) ?_
  refine v_iconst hX (atL dAL_show_0 1 rfl) ?_
  refine v_aload_n hX 0 rfl (atL dAL_show_0 2 rfl) ?_
  refine v_iload_n hX 1 rfl (atL dAL_show_0 3 rfl) ?_
  refine v_iload_n hX 2 rfl (atL dAL_show_0 4 rfl) ?_
  refine v_iload_n hX 3 rfl (atL dAL_show_0 5 rfl) ?_
  refine v_iload hX 4 rfl (atL dAL_show_0 6 rfl) ?_
  refine v_iload hX 5 rfl (atL dAL_show_0 7 rfl) ?_
  refine v_callVTx hX (As := [.int (iI p0), .int (iI p1), .int (iI p2), .int (iI p3), .int (iI p4)]) (rest := [.int (iI 0), .ref (w.1 18 0)]) (c_X6_show (xl X) hst w σ hk0 A hS p0 hp0 p1 hp1 p2 hp2 p3 hp3 p4 hp4) lk_L_75 hk0 (fun _ => rfl) rfl rfl rfl (by rw [hR]; exact ⟨Nat.le_of_ble_eq_true rfl, Nat.le_of_ble_eq_true rfl⟩) (by rw [hR]; exact ⟨Nat.le_of_ble_eq_true rfl, Nat.le_of_ble_eq_true rfl⟩) rfl (Nat.le_of_ble_eq_true rfl) (atL dAL_show_0 8 rfl) (fun E hE => ?_) (fun a σ1 hp1 => ?_)
  · rcases hE with ⟨rfl, hf⟩ | ⟨rfl, hf⟩
    · exact ⟨_, hc_I htab (by decide) (by decide), hX1 hf⟩
    · exact ⟨_, hc_A hX htab hNc (by decide) (by decide), hX2 hf⟩
  · obtain ⟨A1, hf, hS1, hM1⟩ := hp1
    have hWk : Wk w w := Wk.rf
    have hK1 : KW w A1.2.1 := by rw [show A1.2.1 = (f_show A p0 p1 p2 p3 p4).2.2.2.1 by rw [hf], kc_show]; exact hKW
    show V X _ w _ _ σ1 [.int (iI a), .int (iI 0), .ref (w.1 18 0)]
    refine v_i2l hX (i2l_of a) (atL dAL_show_0 9 rfl) ?_
    refine v_last hX (c := 15) (i := 0) 0 ho (by decide) (fun _ _ => rfl) rfl (by decide) (by decide) (atL dAL_show_0 10 rfl) ?_
    refine v_goto hX (tgt := 27) (atL dAL_show_0 11 rfl) (by decide) ?_
    refine v_iconst hX (atL dAL_show_0 18 rfl) ?_
    exact v_iret hX (atL dAL_show_0 19 rfl) (hret 0 w _ ⟨a, A1, hf, hS1.out, hM1.one.o.out, fun _ => su_s, hWk, hK1, by decide⟩ _ (Nat.le_refl _) (Nat.le_refl _))
theorem dAL_fill_0 : ([(0, .aload 5, 2, 2), (2, .iconst 0, 1, 3), (3, .aload_n 0, 1, 4), (4, .iload_n 1, 1, 5), (5, .iload_n 2, 1, 6), (6, .iload_n 3, 1, 7), (7, .iload 4, 2, 9), (9, .invokevirtual 78, 3, 12), (12, .i2l, 1, 13), (13, .lastore, 1, 14), (14, .goto 7, 3, 17), (17, .astore 6, 2, 19), (19, .iconst 1, 1, 20), (20, .ireturn, 1, 21), (21, .iconst 0, 1, 22), (22, .ireturn, 1, 23)] : List (Nat × Instr × Nat × Nat)).all (fun q => decide (decode method_22_code q.1 = .ok (q.2.1, q.2.2.1)) && q.2.2.2 == q.1 + q.2.2.1) = true := by decide +kernel
set_option maxHeartbeats 1000000 in
set_option maxRecDepth 100000 in
theorem c_L_fill (l : Launch) (hst : l.stackTraces = false) (w : Wl) (σ : St) (hk0 : w.2 0 0) (ho : w.2 18 0) (A : Ab) (hS : HS σ A) (hKW : KW w A.2.1) (p0 : Int) (hp0 : rI p0) (p1 : Int) (hp1 : rI p1) (p2 : Int) (hp2 : rI p2) (p3 : Int) (hp3 : rI p3) : Ch l yL_fill method_22_code 7 (Option.some Jvm.ClassFile.FieldType.int) [(0, 14, 17, 13)] 8 166 4 24 wI [.ref (w.1 0 0), .int (iI p0), .int (iI p1), .int (iI p2), .int (iI p3), .ref (w.1 18 0)] w σ (HQ w σ (fun r => f_fill A p0 p1 p2 p3 = r) pI) := by
  refine Ch.of (own := RL) (lv := [(0, .ref (w.1 0 0)), (1, .int (iI p0)), (2, .int (iI p1)), (3, .int (iI p2)), (4, .int (iI p3)), (5, .ref (w.1 18 0))]) (by decide +kernel) rfl (Nat.le_of_ble_eq_true rfl) rfl (fun X hX hxl hR htab hNc hcl hret => ?_)
  subst hxl
  have hX1 : (f_fill A p0 p1 p2 p3 = (1, 0, A)) → ∀ q, V X (4, 24) w 17 [(0, .ref (w.1 0 0)), (1, .int (iI p0)), (2, .int (iI p1)), (3, .int (iI p2)), (4, .int (iI p3)), (5, .ref (w.1 18 0))] σ [.ref q] := by
    intro hf q
    refine v_astore hX (lv' := [(6, .ref q), (0, .ref (w.1 0 0)), (1, .int (iI p0)), (2, .int (iI p1)), (3, .int (iI p2)), (4, .int (iI p3)), (5, .ref (w.1 18 0))]) (Nat.le_of_ble_eq_true rfl) rfl (atL dAL_fill_0 11 rfl) ?_
    refine v_iconst hX (atL dAL_fill_0 12 rfl) ?_
    exact v_iret hX (atL dAL_fill_0 13 rfl) (hret 1 w σ ⟨0, A, hf, hS, FMo.rf, fun e => absurd e (by decide), Wk.rf, hKW, by decide⟩ _ (Nat.le_refl _) (Nat.le_refl _))
  refine v_aload hX 5 rfl (atL dAL_fill_0 0 rfl) ?_
  refine v_iconst hX (atL dAL_fill_0 1 rfl) ?_
  refine v_aload_n hX 0 rfl (atL dAL_fill_0 2 rfl) ?_
  refine v_iload_n hX 1 rfl (atL dAL_fill_0 3 rfl) ?_
  refine v_iload_n hX 2 rfl (atL dAL_fill_0 4 rfl) ?_
  refine v_iload_n hX 3 rfl (atL dAL_fill_0 5 rfl) ?_
  refine v_iload hX 4 rfl (atL dAL_fill_0 6 rfl) ?_
  refine v_callVTx hX (As := [.int (iI p0), .int (iI p1), .int (iI p2), .int (iI p3)]) (rest := [.int (iI 0), .ref (w.1 18 0)]) (c_X6_fill (xl X) hst w σ hk0 A hS p0 hp0 p1 hp1 p2 hp2 p3 hp3) lk_L_78 hk0 (fun _ => rfl) rfl rfl rfl (by rw [hR]; exact ⟨Nat.le_of_ble_eq_true rfl, Nat.le_of_ble_eq_true rfl⟩) (by rw [hR]; exact ⟨Nat.le_of_ble_eq_true rfl, Nat.le_of_ble_eq_true rfl⟩) rfl (Nat.le_of_ble_eq_true rfl) (atL dAL_fill_0 7 rfl) (fun E hE => ?_) (fun a σ1 hp1 => ?_)
  · rcases hE with ⟨rfl, hf⟩ | ⟨rfl, hf⟩
    · exact ⟨_, hc_I htab (by decide) (by decide), hX1 hf⟩
    · exact absurd hf no2_fill
  · obtain ⟨A1, hf, hS1, hM1⟩ := hp1
    have hWk : Wk w w := Wk.rf
    have hK1 : KW w A1.2.1 := by rw [show A1.2.1 = (f_fill A p0 p1 p2 p3).2.2.2.1 by rw [hf], kc_fill]; exact hKW
    show V X _ w _ _ σ1 [.int (iI a), .int (iI 0), .ref (w.1 18 0)]
    refine v_i2l hX (i2l_of a) (atL dAL_fill_0 8 rfl) ?_
    refine v_last hX (c := 15) (i := 0) 0 ho (by decide) (fun _ _ => rfl) rfl (by decide) (by decide) (atL dAL_fill_0 9 rfl) ?_
    refine v_goto hX (tgt := 21) (atL dAL_fill_0 10 rfl) (by decide) ?_
    refine v_iconst hX (atL dAL_fill_0 14 rfl) ?_
    exact v_iret hX (atL dAL_fill_0 15 rfl) (hret 0 w _ ⟨a, A1, hf, hS1.out, hM1.one.o.out, fun _ => su_s, hWk, hK1, by decide⟩ _ (Nat.le_refl _) (Nat.le_refl _))
theorem dAL_empty_0 : ([(0, .aload 4, 2, 2), (2, .iconst 0, 1, 3), (3, .aload_n 0, 1, 4), (4, .iload_n 1, 1, 5), (5, .iload_n 2, 1, 6), (6, .iload_n 3, 1, 7), (7, .invokevirtual 81, 3, 10), (10, .i2l, 1, 11), (11, .lastore, 1, 12), (12, .goto 7, 3, 15), (15, .astore 5, 2, 17), (17, .iconst 1, 1, 18), (18, .ireturn, 1, 19), (19, .iconst 0, 1, 20), (20, .ireturn, 1, 21)] : List (Nat × Instr × Nat × Nat)).all (fun q => decide (decode method_23_code q.1 = .ok (q.2.1, q.2.2.1)) && q.2.2.2 == q.1 + q.2.2.1) = true := by decide +kernel
set_option maxHeartbeats 1000000 in
set_option maxRecDepth 100000 in
theorem c_L_empty (l : Launch) (hst : l.stackTraces = false) (w : Wl) (σ : St) (hk0 : w.2 0 0) (ho : w.2 18 0) (A : Ab) (hS : HS σ A) (hKW : KW w A.2.1) (p0 : Int) (hp0 : rI p0) (p1 : Int) (hp1 : rI p1) (p2 : Int) (hp2 : rI p2) : Ch l yL_empty method_23_code 6 (Option.some Jvm.ClassFile.FieldType.int) [(0, 12, 15, 13)] 8 164 3 18 wI [.ref (w.1 0 0), .int (iI p0), .int (iI p1), .int (iI p2), .ref (w.1 18 0)] w σ (HQ w σ (fun r => f_empty A p0 p1 p2 = r) pI) := by
  refine Ch.of (own := RL) (lv := [(0, .ref (w.1 0 0)), (1, .int (iI p0)), (2, .int (iI p1)), (3, .int (iI p2)), (4, .ref (w.1 18 0))]) (by decide +kernel) rfl (Nat.le_of_ble_eq_true rfl) rfl (fun X hX hxl hR htab hNc hcl hret => ?_)
  subst hxl
  have hX1 : (f_empty A p0 p1 p2 = (1, 0, A)) → ∀ q, V X (3, 18) w 15 [(0, .ref (w.1 0 0)), (1, .int (iI p0)), (2, .int (iI p1)), (3, .int (iI p2)), (4, .ref (w.1 18 0))] σ [.ref q] := by
    intro hf q
    refine v_astore hX (lv' := [(5, .ref q), (0, .ref (w.1 0 0)), (1, .int (iI p0)), (2, .int (iI p1)), (3, .int (iI p2)), (4, .ref (w.1 18 0))]) (Nat.le_of_ble_eq_true rfl) rfl (atL dAL_empty_0 10 rfl) ?_
    refine v_iconst hX (atL dAL_empty_0 11 rfl) ?_
    exact v_iret hX (atL dAL_empty_0 12 rfl) (hret 1 w σ ⟨0, A, hf, hS, FMo.rf, fun e => absurd e (by decide), Wk.rf, hKW, by decide⟩ _ (Nat.le_refl _) (Nat.le_refl _))
  refine v_aload hX 4 rfl (atL dAL_empty_0 0 rfl) ?_
  refine v_iconst hX (atL dAL_empty_0 1 rfl) ?_
  refine v_aload_n hX 0 rfl (atL dAL_empty_0 2 rfl) ?_
  refine v_iload_n hX 1 rfl (atL dAL_empty_0 3 rfl) ?_
  refine v_iload_n hX 2 rfl (atL dAL_empty_0 4 rfl) ?_
  refine v_iload_n hX 3 rfl (atL dAL_empty_0 5 rfl) ?_
  refine v_callVTx hX (As := [.int (iI p0), .int (iI p1), .int (iI p2)]) (rest := [.int (iI 0), .ref (w.1 18 0)]) (c_X6_empty (xl X) hst w σ hk0 A hS p0 hp0 p1 hp1 p2 hp2) lk_L_81 hk0 (fun _ => rfl) rfl rfl rfl (by rw [hR]; exact ⟨Nat.le_of_ble_eq_true rfl, Nat.le_of_ble_eq_true rfl⟩) (by rw [hR]; exact ⟨Nat.le_of_ble_eq_true rfl, Nat.le_of_ble_eq_true rfl⟩) rfl (Nat.le_of_ble_eq_true rfl) (atL dAL_empty_0 6 rfl) (fun E hE => ?_) (fun a σ1 hp1 => ?_)
  · rcases hE with ⟨rfl, hf⟩ | ⟨rfl, hf⟩
    · exact ⟨_, hc_I htab (by decide) (by decide), hX1 hf⟩
    · exact absurd hf no2_empty
  · obtain ⟨A1, hf, hS1, hM1⟩ := hp1
    have hWk : Wk w w := Wk.rf
    have hK1 : KW w A1.2.1 := by rw [show A1.2.1 = (f_empty A p0 p1 p2).2.2.2.1 by rw [hf], kc_empty]; exact hKW
    show V X _ w _ _ σ1 [.int (iI a), .int (iI 0), .ref (w.1 18 0)]
    refine v_i2l hX (i2l_of a) (atL dAL_empty_0 7 rfl) ?_
    refine v_last hX (c := 15) (i := 0) 0 ho (by decide) (fun _ _ => rfl) rfl (by decide) (by decide) (atL dAL_empty_0 8 rfl) ?_
    refine v_goto hX (tgt := 19) (atL dAL_empty_0 9 rfl) (by decide) ?_
    refine v_iconst hX (atL dAL_empty_0 13 rfl) ?_
    exact v_iret hX (atL dAL_empty_0 14 rfl) (hret 0 w _ ⟨a, A1, hf, hS1.out, hM1.one.o.out, fun _ => su_s, hWk, hK1, by decide⟩ _ (Nat.le_refl _) (Nat.le_refl _))
theorem dAL_sign_0 : ([(0, .aload 5, 2, 2), (2, .iconst 0, 1, 3), (3, .aload_n 0, 1, 4), (4, .iload_n 1, 1, 5), (5, .iload_n 2, 1, 6), (6, .iload_n 3, 1, 7), (7, .iload 4, 2, 9), (9, .invokevirtual 84, 3, 12), (12, .i2l, 1, 13), (13, .lastore, 1, 14), (14, .goto 11, 3, 17), (17, .astore 6, 2, 19), (19, .iconst 1, 1, 20), (20, .ireturn, 1, 21), (21, .astore 6, 2, 23), (23, .iconst 2, 1, 24), (24, .ireturn, 1, 25), (25, .iconst 0, 1, 26), (26, .ireturn, 1, 27)] : List (Nat × Instr × Nat × Nat)).all (fun q => decide (decode method_24_code q.1 = .ok (q.2.1, q.2.2.1)) && q.2.2.2 == q.1 + q.2.2.1) = true := by decide +kernel
set_option maxHeartbeats 1000000 in
set_option maxRecDepth 100000 in
theorem c_L_sign (l : Launch) (hst : l.stackTraces = false) (w : Wl) (σ : St) (hk0 : w.2 0 0) (ho : w.2 18 0) (A : Ab) (hS : HS σ A) (hKW : KW w A.2.1) (p0 : Int) (hp0 : rI p0) (p1 : Int) (hp1 : rI p1) (p2 : Int) (hp2 : rI p2) (p3 : Int) (hp3 : rI p3) : Ch l yL_sign method_24_code 7 (Option.some Jvm.ClassFile.FieldType.int) [(0, 14, 17, 13), (0, 14, 21, 15)] 8 165 4 24 wI [.ref (w.1 0 0), .int (iI p0), .int (iI p1), .int (iI p2), .int (iI p3), .ref (w.1 18 0)] w σ (HQ w σ (fun r => f_sign A p0 p1 p2 p3 = r) pI) := by
  refine Ch.of (own := RL) (lv := [(0, .ref (w.1 0 0)), (1, .int (iI p0)), (2, .int (iI p1)), (3, .int (iI p2)), (4, .int (iI p3)), (5, .ref (w.1 18 0))]) (by decide +kernel) rfl (Nat.le_of_ble_eq_true rfl) rfl (fun X hX hxl hR htab hNc hcl hret => ?_)
  subst hxl
  have hX1 : (f_sign A p0 p1 p2 p3 = (1, 0, A)) → ∀ q, V X (4, 24) w 17 [(0, .ref (w.1 0 0)), (1, .int (iI p0)), (2, .int (iI p1)), (3, .int (iI p2)), (4, .int (iI p3)), (5, .ref (w.1 18 0))] σ [.ref q] := by
    intro hf q
    refine v_astore hX (lv' := [(6, .ref q), (0, .ref (w.1 0 0)), (1, .int (iI p0)), (2, .int (iI p1)), (3, .int (iI p2)), (4, .int (iI p3)), (5, .ref (w.1 18 0))]) (Nat.le_of_ble_eq_true rfl) rfl (atL dAL_sign_0 11 rfl) ?_
    refine v_iconst hX (atL dAL_sign_0 12 rfl) ?_
    exact v_iret hX (atL dAL_sign_0 13 rfl) (hret 1 w σ ⟨0, A, hf, hS, FMo.rf, fun e => absurd e (by decide), Wk.rf, hKW, by decide⟩ _ (Nat.le_refl _) (Nat.le_refl _))
  have hX2 : (f_sign A p0 p1 p2 p3 = (2, 0, A)) → ∀ q, V X (4, 24) w 21 [(0, .ref (w.1 0 0)), (1, .int (iI p0)), (2, .int (iI p1)), (3, .int (iI p2)), (4, .int (iI p3)), (5, .ref (w.1 18 0))] σ [.ref q] := by
    intro hf q
    refine v_astore hX (lv' := [(6, .ref q), (0, .ref (w.1 0 0)), (1, .int (iI p0)), (2, .int (iI p1)), (3, .int (iI p2)), (4, .int (iI p3)), (5, .ref (w.1 18 0))]) (Nat.le_of_ble_eq_true rfl) rfl (atL dAL_sign_0 14 rfl) ?_
    refine v_iconst hX (atL dAL_sign_0 15 rfl) ?_
    exact v_iret hX (atL dAL_sign_0 16 rfl) (hret 2 w σ ⟨0, A, hf, hS, FMo.rf, fun e => absurd e (by decide), Wk.rf, hKW, by decide⟩ _ (Nat.le_refl _) (Nat.le_refl _))
  refine v_aload hX 5 rfl (atL dAL_sign_0 0 rfl) ?_
  refine v_iconst hX (atL dAL_sign_0 1 rfl) ?_
  refine v_aload_n hX 0 rfl (atL dAL_sign_0 2 rfl) ?_
  refine v_iload_n hX 1 rfl (atL dAL_sign_0 3 rfl) ?_
  refine v_iload_n hX 2 rfl (atL dAL_sign_0 4 rfl) ?_
  refine v_iload_n hX 3 rfl (atL dAL_sign_0 5 rfl) ?_
  refine v_iload hX 4 rfl (atL dAL_sign_0 6 rfl) ?_
  refine v_callVTx hX (As := [.int (iI p0), .int (iI p1), .int (iI p2), .int (iI p3)]) (rest := [.int (iI 0), .ref (w.1 18 0)]) (c_X6_sign (xl X) hst w σ hk0 A hS p0 hp0 p1 hp1 p2 hp2 p3 hp3) lk_L_84 hk0 (fun _ => rfl) rfl rfl rfl (by rw [hR]; exact ⟨Nat.le_of_ble_eq_true rfl, Nat.le_of_ble_eq_true rfl⟩) (by rw [hR]; exact ⟨Nat.le_of_ble_eq_true rfl, Nat.le_of_ble_eq_true rfl⟩) rfl (Nat.le_of_ble_eq_true rfl) (atL dAL_sign_0 7 rfl) (fun E hE => ?_) (fun a σ1 hp1 => ?_)
  · rcases hE with ⟨rfl, hf⟩ | ⟨rfl, hf⟩
    · exact ⟨_, hc_I htab (by decide) (by decide), hX1 hf⟩
    · exact ⟨_, hc_A hX htab hNc (by decide) (by decide), hX2 hf⟩
  · obtain ⟨A1, hf, hS1, hM1⟩ := hp1
    have hWk : Wk w w := Wk.rf
    have hK1 : KW w A1.2.1 := by rw [show A1.2.1 = (f_sign A p0 p1 p2 p3).2.2.2.1 by rw [hf], kc_sign]; exact hKW
    show V X _ w _ _ σ1 [.int (iI a), .int (iI 0), .ref (w.1 18 0)]
    refine v_i2l hX (i2l_of a) (atL dAL_sign_0 8 rfl) ?_
    refine v_last hX (c := 15) (i := 0) 0 ho (by decide) (fun _ _ => rfl) rfl (by decide) (by decide) (atL dAL_sign_0 9 rfl) ?_
    refine v_goto hX (tgt := 25) (atL dAL_sign_0 10 rfl) (by decide) ?_
    refine v_iconst hX (atL dAL_sign_0 17 rfl) ?_
    exact v_iret hX (atL dAL_sign_0 18 rfl) (hret 0 w _ ⟨a, A1, hf, hS1.out, hM1.one.o.out, fun _ => su_s, hWk, hK1, by decide⟩ _ (Nat.le_refl _) (Nat.le_refl _))
theorem dAL_prove_0 : ([(0, .aload 5, 2, 2), (2, .iconst 0, 1, 3), (3, .aload_n 0, 1, 4), (4, .iload_n 1, 1, 5), (5, .iload_n 2, 1, 6), (6, .iload_n 3, 1, 7), (7, .iload 4, 2, 9), (9, .invokevirtual 87, 3, 12), (12, .i2l, 1, 13), (13, .lastore, 1, 14), (14, .goto 11, 3, 17), (17, .astore 6, 2, 19), (19, .iconst 1, 1, 20), (20, .ireturn, 1, 21), (21, .astore 6, 2, 23), (23, .iconst 2, 1, 24), (24, .ireturn, 1, 25), (25, .iconst 0, 1, 26), (26, .ireturn, 1, 27)] : List (Nat × Instr × Nat × Nat)).all (fun q => decide (decode method_25_code q.1 = .ok (q.2.1, q.2.2.1)) && q.2.2.2 == q.1 + q.2.2.1) = true := by decide +kernel
set_option maxHeartbeats 1000000 in
set_option maxRecDepth 100000 in
theorem c_L_prove (l : Launch) (hst : l.stackTraces = false) (w : Wl) (σ : St) (hk0 : w.2 0 0) (ho : w.2 18 0) (A : Ab) (hS : HS σ A) (hKW : KW w A.2.1) (p0 : Int) (hp0 : rI p0) (p1 : Int) (hp1 : rI p1) (p2 : Int) (hp2 : rI p2) (p3 : Int) (hp3 : rI p3) : Ch l yL_prove method_25_code 7 (Option.some Jvm.ClassFile.FieldType.int) [(0, 14, 17, 13), (0, 14, 21, 15)] 8 165 4 24 wI [.ref (w.1 0 0), .int (iI p0), .int (iI p1), .int (iI p2), .int (iI p3), .ref (w.1 18 0)] w σ (HQ w σ (fun r => f_prove A p0 p1 p2 p3 = r) pI) := by
  refine Ch.of (own := RL) (lv := [(0, .ref (w.1 0 0)), (1, .int (iI p0)), (2, .int (iI p1)), (3, .int (iI p2)), (4, .int (iI p3)), (5, .ref (w.1 18 0))]) (by decide +kernel) rfl (Nat.le_of_ble_eq_true rfl) rfl (fun X hX hxl hR htab hNc hcl hret => ?_)
  subst hxl
  have hX1 : (f_prove A p0 p1 p2 p3 = (1, 0, A)) → ∀ q, V X (4, 24) w 17 [(0, .ref (w.1 0 0)), (1, .int (iI p0)), (2, .int (iI p1)), (3, .int (iI p2)), (4, .int (iI p3)), (5, .ref (w.1 18 0))] σ [.ref q] := by
    intro hf q
    refine v_astore hX (lv' := [(6, .ref q), (0, .ref (w.1 0 0)), (1, .int (iI p0)), (2, .int (iI p1)), (3, .int (iI p2)), (4, .int (iI p3)), (5, .ref (w.1 18 0))]) (Nat.le_of_ble_eq_true rfl) rfl (atL dAL_prove_0 11 rfl) ?_
    refine v_iconst hX (atL dAL_prove_0 12 rfl) ?_
    exact v_iret hX (atL dAL_prove_0 13 rfl) (hret 1 w σ ⟨0, A, hf, hS, FMo.rf, fun e => absurd e (by decide), Wk.rf, hKW, by decide⟩ _ (Nat.le_refl _) (Nat.le_refl _))
  have hX2 : (f_prove A p0 p1 p2 p3 = (2, 0, A)) → ∀ q, V X (4, 24) w 21 [(0, .ref (w.1 0 0)), (1, .int (iI p0)), (2, .int (iI p1)), (3, .int (iI p2)), (4, .int (iI p3)), (5, .ref (w.1 18 0))] σ [.ref q] := by
    intro hf q
    refine v_astore hX (lv' := [(6, .ref q), (0, .ref (w.1 0 0)), (1, .int (iI p0)), (2, .int (iI p1)), (3, .int (iI p2)), (4, .int (iI p3)), (5, .ref (w.1 18 0))]) (Nat.le_of_ble_eq_true rfl) rfl (atL dAL_prove_0 14 rfl) ?_
    refine v_iconst hX (atL dAL_prove_0 15 rfl) ?_
    exact v_iret hX (atL dAL_prove_0 16 rfl) (hret 2 w σ ⟨0, A, hf, hS, FMo.rf, fun e => absurd e (by decide), Wk.rf, hKW, by decide⟩ _ (Nat.le_refl _) (Nat.le_refl _))
  refine v_aload hX 5 rfl (atL dAL_prove_0 0 rfl) ?_
  refine v_iconst hX (atL dAL_prove_0 1 rfl) ?_
  refine v_aload_n hX 0 rfl (atL dAL_prove_0 2 rfl) ?_
  refine v_iload_n hX 1 rfl (atL dAL_prove_0 3 rfl) ?_
  refine v_iload_n hX 2 rfl (atL dAL_prove_0 4 rfl) ?_
  refine v_iload_n hX 3 rfl (atL dAL_prove_0 5 rfl) ?_
  refine v_iload hX 4 rfl (atL dAL_prove_0 6 rfl) ?_
  refine v_callVTx hX (As := [.int (iI p0), .int (iI p1), .int (iI p2), .int (iI p3)]) (rest := [.int (iI 0), .ref (w.1 18 0)]) (c_X6_prove (xl X) hst w σ hk0 A hS p0 hp0 p1 hp1 p2 hp2 p3 hp3) lk_L_87 hk0 (fun _ => rfl) rfl rfl rfl (by rw [hR]; exact ⟨Nat.le_of_ble_eq_true rfl, Nat.le_of_ble_eq_true rfl⟩) (by rw [hR]; exact ⟨Nat.le_of_ble_eq_true rfl, Nat.le_of_ble_eq_true rfl⟩) rfl (Nat.le_of_ble_eq_true rfl) (atL dAL_prove_0 7 rfl) (fun E hE => ?_) (fun a σ1 hp1 => ?_)
  · rcases hE with ⟨rfl, hf⟩ | ⟨rfl, hf⟩
    · exact ⟨_, hc_I htab (by decide) (by decide), hX1 hf⟩
    · exact ⟨_, hc_A hX htab hNc (by decide) (by decide), hX2 hf⟩
  · obtain ⟨A1, hf, hS1, hM1⟩ := hp1
    have hWk : Wk w w := Wk.rf
    have hK1 : KW w A1.2.1 := by rw [show A1.2.1 = (f_prove A p0 p1 p2 p3).2.2.2.1 by rw [hf], kc_prove]; exact hKW
    show V X _ w _ _ σ1 [.int (iI a), .int (iI 0), .ref (w.1 18 0)]
    refine v_i2l hX (i2l_of a) (atL dAL_prove_0 8 rfl) ?_
    refine v_last hX (c := 15) (i := 0) 0 ho (by decide) (fun _ _ => rfl) rfl (by decide) (by decide) (atL dAL_prove_0 9 rfl) ?_
    refine v_goto hX (tgt := 25) (atL dAL_prove_0 10 rfl) (by decide) ?_
    refine v_iconst hX (atL dAL_prove_0 17 rfl) ?_
    exact v_iret hX (atL dAL_prove_0 18 rfl) (hret 0 w _ ⟨a, A1, hf, hS1.out, hM1.one.o.out, fun _ => su_s, hWk, hK1, by decide⟩ _ (Nat.le_refl _) (Nat.le_refl _))
theorem dAL_salt_0 : ([(0, .aload 6, 2, 2), (2, .iconst 0, 1, 3), (3, .aload_n 0, 1, 4), (4, .iload_n 1, 1, 5), (5, .iload_n 2, 1, 6), (6, .iload_n 3, 1, 7), (7, .iload 4, 2, 9), (9, .iload 5, 2, 11), (11, .invokevirtual 90, 3, 14), (14, .i2l, 1, 15), (15, .lastore, 1, 16), (16, .goto 11, 3, 19), (19, .astore 7, 2, 21), (21, .iconst 1, 1, 22), (22, .ireturn, 1, 23), (23, .astore 7, 2, 25), (25, .iconst 2, 1, 26), (26, .ireturn, 1, 27), (27, .iconst 0, 1, 28), (28, .ireturn, 1, 29)] : List (Nat × Instr × Nat × Nat)).all (fun q => decide (decode method_26_code q.1 = .ok (q.2.1, q.2.2.1)) && q.2.2.2 == q.1 + q.2.2.1) = true := by decide +kernel
set_option maxHeartbeats 1000000 in
set_option maxRecDepth 100000 in
theorem c_L_salt (l : Launch) (hst : l.stackTraces = false) (w : Wl) (σ : St) (hk0 : w.2 0 0) (ho : w.2 18 0) (A : Ab) (hS : HS σ A) (hKW : KW w A.2.1) (p0 : Int) (hp0 : rI p0) (p1 : Int) (hp1 : rI p1) (p2 : Int) (hp2 : rI p2) (p3 : Int) (hp3 : rI p3) (p4 : Int) (hp4 : rI p4) : Ch l yL_salt method_26_code 8 (Option.some Jvm.ClassFile.FieldType.int) [(0, 16, 19, 13), (0, 16, 23, 15)] 8 178 5 30 wI [.ref (w.1 0 0), .int (iI p0), .int (iI p1), .int (iI p2), .int (iI p3), .int (iI p4), .ref (w.1 18 0)] w σ (HQ w σ (fun r => f_salt A p0 p1 p2 p3 p4 = r) pI) := by
  refine Ch.of (own := RL) (lv := [(0, .ref (w.1 0 0)), (1, .int (iI p0)), (2, .int (iI p1)), (3, .int (iI p2)), (4, .int (iI p3)), (5, .int (iI p4)), (6, .ref (w.1 18 0))]) (by decide +kernel) rfl (Nat.le_of_ble_eq_true rfl) rfl (fun X hX hxl hR htab hNc hcl hret => ?_)
  subst hxl
  have hX1 : (f_salt A p0 p1 p2 p3 p4 = (1, 0, A)) → ∀ q, V X (5, 30) w 19 [(0, .ref (w.1 0 0)), (1, .int (iI p0)), (2, .int (iI p1)), (3, .int (iI p2)), (4, .int (iI p3)), (5, .int (iI p4)), (6, .ref (w.1 18 0))] σ [.ref q] := by
    intro hf q
    refine v_astore hX (lv' := [(7, .ref q), (0, .ref (w.1 0 0)), (1, .int (iI p0)), (2, .int (iI p1)), (3, .int (iI p2)), (4, .int (iI p3)), (5, .int (iI p4)), (6, .ref (w.1 18 0))]) (Nat.le_of_ble_eq_true rfl) rfl (atL dAL_salt_0 12 rfl) ?_
    refine v_iconst hX (atL dAL_salt_0 13 rfl) ?_
    exact v_iret hX (atL dAL_salt_0 14 rfl) (hret 1 w σ ⟨0, A, hf, hS, FMo.rf, fun e => absurd e (by decide), Wk.rf, hKW, by decide⟩ _ (Nat.le_refl _) (Nat.le_refl _))
  have hX2 : (f_salt A p0 p1 p2 p3 p4 = (2, 0, A)) → ∀ q, V X (5, 30) w 23 [(0, .ref (w.1 0 0)), (1, .int (iI p0)), (2, .int (iI p1)), (3, .int (iI p2)), (4, .int (iI p3)), (5, .int (iI p4)), (6, .ref (w.1 18 0))] σ [.ref q] := by
    intro hf q
    refine v_astore hX (lv' := [(7, .ref q), (0, .ref (w.1 0 0)), (1, .int (iI p0)), (2, .int (iI p1)), (3, .int (iI p2)), (4, .int (iI p3)), (5, .int (iI p4)), (6, .ref (w.1 18 0))]) (Nat.le_of_ble_eq_true rfl) rfl (atL dAL_salt_0 15 rfl) ?_
    refine v_iconst hX (atL dAL_salt_0 16 rfl) ?_
    exact v_iret hX (atL dAL_salt_0 17 rfl) (hret 2 w σ ⟨0, A, hf, hS, FMo.rf, fun e => absurd e (by decide), Wk.rf, hKW, by decide⟩ _ (Nat.le_refl _) (Nat.le_refl _))
  refine v_aload hX 6 rfl (atL dAL_salt_0 0 rfl) ?_
  refine v_iconst hX (atL dAL_salt_0 1 rfl) ?_
  refine v_aload_n hX 0 rfl (atL dAL_salt_0 2 rfl) ?_
  refine v_iload_n hX 1 rfl (atL dAL_salt_0 3 rfl) ?_
  refine v_iload_n hX 2 rfl (atL dAL_salt_0 4 rfl) ?_
  refine v_iload_n hX 3 rfl (atL dAL_salt_0 5 rfl) ?_
  refine v_iload hX 4 rfl (atL dAL_salt_0 6 rfl) ?_
  refine v_iload hX 5 rfl (atL dAL_salt_0 7 rfl) ?_
  refine v_callVTx hX (As := [.int (iI p0), .int (iI p1), .int (iI p2), .int (iI p3), .int (iI p4)]) (rest := [.int (iI 0), .ref (w.1 18 0)]) (c_X6_salt (xl X) hst w σ hk0 A hS p0 hp0 p1 hp1 p2 hp2 p3 hp3 p4 hp4) lk_L_90 hk0 (fun _ => rfl) rfl rfl rfl (by rw [hR]; exact ⟨Nat.le_of_ble_eq_true rfl, Nat.le_of_ble_eq_true rfl⟩) (by rw [hR]; exact ⟨Nat.le_of_ble_eq_true rfl, Nat.le_of_ble_eq_true rfl⟩) rfl (Nat.le_of_ble_eq_true rfl) (atL dAL_salt_0 8 rfl) (fun E hE => ?_) (fun a σ1 hp1 => ?_)
  · rcases hE with ⟨rfl, hf⟩ | ⟨rfl, hf⟩
    · exact ⟨_, hc_I htab (by decide) (by decide), hX1 hf⟩
    · exact ⟨_, hc_A hX htab hNc (by decide) (by decide), hX2 hf⟩
  · obtain ⟨A1, hf, hS1, hM1⟩ := hp1
    have hWk : Wk w w := Wk.rf
    have hK1 : KW w A1.2.1 := by rw [show A1.2.1 = (f_salt A p0 p1 p2 p3 p4).2.2.2.1 by rw [hf], kc_salt]; exact hKW
    show V X _ w _ _ σ1 [.int (iI a), .int (iI 0), .ref (w.1 18 0)]
    refine v_i2l hX (i2l_of a) (atL dAL_salt_0 9 rfl) ?_
    refine v_last hX (c := 15) (i := 0) 0 ho (by decide) (fun _ _ => rfl) rfl (by decide) (by decide) (atL dAL_salt_0 10 rfl) ?_
    refine v_goto hX (tgt := 27) (atL dAL_salt_0 11 rfl) (by decide) ?_
    refine v_iconst hX (atL dAL_salt_0 18 rfl) ?_
    exact v_iret hX (atL dAL_salt_0 19 rfl) (hret 0 w _ ⟨a, A1, hf, hS1.out, hM1.one.o.out, fun _ => su_s, hWk, hK1, by decide⟩ _ (Nat.le_refl _) (Nat.le_refl _))
theorem dAL_taste_0 : ([(0, .aload 6, 2, 2), (2, .iconst 0, 1, 3), (3, .aload_n 0, 1, 4), (4, .iload_n 1, 1, 5), (5, .iload_n 2, 1, 6), (6, .iload_n 3, 1, 7), (7, .iload 4, 2, 9), (9, .iload 5, 2, 11), (11, .invokevirtual 93, 3, 14), (14, .i2l, 1, 15), (15, .lastore, 1, 16), (16, .goto 11, 3, 19), (19, .astore 7, 2, 21), (21, .iconst 1, 1, 22), (22, .ireturn, 1, 23), (23, .astore 7, 2, 25), (25, .iconst 2, 1, 26), (26, .ireturn, 1, 27), (27, .iconst 0, 1, 28), (28, .ireturn, 1, 29)] : List (Nat × Instr × Nat × Nat)).all (fun q => decide (decode method_27_code q.1 = .ok (q.2.1, q.2.2.1)) && q.2.2.2 == q.1 + q.2.2.1) = true := by decide +kernel
set_option maxHeartbeats 1000000 in
set_option maxRecDepth 100000 in
theorem c_L_taste (l : Launch) (hst : l.stackTraces = false) (w : Wl) (σ : St) (hk0 : w.2 0 0) (ho : w.2 18 0) (A : Ab) (hS : HS σ A) (hKW : KW w A.2.1) (p0 : Int) (hp0 : rI p0) (p1 : Int) (hp1 : rI p1) (p2 : Int) (hp2 : rI p2) (p3 : Int) (hp3 : rI p3) (p4 : Int) (hp4 : rI p4) : Ch l yL_taste method_27_code 8 (Option.some Jvm.ClassFile.FieldType.int) [(0, 16, 19, 13), (0, 16, 23, 15)] 8 180 5 30 wI [.ref (w.1 0 0), .int (iI p0), .int (iI p1), .int (iI p2), .int (iI p3), .int (iI p4), .ref (w.1 18 0)] w σ (HQ w σ (fun r => f_taste A p0 p1 p2 p3 p4 = r) pI) := by
  refine Ch.of (own := RL) (lv := [(0, .ref (w.1 0 0)), (1, .int (iI p0)), (2, .int (iI p1)), (3, .int (iI p2)), (4, .int (iI p3)), (5, .int (iI p4)), (6, .ref (w.1 18 0))]) (by decide +kernel) rfl (Nat.le_of_ble_eq_true rfl) rfl (fun X hX hxl hR htab hNc hcl hret => ?_)
  subst hxl
  have hX1 : (f_taste A p0 p1 p2 p3 p4 = (1, 0, A)) → ∀ q, V X (5, 30) w 19 [(0, .ref (w.1 0 0)), (1, .int (iI p0)), (2, .int (iI p1)), (3, .int (iI p2)), (4, .int (iI p3)), (5, .int (iI p4)), (6, .ref (w.1 18 0))] σ [.ref q] := by
    intro hf q
    refine v_astore hX (lv' := [(7, .ref q), (0, .ref (w.1 0 0)), (1, .int (iI p0)), (2, .int (iI p1)), (3, .int (iI p2)), (4, .int (iI p3)), (5, .int (iI p4)), (6, .ref (w.1 18 0))]) (Nat.le_of_ble_eq_true rfl) rfl (atL dAL_taste_0 12 rfl) ?_
    refine v_iconst hX (atL dAL_taste_0 13 rfl) ?_
    exact v_iret hX (atL dAL_taste_0 14 rfl) (hret 1 w σ ⟨0, A, hf, hS, FMo.rf, fun e => absurd e (by decide), Wk.rf, hKW, by decide⟩ _ (Nat.le_refl _) (Nat.le_refl _))
  have hX2 : (f_taste A p0 p1 p2 p3 p4 = (2, 0, A)) → ∀ q, V X (5, 30) w 23 [(0, .ref (w.1 0 0)), (1, .int (iI p0)), (2, .int (iI p1)), (3, .int (iI p2)), (4, .int (iI p3)), (5, .int (iI p4)), (6, .ref (w.1 18 0))] σ [.ref q] := by
    intro hf q
    refine v_astore hX (lv' := [(7, .ref q), (0, .ref (w.1 0 0)), (1, .int (iI p0)), (2, .int (iI p1)), (3, .int (iI p2)), (4, .int (iI p3)), (5, .int (iI p4)), (6, .ref (w.1 18 0))]) (Nat.le_of_ble_eq_true rfl) rfl (atL dAL_taste_0 15 rfl) ?_
    refine v_iconst hX (atL dAL_taste_0 16 rfl) ?_
    exact v_iret hX (atL dAL_taste_0 17 rfl) (hret 2 w σ ⟨0, A, hf, hS, FMo.rf, fun e => absurd e (by decide), Wk.rf, hKW, by decide⟩ _ (Nat.le_refl _) (Nat.le_refl _))
  refine v_aload hX 6 rfl (atL dAL_taste_0 0 rfl) ?_
  refine v_iconst hX (atL dAL_taste_0 1 rfl) ?_
  refine v_aload_n hX 0 rfl (atL dAL_taste_0 2 rfl) ?_
  refine v_iload_n hX 1 rfl (atL dAL_taste_0 3 rfl) ?_
  refine v_iload_n hX 2 rfl (atL dAL_taste_0 4 rfl) ?_
  refine v_iload_n hX 3 rfl (atL dAL_taste_0 5 rfl) ?_
  refine v_iload hX 4 rfl (atL dAL_taste_0 6 rfl) ?_
  refine v_iload hX 5 rfl (atL dAL_taste_0 7 rfl) ?_
  refine v_callVTx hX (As := [.int (iI p0), .int (iI p1), .int (iI p2), .int (iI p3), .int (iI p4)]) (rest := [.int (iI 0), .ref (w.1 18 0)]) (c_X6_taste (xl X) hst w σ hk0 A hS p0 hp0 p1 hp1 p2 hp2 p3 hp3 p4 hp4) lk_L_93 hk0 (fun _ => rfl) rfl rfl rfl (by rw [hR]; exact ⟨Nat.le_of_ble_eq_true rfl, Nat.le_of_ble_eq_true rfl⟩) (by rw [hR]; exact ⟨Nat.le_of_ble_eq_true rfl, Nat.le_of_ble_eq_true rfl⟩) rfl (Nat.le_of_ble_eq_true rfl) (atL dAL_taste_0 8 rfl) (fun E hE => ?_) (fun a σ1 hp1 => ?_)
  · rcases hE with ⟨rfl, hf⟩ | ⟨rfl, hf⟩
    · exact ⟨_, hc_I htab (by decide) (by decide), hX1 hf⟩
    · exact ⟨_, hc_A hX htab hNc (by decide) (by decide), hX2 hf⟩
  · obtain ⟨A1, hf, hS1, hM1⟩ := hp1
    have hWk : Wk w w := Wk.rf
    have hK1 : KW w A1.2.1 := by rw [show A1.2.1 = (f_taste A p0 p1 p2 p3 p4).2.2.2.1 by rw [hf], kc_taste]; exact hKW
    show V X _ w _ _ σ1 [.int (iI a), .int (iI 0), .ref (w.1 18 0)]
    refine v_i2l hX (i2l_of a) (atL dAL_taste_0 9 rfl) ?_
    refine v_last hX (c := 15) (i := 0) 0 ho (by decide) (fun _ _ => rfl) rfl (by decide) (by decide) (atL dAL_taste_0 10 rfl) ?_
    refine v_goto hX (tgt := 27) (atL dAL_taste_0 11 rfl) (by decide) ?_
    refine v_iconst hX (atL dAL_taste_0 18 rfl) ?_
    exact v_iret hX (atL dAL_taste_0 19 rfl) (hret 0 w _ ⟨a, A1, hf, hS1.out, hM1.one.o.out, fun _ => su_s, hWk, hK1, by decide⟩ _ (Nat.le_refl _) (Nat.le_refl _))
