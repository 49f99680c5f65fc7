/-- an array's ints with n of another's from o on -/
def cp (f : Nat → Int) (o n : Nat) (g : Nat → Int) : Nat → Int := fun j => if o ≤ j ∧ j < o + n then g (j - o) else f j
theorem cp_0 {f g : Nat → Int} {o : Nat} : cp f o 0 g = f := by
  funext j
  unfold cp
  rw [if_neg (by omega)]
theorem cp_s {t : St} {a o j : Nat} {f g : Nat → Int} {v : Int} (h : t 13 a = cp f o j g) (hv : v = g j) : su t 13 a (o + j) v 13 a = cp f o (j + 1) g := by
  funext q
  rw [su_e, h]
  unfold cp
  by_cases c : q = o + j
  · rw [if_pos c, if_pos (by omega), hv]
    congr 1
    omega
  · rw [if_neg c]
    by_cases d : o ≤ q ∧ q < o + j
    · rw [if_pos d, if_pos (by omega)]
    · rw [if_neg d, if_neg (by omega)]
theorem gD_app {L M : List Nat} {j : Nat} : (L ++ M).getD j 0 = if j < L.length then L.getD j 0 else M.getD (j - L.length) 0 := by
  by_cases c : j < L.length
  · rw [if_pos c]
    simp [List.getD, List.getElem?_append_left c]
  · rw [if_neg c]
    simp [List.getD, List.getElem?_append_right (Nat.le_of_not_lt c)]
theorem gD_one {x j : Nat} : [x].getD j 0 = if j = 0 then x else 0 := by
  cases j <;> simp [List.getD]
theorem gD_rep {n x j : Nat} : (List.replicate n x).getD j 0 = if j < n then x else 0 := by
  by_cases c : j < n
  · rw [if_pos c]; simp [List.getD, List.getElem?_replicate, c]
  · rw [if_neg c]; simp [List.getD, List.getElem?_replicate, c]
theorem gD_drop {L : List Nat} {a j : Nat} : (L.drop a).getD j 0 = L.getD (a + j) 0 := by
  simp [List.getD, List.getElem?_drop]
theorem gD_take {L : List Nat} {a j : Nat} : (L.take a).getD j 0 = if j < a then L.getD j 0 else 0 := by
  by_cases c : j < a
  · rw [if_pos c]; simp [List.getD, List.getElem?_take, c]
  · rw [if_neg c]; simp [List.getD, List.getElem?_take, c]
theorem mix_get {A B : List Nat} {k : Nat} (hk : k < A.length) : (mix A B).getD k 0 = A.getD k 0 ^^^ B.getD k 0 := by
  rw [← mixm_all, mixm_get hk, if_pos hk]
theorem AW.get {f : Nat → Int} {L : List Nat} {j : Nat} (h : AW f 0 L) (hj : j < L.length) : f j = ((L.getD j 0 : Nat) : Int) := by
  have := h j hj
  rw [Nat.zero_add] at this
  exact this
theorem AW.of {f : Nat → Int} {L : List Nat} (h : ∀ j, j < L.length → f j = ((L.getD j 0 : Nat) : Int)) : AW f 0 L := fun j hj => by
  rw [Nat.zero_add]
  exact h j hj
theorem run_eq {p : Nat → Bool} {L : List Nat} : ∀ {m k : Nat}, k + m ≤ L.length → (∀ q, k ≤ q → q < k + m → p (L.getD q 0) = true) → (k + m = L.length ∨ ¬ p (L.getD (k + m) 0) = true) → run p L k = m
  | 0, k, h, _, h2 => by
    by_cases c : k < L.length
    · exact run_e c (h2.resolve_left (by omega))
    · exact run_0 (by omega)
  | m + 1, k, h, h1, h2 => by
    rw [run_s (by omega) (h1 k (Nat.le_refl k) (by omega)), run_eq (m := m) (k := k + 1) (by omega) (fun q a b => h1 q (by omega) (by omega)) (by rw [show k + 1 + m = k + (m + 1) by omega]; exact h2)]
theorem list_ext {L M : List Nat} (hl : L.length = M.length) (h : ∀ j, j < L.length → L.getD j 0 = M.getD j 0) : L = M := by
  apply List.ext_getElem hl
  intro j h1 h2
  have := h j h1
  simpa [List.getD, List.getElem?_eq_getElem h1, List.getElem?_eq_getElem h2] using this
/-- n of L from o on crossed with M -/
def crs (L : List Nat) (o n : Nat) (M : List Nat) : List Nat := L.take o ++ mix ((L.drop o).take n) M ++ L.drop (o + n)
theorem crs_len {L M : List Nat} {o n : Nat} (h : o + n ≤ L.length) : (crs L o n M).length = L.length := by
  unfold crs
  rw [List.length_append, List.length_append, mix_len, List.length_take, List.length_take, List.length_drop, List.length_drop]
  omega
theorem crs_get {L M : List Nat} {o n j : Nat} (h : o + n ≤ L.length) : (crs L o n M).getD j 0 = if o ≤ j ∧ j < o + n then L.getD j 0 ^^^ M.getD (j - o) 0 else L.getD j 0 := by
  unfold crs
  have e1 : (L.take o).length = o := by rw [List.length_take]; omega
  have e2 : (mix ((L.drop o).take n) M).length = n := by rw [mix_len, List.length_take, List.length_drop]; omega
  rw [gD_app, List.length_append, e1, e2]
  by_cases c : j < o + n
  · rw [if_pos c, gD_app, e1]
    by_cases d : j < o
    · rw [if_pos d, if_neg (by omega), gD_take, if_pos d]
    · rw [if_neg d, if_pos (by omega), mix_get (by rw [List.length_take, List.length_drop]; omega), gD_take, if_pos (by omega), gD_drop, show o + (j - o) = j by omega]
  · rw [if_neg c, if_neg (by omega), gD_drop, show o + n + (j - (o + n)) = j by omega]
theorem crs_by {L M : List Nat} {o n : Nat} (hL : BY L) (hM : BY M) : BY (crs L o n M) := (hL.take.app (mix_by hL.drop.take hM)).app hL.drop

set_option maxHeartbeats 1000000 in
set_option maxRecDepth 100000 in
theorem c_X8_crosses (l : Launch) (w : Wl) (σ : St) (hk0 : w.2 13 0) (L M : List Nat) (hL : AW (σ 13 13) 0 L) (hLb : BY L) (hM : AW (σ 13 10) 0 M) (hMb : BY M) (o n : Nat) (hol : o + n ≤ L.length) (hnM : n ≤ M.length) (hL6 : L.length ≤ 600) (hM5 : M.length ≤ 512) : Cn l yX8_crosses cX8_crosses 4 none 0 0 wN [.ref (w.1 13 0), .int (iI ((o : Int))), .int (iI ((n : Int)))] w σ (fun _ σ' => AW (σ' 13 13) 0 (crs L o n M) ∧ Fr [(13, 13)] σ σ') := by
  refine Cn.of (own := RX8) (lv := [(0, .ref (w.1 13 0)), (1, .int (iI ((o : Int)))), (2, .int (iI ((n : Int))))]) (by decide +kernel) rfl (Nat.le_of_ble_eq_true rfl) rfl (fun X hX hxl hR hcl hret => ?_)
  subst hxl
  have hQ : ∀ q, (14, q) ∈ mn σ 13 0 → w.2 14 q := fun q h => hcl 13 0 hk0 (14, q) h
  have hQ5 : ∀ q, (14, q) ∈ mn σ 13 0 → w.2 15 q := fun q h => hcl 14 q (hQ q h) (15, q) (by simp [mn, tp])
  have hQ16 : ∀ q, (16, q) ∈ mn σ 13 0 → w.2 16 q := fun q h => hcl 13 0 hk0 (16, q) h
  have loop : ∀ (d j : Nat) (t : St), j + d = n → t 13 13 = cp (σ 13 13) o j (fun q => ((L.getD (o + q) 0 ^^^ M.getD q 0 : Nat) : Int)) → Fr [(13, 13)] σ t → V X (0, 0) w 2 [(3, .int (iI ((j : Int)))), (0, .ref (w.1 13 0)), (1, .int (iI ((o : Int)))), (2, .int (iI ((n : Int))))] t [] := by
    intro d
    induction d with
    | zero =>
      intro j t hj hc hf
      obtain rfl : j = n := by omega
      have hfin : AW (t 13 13) 0 (crs L o j M) := by
        refine AW.of (fun q hq => ?_)
        rw [crs_len hol] at hq
        rw [hc, crs_get hol]
        unfold cp
        by_cases c : o ≤ q ∧ q < o + j
        · rw [if_pos c, if_pos c]
          show (((L.getD (o + (q - o)) 0 ^^^ M.getD (q - o) 0 : Nat)) : Int) = _
          rw [show o + (q - o) = q by omega]
        · rw [if_neg c, if_neg c]; exact hL.get hq
      refine v_iload_n hX 0 rfl (atL dAX8_crosses_0 2 rfl) ?_
      refine v_iload_n hX 3 rfl (atL dAX8_crosses_0 3 rfl) ?_
      refine v_icmp_ge hX ⟨by omega, by omega⟩ ⟨by omega, by omega⟩ (tgt := 30) (atL dAX8_crosses_0 4 rfl) (by decide) (fun h4 => ?_) (fun h4 => absurd h4 (by omega))
      exact v_vret hX (atL dAX8_crosses_0 20 rfl) (hret () _ ⟨hfin, hf⟩)
    | succ d ih =>
      intro j t hj hc hf
      have h1 : t 13 13 (o + j) = ((L.getD (o + j) 0 : Nat) : Int) := by rw [hc]; unfold cp; rw [if_neg (by omega)]; exact hL.get (by omega)
      have h2 : t 13 10 j = ((M.getD j 0 : Nat) : Int) := by rw [hf 13 10 (by simp)]; exact hM.get (by omega)
      have hx1 := hLb.get (o + j)
      have hx2 := hMb.get j
      refine v_iload_n hX 0 rfl (atL dAX8_crosses_0 2 rfl) ?_
      refine v_iload_n hX 3 rfl (atL dAX8_crosses_0 3 rfl) ?_
      refine v_icmp_ge hX ⟨by omega, by omega⟩ ⟨by omega, by omega⟩ (tgt := 30) (atL dAX8_crosses_0 4 rfl) (by decide) (fun h4 => absurd h4 (by omega)) (fun h4 => ?_)
      refine v_aload_n hX 1 rfl (atL dAX8_crosses_0 5 rfl) ?_
      refine gf_X8_147 hX hk0 (atL dAX8_crosses_0 6 rfl) ?_
      refine v_iload_n hX 2 rfl (atL dAX8_crosses_0 7 rfl) ?_
      refine v_iload_n hX 0 rfl (atL dAX8_crosses_0 8 rfl) ?_
      refine v_iadd hX (iI_add _ _) (atL dAX8_crosses_0 9 rfl) ?_
      refine v_dup2 hX rfl rfl (atL dAX8_crosses_0 10 rfl) ?_
      refine v_iald hX (r := iI (((L.getD (o + j) 0 : Nat) : Int))) ((o + j)) (hQ16 13 (by simp [mn, tp])) (fun _ => rfl) (by omega) (show o + j < 600 by omega) (by decide) (congrArg iI h1) (atL dAX8_crosses_0 11 rfl) ?_
      refine v_aload_n hX 1 rfl (atL dAX8_crosses_0 12 rfl) ?_
      refine gf_X8_113 hX hk0 (atL dAX8_crosses_0 13 rfl) ?_
      refine v_iload_n hX 0 rfl (atL dAX8_crosses_0 14 rfl) ?_
      refine v_iald hX (r := iI (((M.getD j 0 : Nat) : Int))) j (hQ16 10 (by simp [mn, tp])) (fun _ => rfl) rfl (show j < 512 by omega) (by decide) (congrArg iI h2) (atL dAX8_crosses_0 15 rfl) ?_
      refine v_ixor hX (r := iI (((L.getD (o + j) 0 ^^^ M.getD j 0 : Nat) : Int))) (iI_xor hx1 hx2) (atL dAX8_crosses_0 16 rfl) ?_
      refine v_iast hX (c := 13) ((o + j)) (hQ16 13 (by simp [mn, tp])) (by decide) (fun _ _ => rfl) (by omega) (show o + j < 600 by omega) (by decide) (atL dAX8_crosses_0 17 rfl) ?_
      refine v_iinc hX (lv' := [(3, .int (iI (((j : Int)) + 1))), (0, .ref (w.1 13 0)), (1, .int (iI ((o : Int)))), (2, .int (iI ((n : Int))))]) 0 rfl (iI_add _ _) (Nat.le_of_ble_eq_true rfl) rfl (atL dAX8_crosses_0 18 rfl) ?_
      refine v_goto hX (tgt := 2) (atL dAX8_crosses_0 19 rfl) (by decide) ?_
      refine v_sub (lv' := [(3, .int (iI (((j : Int)) + 1))), (0, .ref (w.1 13 0)), (1, .int (iI ((o : Int)))), (2, .int (iI ((n : Int))))]) [0, 1, 2, 3] rfl ?_
      rw [show (j : Int) + 1 = ((j + 1 : Nat) : Int) by omega]
      exact ih (j + 1) _ (by omega) (cp_s hc rfl) (hf.tr' (Fr.su (by simp)))
  refine v_iconst hX (atL dAX8_crosses_0 0 rfl) ?_
  refine v_istore_n hX (i := 3) rfl (lv' := [(3, .int (iI (0))), (0, .ref (w.1 13 0)), (1, .int (iI ((o : Int)))), (2, .int (iI ((n : Int))))]) (Nat.le_of_ble_eq_true rfl) rfl (atL dAX8_crosses_0 1 rfl) ?_
  refine v_sub (lv' := [(3, .int (iI (0))), (0, .ref (w.1 13 0)), (1, .int (iI ((o : Int)))), (2, .int (iI ((n : Int))))]) [0, 1, 2, 3] rfl ?_
  exact loop n 0 σ (by omega) cp_0.symm Fr.rf

theorem wr_put [Gh] {σ s s' : St} {A : Ab} {t : Nat} {M : List Nat} {r : Int} (hB : BY M) (hM : HM σ A) (hG : FG σ s) (hA : AN s) (hD : DG s) (h0 : s 10 0 0 = 0) (ht : t < 24) (g : r = (M.length : Int) ∧ SM1 s' t M ∧ (∀ q, (q < 256 * t ∨ 256 * t + M.length ≤ q) → s' 13 0 q = s 13 0 q) ∧ (∀ q, q ≠ t → s' 13 1 q = s 13 1 q) ∧ Fr [(13, 0), (13, 1)] s s') : r = (M.length : Int) ∧ s' 10 0 0 = 0 ∧ HM s' (A.put t M) ∧ FC σ s' := by
  obtain ⟨A', e1, e2, e3⟩ := wr_post (f := (0, (M.length : Int), A.put t M)) rfl hB hM hG hA hD h0 ht g
  have e4 := congrArg Prod.fst e1
  have e5 := congrArg (fun q => q.2.2) e1
  have e6 : A.put t M = A' := e5
  subst e6
  exact ⟨g.1, e4.symm, e2, e3⟩

set_option maxHeartbeats 1000000 in
set_option maxRecDepth 100000 in
theorem c_X8_shows [Gh] (l : Launch) (w : Wl) (σ : St) (hk0 : w.2 13 0) (A : Ab) (hM : HM σ A) (h0 : σ 10 0 0 = 0) (L : List Nat) (n : Nat) (hn : L.length = n) (hL : AW (σ 13 13) 0 L) (hLb : BY L) (hn6 : n ≤ 256) (o : Nat) (ho : o ≤ n) (t : Nat) (ht : t < 24) : Cn l yX8_shows cX8_shows 5 (Option.some Jvm.ClassFile.FieldType.int) 1 22 wI [.ref (w.1 13 0), .int (iI ((o : Int))), .int (iI ((n : Int))), .int (iI ((t : Int)))] w σ (fun a σ' => a = ((n - o : Nat) : Int) ∧ σ' 10 0 0 = 0 ∧ HM σ' (A.put t (L.drop o)) ∧ FC σ σ') := by
  refine Cn.of (own := RX8) (lv := [(0, .ref (w.1 13 0)), (1, .int (iI ((o : Int)))), (2, .int (iI ((n : Int)))), (3, .int (iI ((t : Int))))]) (by decide +kernel) rfl (Nat.le_of_ble_eq_true rfl) rfl (fun X hX hxl hR hcl hret => ?_)
  subst hxl
  have hQ : ∀ q, (14, q) ∈ mn σ 13 0 → w.2 14 q := fun q h => hcl 13 0 hk0 (14, q) h
  have hQ5 : ∀ q, (14, q) ∈ mn σ 13 0 → w.2 15 q := fun q h => hcl 14 q (hQ q h) (15, q) (by simp [mn, tp])
  have hQ16 : ∀ q, (16, q) ∈ mn σ 13 0 → w.2 16 q := fun q h => hcl 13 0 hk0 (16, q) h
  refine v_aload_n hX 0 rfl (atL dAX8_shows_0 0 rfl) ?_
  refine v_callV hX (As := []) (rest := []) (c_X8_anew (xl X) w σ hk0) lk_X8_254 hk0 (fun _ => rfl) rfl rfl rfl (by rw [hR]; exact ⟨Nat.le_of_ble_eq_true rfl, Nat.le_of_ble_eq_true rfl⟩) ⟨Nat.zero_le _, Nat.zero_le _⟩ rfl (Nat.le_of_ble_eq_true rfl) (atL dAX8_shows_0 1 rfl) (fun _ s1 e1 => ?_)
  obtain ⟨hr1, gb1⟩ := anew_use e1
  have hG1 := FG.rf.fp gb1
  have hA1 := hM.2.1.fp gb1.1 rfl
  have hD1 := hM.2.2.fp gb1
  have ht1 : s1 10 0 0 = 0 := by rw [gb1.2 0 (by decide)]; omega
  have hl1 : ([] : List Nat).length = 0 := rfl
  show V X _ w _ _ s1 []
  refine v_iload_n hX 1 rfl (atL dAX8_shows_0 2 rfl) ?_
  refine v_istore hX (lv' := [(4, .int (iI ((o : Int)))), (0, .ref (w.1 13 0)), (1, .int (iI ((o : Int)))), (2, .int (iI ((n : Int)))), (3, .int (iI ((t : Int))))]) (Nat.le_of_ble_eq_true rfl) rfl (atL dAX8_shows_0 3 rfl) ?_
  have loop : ∀ (d j : Nat) (u : St), j + d = n - o → RO u ((L.drop o).take j) → FP s1 u → V X (0, 0) w 7 [(4, .int (iI (((o + j : Nat) : Int)))), (0, .ref (w.1 13 0)), (1, .int (iI ((o : Int)))), (2, .int (iI ((n : Int)))), (3, .int (iI ((t : Int))))] u [] := by
    intro d
    induction d with
    | zero =>
      intro j u hj hr hf
      have htt : u 10 0 0 = 0 := by rw [hf.2 0 (by decide)]; omega
      refine v_iload hX 0 rfl (atL dAX8_shows_0 4 rfl) ?_
      refine v_iload_n hX 3 rfl (atL dAX8_shows_0 5 rfl) ?_
      refine v_icmp_ge hX ⟨by omega, by omega⟩ ⟨by omega, by omega⟩ (tgt := 30) (atL dAX8_shows_0 6 rfl) (by decide) (fun h10 => ?_) (fun h10 => absurd h10 (by omega))
      refine v_aload_n hX 1 rfl (atL dAX8_shows_0 15 rfl) ?_
      refine v_iload_n hX 4 rfl (atL dAX8_shows_0 16 rfl) ?_
      refine v_callV hX (As := [.int (iI ((t : Int)))]) (rest := []) (c_X8_writes (xl X) w u hk0 ((L.drop o).take j) hr (by rw [(by rw [List.length_take, List.length_drop, hn]; omega : ((L.drop o).take j).length = j)]; omega) t (by omega)) lk_X8_257 hk0 (fun _ => rfl) rfl rfl rfl (by rw [hR]; exact ⟨Nat.le_of_ble_eq_true rfl, Nat.le_of_ble_eq_true rfl⟩) ⟨Nat.zero_le _, Nat.zero_le _⟩ rfl (Nat.le_of_ble_eq_true rfl) (atL dAX8_shows_0 17 rfl) (fun r2 s2 e2 => ?_)
      show V X _ w _ _ s2 [.int (iI (r2))]
      exact v_iret hX (atL dAX8_shows_0 18 rfl) (hret _ _ (by have hz := wr_put (hLb.drop.take) hM (hG1.fp hf) (hA1.fp hf.1 rfl) (hD1.fp hf) (by omega) ht e2; rw [List.take_of_length_le (by rw [List.length_drop, hn]; omega), List.length_drop, hn] at hz; exact hz))
    | succ d ih =>
      intro j u hj hr hf
      have htt : u 10 0 0 = 0 := by rw [hf.2 0 (by decide)]; omega
      have hpj : u 13 13 (o + j) = ((L.getD (o + j) 0 : Nat) : Int) := by rw [hf.1 13 13 (by decide), gb1.1 13 13 (by decide)]; exact hL.get (by omega)
      refine v_iload hX 0 rfl (atL dAX8_shows_0 4 rfl) ?_
      refine v_iload_n hX 3 rfl (atL dAX8_shows_0 5 rfl) ?_
      refine v_icmp_ge hX ⟨by omega, by omega⟩ ⟨by omega, by omega⟩ (tgt := 30) (atL dAX8_shows_0 6 rfl) (by decide) (fun h10 => absurd h10 (by omega)) (fun h10 => ?_)
      refine v_aload_n hX 1 rfl (atL dAX8_shows_0 7 rfl) ?_
      refine v_aload_n hX 1 rfl (atL dAX8_shows_0 8 rfl) ?_
      refine gf_X8_147 hX hk0 (atL dAX8_shows_0 9 rfl) ?_
      refine v_iload hX 0 rfl (atL dAX8_shows_0 10 rfl) ?_
      refine v_iald hX (r := iI (((L.getD (o + j) 0 : Nat) : Int))) ((o + j)) (hQ16 13 (by simp [mn, tp])) (fun _ => rfl) rfl (show o + j < 600 by omega) (by decide) (congrArg iI hpj) (atL dAX8_shows_0 11 rfl) ?_
      refine v_callV hX (As := [.int (iI (((L.getD (o + j) 0 : Nat) : Int)))]) (rest := []) (c_X8_puts (xl X) w u hk0 ((L.drop o).take j) hr (by rw [(by rw [List.length_take, List.length_drop, hn]; omega : ((L.drop o).take j).length = j)]; omega) (L.getD (o + j) 0)) lk_X8_251 hk0 (fun _ => rfl) rfl rfl rfl (by rw [hR]; exact ⟨Nat.le_of_ble_eq_true rfl, Nat.le_of_ble_eq_true rfl⟩) ⟨Nat.zero_le _, Nat.zero_le _⟩ rfl (Nat.le_of_ble_eq_true rfl) (atL dAX8_shows_0 12 rfl) (fun _ s3 e3 => ?_)
      obtain ⟨hr3, gb3⟩ := e3
      have hG3 := (hG1.fp hf).fp gb3
      have hA3 := (hA1.fp hf.1 rfl).fp gb3.1 rfl
      have hD3 := (hD1.fp hf).fp gb3
      have ht3 : s3 10 0 0 = 0 := by rw [gb3.2 0 (by decide)]; omega
      have hl3 : ((L.drop o).take j ++ [L.getD (o + j) 0]).length = j + 1 := by rw [List.length_append, (by rw [List.length_take, List.length_drop, hn]; omega : ((L.drop o).take j).length = j)]; rfl
      show V X _ w _ _ s3 []
      refine v_iinc hX (lv' := [(4, .int (iI ((((o + j : Nat) : Int)) + 1))), (0, .ref (w.1 13 0)), (1, .int (iI ((o : Int)))), (2, .int (iI ((n : Int)))), (3, .int (iI ((t : Int))))]) 0 rfl (iI_add _ _) (Nat.le_of_ble_eq_true rfl) rfl (atL dAX8_shows_0 13 rfl) ?_
      refine v_goto hX (tgt := 7) (atL dAX8_shows_0 14 rfl) (by decide) ?_
      refine v_sub (lv' := [(4, .int (iI ((((o + j : Nat) : Int)) + 1))), (0, .ref (w.1 13 0)), (1, .int (iI ((o : Int)))), (2, .int (iI ((n : Int)))), (3, .int (iI ((t : Int))))]) [0, 1, 2, 3, 4] rfl ?_
      rw [show ((o + j : Nat) : Int) + 1 = ((o + (j + 1) : Nat) : Int) by omega]
      rw [gD_take_succ (by rw [hn]; omega)] at hr3
      exact ih (j + 1) _ (by omega) hr3 (hf.tr gb3)
  refine v_sub (lv' := [(4, .int (iI ((o : Int)))), (0, .ref (w.1 13 0)), (1, .int (iI ((o : Int)))), (2, .int (iI ((n : Int)))), (3, .int (iI ((t : Int))))]) [0, 1, 2, 3, 4] rfl ?_
  have e0 := loop (n - o) 0 s1 (by omega) (by rw [List.take_zero]; exact hr1) FP.rf
  rw [Nat.add_zero] at e0
  exact e0

set_option maxHeartbeats 1000000 in
set_option maxRecDepth 100000 in
theorem c_X8_padded [Gh] (l : Launch) (w : Wl) (σ : St) (hk0 : w.2 13 0) (A : Ab) (hM : HM σ A) (h0 : σ 10 0 0 = 0) (kx : Nat) (hkx : kx < A.2.1) (P : Nat) (K : Nat → Nat) (hK : KM σ kx P K) (how : Nat) (hhow : 1 + how < P) (L : List Nat) (n : Nat) (hn : L.length = n) (hL : AW (σ 13 13) 0 L) (hLb : BY L) (hn6 : n ≤ 256) (t : Nat) (ht : t < 24) : Cn l yX8_padded cX8_padded 5 (Option.some Jvm.ClassFile.FieldType.int) 6 152 wI [.ref (w.1 13 0), .int (iI ((kx : Int))), .int (iI (((1 + how : Nat) : Int))), .int (iI ((n : Int))), .int (iI ((t : Int)))] w σ (fun a σ' => a = ((nby (K 0) : Nat) : Int) ∧ σ' 10 0 0 = 0 ∧ HM σ' (A.put t (tn K how L)) ∧ FC σ σ') := by
  refine Cn.of (own := RX8) (lv := [(0, .ref (w.1 13 0)), (1, .int (iI ((kx : Int)))), (2, .int (iI (((1 + how : Nat) : Int)))), (3, .int (iI ((n : Int)))), (4, .int (iI ((t : Int))))]) (by decide +kernel) rfl (Nat.le_of_ble_eq_true rfl) rfl (fun X hX hxl hR hcl hret => ?_)
  subst hxl
  have hQ : ∀ q, (14, q) ∈ mn σ 13 0 → w.2 14 q := fun q h => hcl 13 0 hk0 (14, q) h
  have hQ5 : ∀ q, (14, q) ∈ mn σ 13 0 → w.2 15 q := fun q h => hcl 14 q (hQ q h) (15, q) (by simp [mn, tp])
  have hQ16 : ∀ q, (16, q) ∈ mn σ 13 0 → w.2 16 q := fun q h => hcl 13 0 hk0 (16, q) h
  have hk16 := hM.1.2.2.2.1
  have hkb : ∀ j, j < P → lb (K j) 64 := fun j hj => by have := (hK.2.2.1 j hj).2.1; exact nby_lb this
  have hPP := hK.1
  have hK0 := hK.2.2.2
  have hKn := (hK.2.2.1 0 (by omega)).2.1
  have hbpd : lb (rv L) 128 := rv_lb hLb (by omega)
  refine v_aload_n hX 0 rfl (atL dAX8_padded_0 0 rfl) ?_
  refine gf_X8_147 hX hk0 (atL dAX8_padded_0 1 rfl) ?_
  refine v_iconst hX (atL dAX8_padded_0 2 rfl) ?_
  refine v_iload_n hX 3 rfl (atL dAX8_padded_0 3 rfl) ?_
  refine v_aload_n hX 0 rfl (atL dAX8_padded_0 4 rfl) ?_
  refine gf_X8_80 hX hk0 (atL dAX8_padded_0 5 rfl) ?_
  refine v_callS hX (As := [.ref (w.1 16 13), .int (iI (0)), .int (iI ((n : Int))), .ref (w.1 14 18)]) (rest := []) (c_X8_reads (xl X) w σ 13 (hQ16 13 (by simp [mn, tp])) L hLb 0 n hn hL (by show _ ≤ 600; omega) (by omega) 18 (hQ 18 (by simp [mn, tp])) (hM.2.1 18)) lk_X8_263 rfl (by rw [hR]; exact ⟨Nat.le_of_ble_eq_true rfl, Nat.le_of_ble_eq_true rfl⟩) ⟨Nat.zero_le _, Nat.zero_le _⟩ rfl (Nat.le_of_ble_eq_true rfl) (atL dAX8_padded_0 6 rfl) (fun _ s1 e1 => ?_)
  obtain ⟨hw1, hf1⟩ := e1
  have hA1 := hM.2.1.one hf1 hw1
  have hG1 := FG.rf.fr hf1 rfl (by decide)
  have hD1 := hM.2.2.fr hf1 (by decide) (by decide) (by decide)
  have ht1 : s1 10 0 0 = 0 := by rw [hf1 10 0 (by decide)]; omega
  have hpd1 : AW (s1 13 13) 0 L := by rw [hf1 13 13 (by decide)]; exact hL
  show V X _ w _ _ s1 []
  refine v_aload_n hX 0 rfl (atL dAX8_padded_0 7 rfl) ?_
  refine v_iload_n hX 1 rfl (atL dAX8_padded_0 8 rfl) ?_
  refine v_iload_n hX 2 rfl (atL dAX8_padded_0 9 rfl) ?_
  refine v_aload_n hX 0 rfl (atL dAX8_padded_0 10 rfl) ?_
  refine gf_X8_80 hX hk0 (atL dAX8_padded_0 11 rfl) ?_
  refine v_callV hX (As := [.int (iI ((kx : Int))), .int (iI (((1 + how : Nat) : Int))), .ref (w.1 14 18)]) (rest := []) (c_X8_turns (xl X) w s1 hk0 hA1 kx (by omega) P K (hK.fg hG1) ((1 + how)) (by omega) (rv L) hw1 hbpd) lk_X8_377 hk0 (fun _ => rfl) rfl rfl rfl (by rw [hR]; exact ⟨Nat.le_of_ble_eq_true rfl, Nat.le_of_ble_eq_true rfl⟩) ⟨Nat.zero_le _, Nat.zero_le _⟩ rfl (Nat.le_of_ble_eq_true rfl) (atL dAX8_padded_0 12 rfl) (fun _ s2 e2 => ?_)
  obtain ⟨hr2, hA2, hS2⟩ := e2
  have hG2 := FS.fg hG1 hS2
  have hD2 := FS.dg hD1 hS2
  have ht2 : s2 10 0 0 = 0 := by rw [hS2.2 0 (by decide)]; omega
  show V X _ w _ _ s2 []
  refine v_aload_n hX 0 rfl (atL dAX8_padded_0 13 rfl) ?_
  refine v_iload hX 4 rfl (atL dAX8_padded_0 14 rfl) ?_
  refine v_callV hX (As := [.int (iI ((t : Int)))]) (rest := []) (c_X8_writes (xl X) w s2 hk0 (be ((rv L) ^ K ((1 + how)) % K 0) (nby (K 0))) hr2 (by rw [(be_len : (be ((rv L) ^ K ((1 + how)) % K 0) (nby (K 0))).length = nby (K 0))]; omega) t (by omega)) lk_X8_257 hk0 (fun _ => rfl) rfl rfl rfl (by rw [hR]; exact ⟨Nat.le_of_ble_eq_true rfl, Nat.le_of_ble_eq_true rfl⟩) ⟨Nat.zero_le _, Nat.zero_le _⟩ rfl (Nat.le_of_ble_eq_true rfl) (atL dAX8_padded_0 15 rfl) (fun r3 s3 e3 => ?_)
  show V X _ w _ _ s3 [.int (iI (r3))]
  exact v_iret hX (atL dAX8_padded_0 16 rfl) (hret _ _ (by have hz := wr_put be_by hM hG2 hA2 hD2 (by omega) ht e3; rw [be_len] at hz; exact hz))
