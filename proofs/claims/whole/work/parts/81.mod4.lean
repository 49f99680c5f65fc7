def mv (m v : Nat) (x p : Nat) : Prop := (m : Int) ∣ (v : Int) * (p : Int) - (x : Int)
theorem mv_e {m v x y p q t : Nat} (h1 : mv m v x p) (h2 : mv m v y q) (h3 : (m : Int) ∣ (t : Int) + ((x / y : Nat) : Int) * (q : Int) - (p : Int)) : mv m v (x % y) t := by
  obtain ⟨a1, e1⟩ := h1
  obtain ⟨a2, e2⟩ := h2
  obtain ⟨a3, e3⟩ := h3
  have e4 : (x : Int) = ((x / y : Nat) : Int) * (y : Int) + ((x % y : Nat) : Int) := by
    have := Nat.div_add_mod x y
    rw [Nat.mul_comm] at this
    exact_mod_cast this.symm
  refine ⟨(v : Int) * a3 - ((x / y : Nat) : Int) * a2 + a1, ?_⟩
  generalize ((x / y : Nat) : Int) = c at *
  generalize ((x % y : Nat) : Int) = r at *
  grind
theorem mv_c {m c q p t : Nat} (h : t + c * q % m = p ∨ t + c * q % m = p + m) : (m : Int) ∣ (t : Int) + ((c : Nat) : Int) * (q : Int) - (p : Int) := by
  have e : ((c * q : Nat) : Int) = (m : Int) * ((c * q / m : Nat) : Int) + ((c * q % m : Nat) : Int) := by exact_mod_cast (Nat.div_add_mod (c * q) m).symm
  rw [← Int.natCast_mul]
  generalize ((c * q : Nat) : Int) = z at *
  rcases h with h | h
  · refine ⟨((c * q / m : Nat) : Int), ?_⟩
    generalize ((c * q / m : Nat) : Int) = w at *
    have h' : (t : Int) + ((c * q % m : Nat) : Int) = (p : Int) := by exact_mod_cast h
    generalize ((c * q % m : Nat) : Int) = r at *
    omega
  · refine ⟨((c * q / m : Nat) : Int) + 1, ?_⟩
    rw [Int.mul_add, Int.mul_one]
    have h' : (t : Int) + ((c * q % m : Nat) : Int) = (p : Int) + (m : Int) := by exact_mod_cast h
    generalize (m : Int) * ((c * q / m : Nat) : Int) = w at *
    generalize ((c * q % m : Nat) : Int) = r at *
    omega
theorem mv_end {m v i : Nat} (h : mv m v 1 i) : v * i % m = 1 % m := by
  have h1 : ((v : Int) * (i : Int)) % (m : Int) = (1 : Int) % (m : Int) := Int.emod_eq_emod_iff_emod_sub_eq_zero.mpr (Int.emod_eq_zero_of_dvd h)
  exact_mod_cast h1
theorem mv_0 {m v : Nat} : mv m v m 0 := ⟨-1, by rw [Int.mul_neg, Int.mul_one]; show (v : Int) * 0 - (m : Int) = _; rw [Int.mul_zero]; omega⟩
theorem mv_1 {m v : Nat} : mv m v (v % m) 1 := ⟨((v / m : Nat) : Int), by
  have e : (v : Int) = (m : Int) * ((v / m : Nat) : Int) + ((v % m : Nat) : Int) := by exact_mod_cast (Nat.div_add_mod v m).symm
  show (v : Int) * 1 - _ = _
  rw [Int.mul_one]
  omega⟩

set_option maxHeartbeats 1000000 in
set_option maxRecDepth 100000 in
theorem c_X8_invert (l : Launch) (w : Wl) (σ : St) (hk0 : w.2 13 0) (hAN : AN σ) (i v : Nat) (hi : w.2 14 i) (hn1 : NN σ i v) (bi : lb v 268) (li : 12 < i) (o m : Nat) (hj : w.2 14 o) (hn2 : NN σ o m) (bo : lb m 134) (hm0 : m ≠ 0) (lo : 12 < o) (t : Nat) (htv : w.2 14 t) (lt : 12 < t) : Cn l yX8_invert cX8_invert 4 (Option.some Jvm.ClassFile.FieldType.boolean) 3 79 wI [.ref (w.1 13 0), .ref (w.1 14 i), .ref (w.1 14 o), .ref (w.1 14 t)] w σ (fun a σ' => ((a = 1 ∧ Nat.gcd v m = 1 ∧ ∃ i, NN σ' t i ∧ i < m ∧ v * i % m = 1 % m) ∨ (a = 0 ∧ Nat.gcd v m ≠ 1)) ∧ AN σ' ∧ Fr [(11, 0), (12, 0), (11, 1), (12, 1), (11, 2), (12, 2), (11, 3), (12, 3), (11, 8), (12, 8), (11, 9), (12, 9), (11, 10), (12, 10), (11, 11), (12, 11), (11, 12), (12, 12), (11, t), (12, t)] σ σ') := by
  refine Cn.of (own := RX8) (lv := [(0, .ref (w.1 13 0)), (1, .ref (w.1 14 i)), (2, .ref (w.1 14 o)), (3, .ref (w.1 14 t))]) (by decide +kernel) rfl (Nat.le_of_ble_eq_true rfl) rfl (fun X hX hxl hR hcl hret => ?_)
  subst hxl
  have hQ : ∀ q, (14, q) ∈ mn σ 13 0 → w.2 14 q := fun q h => hcl 13 0 hk0 (14, q) h
  have hQ5 : ∀ q, (14, q) ∈ mn σ 13 0 → w.2 15 q := fun q h => hcl 14 q (hQ q h) (15, q) (by simp [mn, tp])
  have hQ16 : ∀ q, (16, q) ∈ mn σ 13 0 → w.2 16 q := fun q h => hcl 13 0 hk0 (16, q) h
  have loop : 1 < m → ∀ (b a p q : Nat) (s : St), lb a 134 → lb b 134 → p < m → q < m → mv m v a p → mv m v b q → Nat.gcd a b = Nat.gcd v m → NN s 8 a → NN s 9 b → NN s 10 p → NN s 11 q → NN s o m → AN s → Fr [(11, 0), (12, 0), (11, 1), (12, 1), (11, 2), (12, 2), (11, 3), (12, 3), (11, 8), (12, 8), (11, 9), (12, 9), (11, 10), (12, 10), (11, 11), (12, 11), (11, 12), (12, 12), (11, t), (12, t)] σ s → V X (0, 0) w 60 [(0, .ref (w.1 13 0)), (1, .ref (w.1 14 i)), (2, .ref (w.1 14 o)), (3, .ref (w.1 14 t))] s [] := by
    intro hm1 b
    induction b using Nat.strongRecOn with
    | _ b ih =>
      intro a p q s ha hb hp hq hmp hmq hg h8 h9 h10 h11 ho hA0 hG0
      obtain ⟨u9, hu9, hu98, hd9, ht9, hv9⟩ := id h9
      have hz9 := NN_0 ht9 hd9 hv9
      clear hd9 ht9 hv9
      have hpl : lb p 134 := lb_le bo (Nat.le_of_lt hp)
      have hql : lb q 134 := lb_le bo (Nat.le_of_lt hq)
      refine v_aload_n hX 0 rfl (atL dAX8_invert_0 32 rfl) ?_
      refine gf_X8_40 hX hk0 (atL dAX8_invert_0 33 rfl) ?_
      refine gf_X8_164 hX (v := (u9 : Int)) (hu9) (hQ 9 (by simp [mn, tp])) (atL dAX8_invert_0 34 rfl) ?_
      refine v_if_le hX ⟨by omega, by omega⟩ (tgt := 216) (atL dAX8_invert_0 35 rfl) (by decide) (fun h67 => ?_) (fun h67 => ?_)
      · have hb0 : b = 0 := hz9.mp (by omega)
        rw [hb0, Nat.gcd_zero_right] at hg
        refine v_aload_n hX 0 rfl (atL dAX8_invert_1 44 rfl) ?_
        refine gf_X8_37 hX hk0 (atL dAX8_invert_1 45 rfl) ?_
        refine v_iconst hX (atL dAX8_invert_1 46 rfl) ?_
        refine v_callN hX (As := [.int (iI (1))]) (rest := []) (c_X7_is (xl X) w s 8 a (hQ 8 (by simp [mn, tp])) h8 1 (by omega)) lk_X8_200 (hQ 8 (by simp [mn, tp])) (fun _ => rfl) rfl rfl rfl (by rw [hR]; exact ⟨Nat.le_of_ble_eq_true rfl, Nat.le_of_ble_eq_true rfl⟩) ⟨Nat.zero_le _, Nat.zero_le _⟩ rfl (Nat.le_of_ble_eq_true rfl) (atL dAX8_invert_1 47 rfl) (fun r1 z1 g1 => ?_)
        obtain ⟨gc1, gb1⟩ := g1
        rw [gb1]
        have gd1 : r1 = 0 ∨ r1 = 1 := by rcases gc1 with q | q <;> omega
        show V X _ w _ _ s [.int (iI (r1))]
        refine v_if_ne hX ⟨by omega, by omega⟩ (tgt := 229) (atL dAX8_invert_1 48 rfl) (by decide) (fun h224 => ?_) (fun h224 => ?_)
        · refine v_aload_n hX 3 rfl (atL dAX8_invert_1 51 rfl) ?_
          refine v_aload_n hX 0 rfl (atL dAX8_invert_1 52 rfl) ?_
          refine gf_X8_43 hX hk0 (atL dAX8_invert_1 53 rfl) ?_
          refine v_callN hX (As := [.ref (w.1 14 10)]) (rest := []) (c_X7_take (xl X) w s t htv (hA0 t) 10 p (hQ 10 (by simp [mn, tp])) h10) lk_X8_192 htv (fun _ => rfl) rfl rfl rfl (by rw [hR]; exact ⟨Nat.le_of_ble_eq_true rfl, Nat.le_of_ble_eq_true rfl⟩) ⟨Nat.zero_le _, Nat.zero_le _⟩ rfl (Nat.le_of_ble_eq_true rfl) (atL dAX8_invert_1 54 rfl) (fun _ s2 e2 => ?_)
          obtain ⟨hw2, hf2⟩ := e2
          have hA2 := hA0.one hf2 hw2
          have hn2_8 := nm.fr h8 hf2 (by simp <;> omega) (by simp <;> omega)
          have hn2_9 := nm.fr h9 hf2 (by simp <;> omega) (by simp <;> omega)
          have hn2_10 := nm.fr h10 hf2 (by simp <;> omega) (by simp <;> omega)
          have hn2_11 := nm.fr h11 hf2 (by simp <;> omega) (by simp <;> omega)
          have hG2 := hG0.tr' (hf2.mono (by simp))
          show V X _ w _ _ s2 []
          refine v_iconst hX (atL dAX8_invert_1 55 rfl) ?_
          exact v_zret hX (by decide +kernel) (atL dAX8_invert_1 56 rfl) (hret _ _ ⟨Or.inl ⟨rfl, by rw [← hg]; exact gc1.t h224, p, hw2, hp, mv_end (by rw [gc1.t h224] at hmp; exact hmp)⟩, hA2, hG2⟩)
        · refine v_iconst hX (atL dAX8_invert_1 49 rfl) ?_
          exact v_zret hX (by decide +kernel) (atL dAX8_invert_1 50 rfl) (hret _ _ ⟨Or.inr ⟨rfl, by rw [← hg]; exact gc1.f h224⟩, hA0, hG0⟩)
      · have hb0 : b ≠ 0 := fun z => by have := hz9.mpr z; omega
        refine v_aload_n hX 0 rfl (atL dAX8_invert_0 36 rfl) ?_
        refine v_aload_n hX 0 rfl (atL dAX8_invert_0 37 rfl) ?_
        refine gf_X8_37 hX hk0 (atL dAX8_invert_0 38 rfl) ?_
        refine v_aload_n hX 0 rfl (atL dAX8_invert_0 39 rfl) ?_
        refine gf_X8_40 hX hk0 (atL dAX8_invert_0 40 rfl) ?_
        refine v_aload_n hX 0 rfl (atL dAX8_invert_0 41 rfl) ?_
        refine gf_X8_19 hX hk0 (atL dAX8_invert_0 42 rfl) ?_
        refine v_callV hX (As := [.ref (w.1 14 8), .ref (w.1 14 9), .ref (w.1 14 2)]) (rest := []) (c_X8_divide (xl X) w s hk0 hA0 8 a (hQ 8 (by simp [mn, tp])) h8 9 b (hQ 9 (by simp [mn, tp])) h9 2 (hQ 2 (by simp [mn, tp])) hb0 (n_mono ha (by omega)) (by omega) (by omega) (by omega) (by omega) (by omega) (by omega)) lk_X8_188 hk0 (fun _ => rfl) rfl rfl rfl (by rw [hR]; exact ⟨Nat.le_of_ble_eq_true rfl, Nat.le_of_ble_eq_true rfl⟩) ⟨Nat.zero_le _, Nat.zero_le _⟩ rfl (Nat.le_of_ble_eq_true rfl) (atL dAX8_invert_0 43 rfl) (fun _ s3 e3 => ?_)
        obtain ⟨hw3, hwq3, hAp3, hf3⟩ := e3
        have hA3 := hAp3
        have hn3_9 := nm.fr h9 hf3 (by simp <;> omega) (by simp <;> omega)
        have hn3_10 := nm.fr h10 hf3 (by simp <;> omega) (by simp <;> omega)
        have hn3_11 := nm.fr h11 hf3 (by simp <;> omega) (by simp <;> omega)
        have hn3_o := nm.fr ho hf3 (by simp <;> omega) (by simp <;> omega)
        have hG3 := hG0.tr' (hf3.mono (by simp))
        show V X _ w _ _ s3 []
        refine v_aload_n hX 0 rfl (atL dAX8_invert_0 44 rfl) ?_
        refine gf_X8_49 hX hk0 (atL dAX8_invert_0 45 rfl) ?_
        refine v_aload_n hX 0 rfl (atL dAX8_invert_0 46 rfl) ?_
        refine gf_X8_37 hX hk0 (atL dAX8_invert_0 47 rfl) ?_
        refine v_callN hX (As := [.ref (w.1 14 8)]) (rest := []) (c_X7_take (xl X) w s3 12 (hQ 12 (by simp [mn, tp])) (hA3 12) 8 (a % b) (hQ 8 (by simp [mn, tp])) hw3) lk_X8_192 (hQ 12 (by simp [mn, tp])) (fun _ => rfl) rfl rfl rfl (by rw [hR]; exact ⟨Nat.le_of_ble_eq_true rfl, Nat.le_of_ble_eq_true rfl⟩) ⟨Nat.zero_le _, Nat.zero_le _⟩ rfl (Nat.le_of_ble_eq_true rfl) (atL dAX8_invert_0 48 rfl) (fun _ s4 e4 => ?_)
        obtain ⟨hw4, hf4⟩ := e4
        have hA4 := hA3.one hf4 hw4
        have hn4_8 := nm.fr hw3 hf4 (by simp <;> omega) (by simp <;> omega)
        have hn4_9 := nm.fr hn3_9 hf4 (by simp <;> omega) (by simp <;> omega)
        have hn4_10 := nm.fr hn3_10 hf4 (by simp <;> omega) (by simp <;> omega)
        have hn4_11 := nm.fr hn3_11 hf4 (by simp <;> omega) (by simp <;> omega)
        have hn4_o := nm.fr hn3_o hf4 (by simp <;> omega) (by simp <;> omega)
        have hn4_2 := nm.fr hwq3 hf4 (by simp <;> omega) (by simp <;> omega)
        have hG4 := hG3.tr' (hf4.mono (by simp))
        show V X _ w _ _ s4 []
        refine v_aload_n hX 0 rfl (atL dAX8_invert_0 49 rfl) ?_
        refine gf_X8_37 hX hk0 (atL dAX8_invert_0 50 rfl) ?_
        refine v_aload_n hX 0 rfl (atL dAX8_invert_0 51 rfl) ?_
        refine gf_X8_40 hX hk0 (atL dAX8_invert_0 52 rfl) ?_
        refine v_callN hX (As := [.ref (w.1 14 9)]) (rest := []) (c_X7_take (xl X) w s4 8 (hQ 8 (by simp [mn, tp])) (hA4 8) 9 b (hQ 9 (by simp [mn, tp])) hn4_9) lk_X8_192 (hQ 8 (by simp [mn, tp])) (fun _ => rfl) rfl rfl rfl (by rw [hR]; exact ⟨Nat.le_of_ble_eq_true rfl, Nat.le_of_ble_eq_true rfl⟩) ⟨Nat.zero_le _, Nat.zero_le _⟩ rfl (Nat.le_of_ble_eq_true rfl) (atL dAX8_invert_0 53 rfl) (fun _ s5 e5 => ?_)
        obtain ⟨hw5, hf5⟩ := e5
        have hA5 := hA4.one hf5 hw5
        have hn5_9 := nm.fr hn4_9 hf5 (by simp <;> omega) (by simp <;> omega)
        have hn5_10 := nm.fr hn4_10 hf5 (by simp <;> omega) (by simp <;> omega)
        have hn5_11 := nm.fr hn4_11 hf5 (by simp <;> omega) (by simp <;> omega)
        have hn5_o := nm.fr hn4_o hf5 (by simp <;> omega) (by simp <;> omega)
        have hn5_2 := nm.fr hn4_2 hf5 (by simp <;> omega) (by simp <;> omega)
        have hn5_12 := nm.fr hw4 hf5 (by simp <;> omega) (by simp <;> omega)
        have hG5 := hG4.tr' (hf5.mono (by simp))
        show V X _ w _ _ s5 []
        refine v_aload_n hX 0 rfl (atL dAX8_invert_0 54 rfl) ?_
        refine gf_X8_40 hX hk0 (atL dAX8_invert_0 55 rfl) ?_
        refine v_aload_n hX 0 rfl (atL dAX8_invert_0 56 rfl) ?_
        refine gf_X8_49 hX hk0 (atL dAX8_invert_0 57 rfl) ?_
        refine v_callN hX (As := [.ref (w.1 14 12)]) (rest := []) (c_X7_take (xl X) w s5 9 (hQ 9 (by simp [mn, tp])) (hA5 9) 12 (a % b) (hQ 12 (by simp [mn, tp])) hn5_12) lk_X8_192 (hQ 9 (by simp [mn, tp])) (fun _ => rfl) rfl rfl rfl (by rw [hR]; exact ⟨Nat.le_of_ble_eq_true rfl, Nat.le_of_ble_eq_true rfl⟩) ⟨Nat.zero_le _, Nat.zero_le _⟩ rfl (Nat.le_of_ble_eq_true rfl) (atL dAX8_invert_0 58 rfl) (fun _ s6 e6 => ?_)
        obtain ⟨hw6, hf6⟩ := e6
        have hA6 := hA5.one hf6 hw6
        have hn6_8 := nm.fr hw5 hf6 (by simp <;> omega) (by simp <;> omega)
        have hn6_10 := nm.fr hn5_10 hf6 (by simp <;> omega) (by simp <;> omega)
        have hn6_11 := nm.fr hn5_11 hf6 (by simp <;> omega) (by simp <;> omega)
        have hn6_o := nm.fr hn5_o hf6 (by simp <;> omega) (by simp <;> omega)
        have hn6_2 := nm.fr hn5_2 hf6 (by simp <;> omega) (by simp <;> omega)
        have hn6_12 := nm.fr hn5_12 hf6 (by simp <;> omega) (by simp <;> omega)
        have hG6 := hG5.tr' (hf6.mono (by simp))
        show V X _ w _ _ s6 []
        refine v_aload_n hX 0 rfl (atL dAX8_invert_0 59 rfl) ?_
        refine gf_X8_22 hX hk0 (atL dAX8_invert_1 0 rfl) ?_
        refine v_aload_n hX 0 rfl (atL dAX8_invert_1 1 rfl) ?_
        refine gf_X8_19 hX hk0 (atL dAX8_invert_1 2 rfl) ?_
        refine v_aload_n hX 0 rfl (atL dAX8_invert_1 3 rfl) ?_
        refine gf_X8_46 hX hk0 (atL dAX8_invert_1 4 rfl) ?_
        refine v_callN hX (As := [.ref (w.1 14 2), .ref (w.1 14 11)]) (rest := []) (c_X7_product (xl X) w s6 3 (hQ 3 (by simp [mn, tp])) (hA6 3) 2 (a / b) (hQ 2 (by simp [mn, tp])) hn6_2 11 q (hQ 11 (by simp [mn, tp])) hn6_11 (by omega) (by omega) 134 134 (lb_le ha (Nat.div_le_self _ _)) hql (by omega)) lk_X8_184 (hQ 3 (by simp [mn, tp])) (fun _ => rfl) rfl rfl rfl (by rw [hR]; exact ⟨Nat.le_of_ble_eq_true rfl, Nat.le_of_ble_eq_true rfl⟩) ⟨Nat.zero_le _, Nat.zero_le _⟩ rfl (Nat.le_of_ble_eq_true rfl) (atL dAX8_invert_1 5 rfl) (fun _ s7 e7 => ?_)
        obtain ⟨hw7, hf7⟩ := e7
        have hb7 : lb ((a / b) * q) 268 := n_mul_b (lb_le ha (Nat.div_le_self _ _)) hql (by omega)
        have hA7 := hA6.one hf7 hw7
        have hn7_8 := nm.fr hn6_8 hf7 (by simp <;> omega) (by simp <;> omega)
        have hn7_9 := nm.fr hw6 hf7 (by simp <;> omega) (by simp <;> omega)
        have hn7_10 := nm.fr hn6_10 hf7 (by simp <;> omega) (by simp <;> omega)
        have hn7_11 := nm.fr hn6_11 hf7 (by simp <;> omega) (by simp <;> omega)
        have hn7_o := nm.fr hn6_o hf7 (by simp <;> omega) (by simp <;> omega)
        have hn7_2 := nm.fr hn6_2 hf7 (by simp <;> omega) (by simp <;> omega)
        have hn7_12 := nm.fr hn6_12 hf7 (by simp <;> omega) (by simp <;> omega)
        have hG7 := hG6.tr' (hf7.mono (by simp))
        show V X _ w _ _ s7 []
        refine v_aload_n hX 0 rfl (atL dAX8_invert_1 6 rfl) ?_
        refine v_aload_n hX 0 rfl (atL dAX8_invert_1 7 rfl) ?_
        refine gf_X8_22 hX hk0 (atL dAX8_invert_1 8 rfl) ?_
        refine v_aload_n hX 2 rfl (atL dAX8_invert_1 9 rfl) ?_
        refine v_aload_n hX 0 rfl (atL dAX8_invert_1 10 rfl) ?_
        refine gf_X8_19 hX hk0 (atL dAX8_invert_1 11 rfl) ?_
        refine v_callV hX (As := [.ref (w.1 14 3), .ref (w.1 14 o), .ref (w.1 14 2)]) (rest := []) (c_X8_divide (xl X) w s7 hk0 hA7 3 ((a / b) * q) (hQ 3 (by simp [mn, tp])) hw7 o m hj hn7_o 2 (hQ 2 (by simp [mn, tp])) hm0 (n_mono hb7 (by omega)) (by omega) (by omega) (by omega) (by omega) (by omega) (by omega)) lk_X8_188 hk0 (fun _ => rfl) rfl rfl rfl (by rw [hR]; exact ⟨Nat.le_of_ble_eq_true rfl, Nat.le_of_ble_eq_true rfl⟩) ⟨Nat.zero_le _, Nat.zero_le _⟩ rfl (Nat.le_of_ble_eq_true rfl) (atL dAX8_invert_1 12 rfl) (fun _ s8 e8 => ?_)
        obtain ⟨hw8, hwq8, hAp8, hf8⟩ := e8
        have hA8 := hAp8
        have hn8_8 := nm.fr hn7_8 hf8 (by simp <;> omega) (by simp <;> omega)
        have hn8_9 := nm.fr hn7_9 hf8 (by simp <;> omega) (by simp <;> omega)
        have hn8_10 := nm.fr hn7_10 hf8 (by simp <;> omega) (by simp <;> omega)
        have hn8_11 := nm.fr hn7_11 hf8 (by simp <;> omega) (by simp <;> omega)
        have hn8_o := nm.fr hn7_o hf8 (by simp <;> omega) (by simp <;> omega)
        have hn8_12 := nm.fr hn7_12 hf8 (by simp <;> omega) (by simp <;> omega)
        have hG8 := hG7.tr' (hf8.mono (by simp))
        show V X _ w _ _ s8 []
        obtain ⟨K, hK⟩ : ∃ z, a / b * q % m = z := ⟨_, rfl⟩
        have hKm : K < m := by rw [← hK]; exact Nat.mod_lt _ (by omega)
        rw [hK] at hw8
        refine v_aload_n hX 0 rfl (atL dAX8_invert_1 13 rfl) ?_
        refine gf_X8_49 hX hk0 (atL dAX8_invert_1 14 rfl) ?_
        refine v_aload_n hX 0 rfl (atL dAX8_invert_1 15 rfl) ?_
        refine gf_X8_43 hX hk0 (atL dAX8_invert_1 16 rfl) ?_
        refine v_callN hX (As := [.ref (w.1 14 10)]) (rest := []) (c_X7_take (xl X) w s8 12 (hQ 12 (by simp [mn, tp])) (hA8 12) 10 p (hQ 10 (by simp [mn, tp])) hn8_10) lk_X8_192 (hQ 12 (by simp [mn, tp])) (fun _ => rfl) rfl rfl rfl (by rw [hR]; exact ⟨Nat.le_of_ble_eq_true rfl, Nat.le_of_ble_eq_true rfl⟩) ⟨Nat.zero_le _, Nat.zero_le _⟩ rfl (Nat.le_of_ble_eq_true rfl) (atL dAX8_invert_1 17 rfl) (fun _ s9 e9 => ?_)
        obtain ⟨hw9, hf9⟩ := e9
        have hA9 := hA8.one hf9 hw9
        have hn9_8 := nm.fr hn8_8 hf9 (by simp <;> omega) (by simp <;> omega)
        have hn9_9 := nm.fr hn8_9 hf9 (by simp <;> omega) (by simp <;> omega)
        have hn9_10 := nm.fr hn8_10 hf9 (by simp <;> omega) (by simp <;> omega)
        have hn9_11 := nm.fr hn8_11 hf9 (by simp <;> omega) (by simp <;> omega)
        have hn9_o := nm.fr hn8_o hf9 (by simp <;> omega) (by simp <;> omega)
        have hn9_2 := nm.fr hwq8 hf9 (by simp <;> omega) (by simp <;> omega)
        have hn9_3 := nm.fr hw8 hf9 (by simp <;> omega) (by simp <;> omega)
        have hG9 := hG8.tr' (hf9.mono (by simp))
        show V X _ w _ _ s9 []
        refine v_aload_n hX 0 rfl (atL dAX8_invert_1 18 rfl) ?_
        refine gf_X8_49 hX hk0 (atL dAX8_invert_1 19 rfl) ?_
        refine v_aload_n hX 0 rfl (atL dAX8_invert_1 20 rfl) ?_
        refine gf_X8_22 hX hk0 (atL dAX8_invert_1 21 rfl) ?_
        refine v_callN hX (As := [.ref (w.1 14 3)]) (rest := []) (c_X7_compare (xl X) w s9 12 p (hQ 12 (by simp [mn, tp])) hw9 3 K (hQ 3 (by simp [mn, tp])) hn9_3) lk_X8_160 (hQ 12 (by simp [mn, tp])) (fun _ => rfl) rfl rfl rfl (by rw [hR]; exact ⟨Nat.le_of_ble_eq_true rfl, Nat.le_of_ble_eq_true rfl⟩) ⟨Nat.zero_le _, Nat.zero_le _⟩ rfl (Nat.le_of_ble_eq_true rfl) (atL dAX8_invert_1 22 rfl) (fun r10 z10 g10 => ?_)
        obtain ⟨ga10, gb10⟩ := g10
        rw [gb10]
        have gc10 : (r10 = -1 ∧ p < K) ∨ (r10 = 0 ∧ p = K) ∨ (r10 = 1 ∧ K < p) := ord3 ga10
        show V X _ w _ _ s9 [.int (iI (r10))]
        refine v_if_ge hX ⟨by omega, by omega⟩ (tgt := 180) (atL dAX8_invert_1 23 rfl) (by decide) (fun h169 => ?_) (fun h169 => ?_)
        · refine v_aload_n hX 0 rfl (atL dAX8_invert_1 28 rfl) ?_
          refine gf_X8_49 hX hk0 (atL dAX8_invert_1 29 rfl) ?_
          refine v_aload_n hX 0 rfl (atL dAX8_invert_1 30 rfl) ?_
          refine gf_X8_22 hX hk0 (atL dAX8_invert_1 31 rfl) ?_
          refine v_callN hX (As := [.ref (w.1 14 3)]) (rest := []) (c_X7_less (xl X) w s9 12 p (hQ 12 (by simp [mn, tp])) hw9 3 K (hQ 3 (by simp [mn, tp])) hn9_3 (by omega) (by omega)) lk_X8_214 (hQ 12 (by simp [mn, tp])) (fun _ => rfl) rfl rfl rfl (by rw [hR]; exact ⟨Nat.le_of_ble_eq_true rfl, Nat.le_of_ble_eq_true rfl⟩) ⟨Nat.zero_le _, Nat.zero_le _⟩ rfl (Nat.le_of_ble_eq_true rfl) (atL dAX8_invert_1 32 rfl) (fun _ s11 e11 => ?_)
          obtain ⟨hw11, hf11⟩ := e11
          have hA11 := hA9.one hf11 hw11
          have hn11_8 := nm.fr hn9_8 hf11 (by simp <;> omega) (by simp <;> omega)
          have hn11_9 := nm.fr hn9_9 hf11 (by simp <;> omega) (by simp <;> omega)
          have hn11_10 := nm.fr hn9_10 hf11 (by simp <;> omega) (by simp <;> omega)
          have hn11_11 := nm.fr hn9_11 hf11 (by simp <;> omega) (by simp <;> omega)
          have hn11_o := nm.fr hn9_o hf11 (by simp <;> omega) (by simp <;> omega)
          have hn11_2 := nm.fr hn9_2 hf11 (by simp <;> omega) (by simp <;> omega)
          have hn11_3 := nm.fr hn9_3 hf11 (by simp <;> omega) (by simp <;> omega)
          have hG11 := hG9.tr' (hf11.mono (by simp))
          show V X _ w _ _ s11 []
          refine v_aload_n hX 0 rfl (atL dAX8_invert_1 33 rfl) ?_
          refine gf_X8_43 hX hk0 (atL dAX8_invert_1 34 rfl) ?_
          refine v_aload_n hX 0 rfl (atL dAX8_invert_1 35 rfl) ?_
          refine gf_X8_46 hX hk0 (atL dAX8_invert_1 36 rfl) ?_
          refine v_callN hX (As := [.ref (w.1 14 11)]) (rest := []) (c_X7_take (xl X) w s11 10 (hQ 10 (by simp [mn, tp])) (hA11 10) 11 q (hQ 11 (by simp [mn, tp])) hn11_11) lk_X8_192 (hQ 10 (by simp [mn, tp])) (fun _ => rfl) rfl rfl rfl (by rw [hR]; exact ⟨Nat.le_of_ble_eq_true rfl, Nat.le_of_ble_eq_true rfl⟩) ⟨Nat.zero_le _, Nat.zero_le _⟩ rfl (Nat.le_of_ble_eq_true rfl) (atL dAX8_invert_1 37 rfl) (fun _ s12 e12 => ?_)
          obtain ⟨hw12, hf12⟩ := e12
          have hA12 := hA11.one hf12 hw12
          have hn12_8 := nm.fr hn11_8 hf12 (by simp <;> omega) (by simp <;> omega)
          have hn12_9 := nm.fr hn11_9 hf12 (by simp <;> omega) (by simp <;> omega)
          have hn12_11 := nm.fr hn11_11 hf12 (by simp <;> omega) (by simp <;> omega)
          have hn12_o := nm.fr hn11_o hf12 (by simp <;> omega) (by simp <;> omega)
          have hn12_2 := nm.fr hn11_2 hf12 (by simp <;> omega) (by simp <;> omega)
          have hn12_12 := nm.fr hw11 hf12 (by simp <;> omega) (by simp <;> omega)
          have hn12_3 := nm.fr hn11_3 hf12 (by simp <;> omega) (by simp <;> omega)
          have hG12 := hG11.tr' (hf12.mono (by simp))
          show V X _ w _ _ s12 []
          refine v_aload_n hX 0 rfl (atL dAX8_invert_1 38 rfl) ?_
          refine gf_X8_46 hX hk0 (atL dAX8_invert_1 39 rfl) ?_
          refine v_aload_n hX 0 rfl (atL dAX8_invert_1 40 rfl) ?_
          refine gf_X8_49 hX hk0 (atL dAX8_invert_1 41 rfl) ?_
          refine v_callN hX (As := [.ref (w.1 14 12)]) (rest := []) (c_X7_take (xl X) w s12 11 (hQ 11 (by simp [mn, tp])) (hA12 11) 12 (p - K) (hQ 12 (by simp [mn, tp])) hn12_12) lk_X8_192 (hQ 11 (by simp [mn, tp])) (fun _ => rfl) rfl rfl rfl (by rw [hR]; exact ⟨Nat.le_of_ble_eq_true rfl, Nat.le_of_ble_eq_true rfl⟩) ⟨Nat.zero_le _, Nat.zero_le _⟩ rfl (Nat.le_of_ble_eq_true rfl) (atL dAX8_invert_1 42 rfl) (fun _ s13 e13 => ?_)
          obtain ⟨hw13, hf13⟩ := e13
          have hA13 := hA12.one hf13 hw13
          have hn13_8 := nm.fr hn12_8 hf13 (by simp <;> omega) (by simp <;> omega)
          have hn13_9 := nm.fr hn12_9 hf13 (by simp <;> omega) (by simp <;> omega)
          have hn13_10 := nm.fr hw12 hf13 (by simp <;> omega) (by simp <;> omega)
          have hn13_o := nm.fr hn12_o hf13 (by simp <;> omega) (by simp <;> omega)
          have hn13_2 := nm.fr hn12_2 hf13 (by simp <;> omega) (by simp <;> omega)
          have hn13_12 := nm.fr hn12_12 hf13 (by simp <;> omega) (by simp <;> omega)
          have hn13_3 := nm.fr hn12_3 hf13 (by simp <;> omega) (by simp <;> omega)
          have hG13 := hG12.tr' (hf13.mono (by simp))
          show V X _ w _ _ s13 []
          refine v_goto hX (tgt := 60) (atL dAX8_invert_1 43 rfl) (by decide) ?_
          refine v_sub (lv' := [(0, .ref (w.1 13 0)), (1, .ref (w.1 14 i)), (2, .ref (w.1 14 o)), (3, .ref (w.1 14 t))]) [0, 1, 2, 3] rfl ?_
          exact ih (a % b) (Nat.mod_lt _ (by omega)) b q _ _ hb (lb_mod hb0 hb) hq (by omega) hmq (mv_e hmp hmq (mv_c (by rw [hK]; omega))) (by rw [← hg, Nat.gcd_comm b, ← Nat.gcd_rec, Nat.gcd_comm]) hn13_8 hn13_9 hn13_10 hw13 hn13_o hA13 hG13
        · refine v_aload_n hX 0 rfl (atL dAX8_invert_1 24 rfl) ?_
          refine gf_X8_49 hX hk0 (atL dAX8_invert_1 25 rfl) ?_
          refine v_aload_n hX 2 rfl (atL dAX8_invert_1 26 rfl) ?_
          refine v_callN hX (As := [.ref (w.1 14 o)]) (rest := []) (c_X7_add (xl X) w s9 12 p (hQ 12 (by simp [mn, tp])) hw9 o m hj hn9_o (by omega) (n_mono hpl (by omega)) (n_mono bo (by omega))) lk_X8_211 (hQ 12 (by simp [mn, tp])) (fun _ => rfl) rfl rfl rfl (by rw [hR]; exact ⟨Nat.le_of_ble_eq_true rfl, Nat.le_of_ble_eq_true rfl⟩) ⟨Nat.zero_le _, Nat.zero_le _⟩ rfl (Nat.le_of_ble_eq_true rfl) (atL dAX8_invert_1 27 rfl) (fun _ s14 e14 => ?_)
          obtain ⟨hw14, hf14⟩ := e14
          have hb14 : lb (p + m) 135 := n_add_b (e := 134) (n_mono hpl (by omega)) (n_mono bo (by omega))
          have hA14 := hA9.one hf14 hw14
          have hn14_8 := nm.fr hn9_8 hf14 (by simp <;> omega) (by simp <;> omega)
          have hn14_9 := nm.fr hn9_9 hf14 (by simp <;> omega) (by simp <;> omega)
          have hn14_10 := nm.fr hn9_10 hf14 (by simp <;> omega) (by simp <;> omega)
          have hn14_11 := nm.fr hn9_11 hf14 (by simp <;> omega) (by simp <;> omega)
          have hn14_o := nm.fr hn9_o hf14 (by simp <;> omega) (by simp <;> omega)
          have hn14_2 := nm.fr hn9_2 hf14 (by simp <;> omega) (by simp <;> omega)
          have hn14_3 := nm.fr hn9_3 hf14 (by simp <;> omega) (by simp <;> omega)
          have hG14 := hG9.tr' (hf14.mono (by simp))
          show V X _ w _ _ s14 []
          refine v_aload_n hX 0 rfl (atL dAX8_invert_1 28 rfl) ?_
          refine gf_X8_49 hX hk0 (atL dAX8_invert_1 29 rfl) ?_
          refine v_aload_n hX 0 rfl (atL dAX8_invert_1 30 rfl) ?_
          refine gf_X8_22 hX hk0 (atL dAX8_invert_1 31 rfl) ?_
          refine v_callN hX (As := [.ref (w.1 14 3)]) (rest := []) (c_X7_less (xl X) w s14 12 (p + m) (hQ 12 (by simp [mn, tp])) hw14 3 K (hQ 3 (by simp [mn, tp])) hn14_3 (by omega) (by omega)) lk_X8_214 (hQ 12 (by simp [mn, tp])) (fun _ => rfl) rfl rfl rfl (by rw [hR]; exact ⟨Nat.le_of_ble_eq_true rfl, Nat.le_of_ble_eq_true rfl⟩) ⟨Nat.zero_le _, Nat.zero_le _⟩ rfl (Nat.le_of_ble_eq_true rfl) (atL dAX8_invert_1 32 rfl) (fun _ s15 e15 => ?_)
          obtain ⟨hw15, hf15⟩ := e15
          have hA15 := hA14.one hf15 hw15
          have hn15_8 := nm.fr hn14_8 hf15 (by simp <;> omega) (by simp <;> omega)
          have hn15_9 := nm.fr hn14_9 hf15 (by simp <;> omega) (by simp <;> omega)
          have hn15_10 := nm.fr hn14_10 hf15 (by simp <;> omega) (by simp <;> omega)
          have hn15_11 := nm.fr hn14_11 hf15 (by simp <;> omega) (by simp <;> omega)
          have hn15_o := nm.fr hn14_o hf15 (by simp <;> omega) (by simp <;> omega)
          have hn15_2 := nm.fr hn14_2 hf15 (by simp <;> omega) (by simp <;> omega)
          have hn15_3 := nm.fr hn14_3 hf15 (by simp <;> omega) (by simp <;> omega)
          have hG15 := hG14.tr' (hf15.mono (by simp))
          show V X _ w _ _ s15 []
          refine v_aload_n hX 0 rfl (atL dAX8_invert_1 33 rfl) ?_
          refine gf_X8_43 hX hk0 (atL dAX8_invert_1 34 rfl) ?_
          refine v_aload_n hX 0 rfl (atL dAX8_invert_1 35 rfl) ?_
          refine gf_X8_46 hX hk0 (atL dAX8_invert_1 36 rfl) ?_
          refine v_callN hX (As := [.ref (w.1 14 11)]) (rest := []) (c_X7_take (xl X) w s15 10 (hQ 10 (by simp [mn, tp])) (hA15 10) 11 q (hQ 11 (by simp [mn, tp])) hn15_11) lk_X8_192 (hQ 10 (by simp [mn, tp])) (fun _ => rfl) rfl rfl rfl (by rw [hR]; exact ⟨Nat.le_of_ble_eq_true rfl, Nat.le_of_ble_eq_true rfl⟩) ⟨Nat.zero_le _, Nat.zero_le _⟩ rfl (Nat.le_of_ble_eq_true rfl) (atL dAX8_invert_1 37 rfl) (fun _ s16 e16 => ?_)
          obtain ⟨hw16, hf16⟩ := e16
          have hA16 := hA15.one hf16 hw16
          have hn16_8 := nm.fr hn15_8 hf16 (by simp <;> omega) (by simp <;> omega)
          have hn16_9 := nm.fr hn15_9 hf16 (by simp <;> omega) (by simp <;> omega)
          have hn16_11 := nm.fr hn15_11 hf16 (by simp <;> omega) (by simp <;> omega)
          have hn16_o := nm.fr hn15_o hf16 (by simp <;> omega) (by simp <;> omega)
          have hn16_2 := nm.fr hn15_2 hf16 (by simp <;> omega) (by simp <;> omega)
          have hn16_12 := nm.fr hw15 hf16 (by simp <;> omega) (by simp <;> omega)
          have hn16_3 := nm.fr hn15_3 hf16 (by simp <;> omega) (by simp <;> omega)
          have hG16 := hG15.tr' (hf16.mono (by simp))
          show V X _ w _ _ s16 []
          refine v_aload_n hX 0 rfl (atL dAX8_invert_1 38 rfl) ?_
          refine gf_X8_46 hX hk0 (atL dAX8_invert_1 39 rfl) ?_
          refine v_aload_n hX 0 rfl (atL dAX8_invert_1 40 rfl) ?_
          refine gf_X8_49 hX hk0 (atL dAX8_invert_1 41 rfl) ?_
          refine v_callN hX (As := [.ref (w.1 14 12)]) (rest := []) (c_X7_take (xl X) w s16 11 (hQ 11 (by simp [mn, tp])) (hA16 11) 12 (p + m - K) (hQ 12 (by simp [mn, tp])) hn16_12) lk_X8_192 (hQ 11 (by simp [mn, tp])) (fun _ => rfl) rfl rfl rfl (by rw [hR]; exact ⟨Nat.le_of_ble_eq_true rfl, Nat.le_of_ble_eq_true rfl⟩) ⟨Nat.zero_le _, Nat.zero_le _⟩ rfl (Nat.le_of_ble_eq_true rfl) (atL dAX8_invert_1 42 rfl) (fun _ s17 e17 => ?_)
          obtain ⟨hw17, hf17⟩ := e17
          have hA17 := hA16.one hf17 hw17
          have hn17_8 := nm.fr hn16_8 hf17 (by simp <;> omega) (by simp <;> omega)
          have hn17_9 := nm.fr hn16_9 hf17 (by simp <;> omega) (by simp <;> omega)
          have hn17_10 := nm.fr hw16 hf17 (by simp <;> omega) (by simp <;> omega)
          have hn17_o := nm.fr hn16_o hf17 (by simp <;> omega) (by simp <;> omega)
          have hn17_2 := nm.fr hn16_2 hf17 (by simp <;> omega) (by simp <;> omega)
          have hn17_12 := nm.fr hn16_12 hf17 (by simp <;> omega) (by simp <;> omega)
          have hn17_3 := nm.fr hn16_3 hf17 (by simp <;> omega) (by simp <;> omega)
          have hG17 := hG16.tr' (hf17.mono (by simp))
          show V X _ w _ _ s17 []
          refine v_goto hX (tgt := 60) (atL dAX8_invert_1 43 rfl) (by decide) ?_
          refine v_sub (lv' := [(0, .ref (w.1 13 0)), (1, .ref (w.1 14 i)), (2, .ref (w.1 14 o)), (3, .ref (w.1 14 t))]) [0, 1, 2, 3] rfl ?_
          exact ih (a % b) (Nat.mod_lt _ (by omega)) b q _ _ hb (lb_mod hb0 hb) hq (by omega) hmq (mv_e hmp hmq (mv_c (by rw [hK]; omega))) (by rw [← hg, Nat.gcd_comm b, ← Nat.gcd_rec, Nat.gcd_comm]) hn17_8 hn17_9 hn17_10 hw17 hn17_o hA17 hG17
  refine v_aload_n hX 2 rfl (atL dAX8_invert_0 0 rfl) ?_
  refine v_iconst hX (atL dAX8_invert_0 1 rfl) ?_
  refine v_callN hX (As := [.int (iI (1))]) (rest := []) (c_X7_is (xl X) w σ o m hj hn2 1 (by omega)) lk_X8_200 hj (fun _ => rfl) rfl rfl rfl (by rw [hR]; exact ⟨Nat.le_of_ble_eq_true rfl, Nat.le_of_ble_eq_true rfl⟩) ⟨Nat.zero_le _, Nat.zero_le _⟩ rfl (Nat.le_of_ble_eq_true rfl) (atL dAX8_invert_0 2 rfl) (fun r18 z18 g18 => ?_)
  obtain ⟨gc18, gb18⟩ := g18
  rw [gb18]
  have gd18 : r18 = 0 ∨ r18 = 1 := by rcases gc18 with q | q <;> omega
  show V X _ w _ _ σ [.int (iI (r18))]
  refine v_if_eq hX ⟨by omega, by omega⟩ (tgt := 15) (atL dAX8_invert_0 3 rfl) (by decide) (fun h5 => ?_) (fun h5 => ?_)
  · refine v_aload_n hX 0 rfl (atL dAX8_invert_0 9 rfl) ?_
    refine gf_X8_37 hX hk0 (atL dAX8_invert_0 10 rfl) ?_
    refine v_aload_n hX 2 rfl (atL dAX8_invert_0 11 rfl) ?_
    refine v_callN hX (As := [.ref (w.1 14 o)]) (rest := []) (c_X7_take (xl X) w σ 8 (hQ 8 (by simp [mn, tp])) (hAN 8) o m hj hn2) lk_X8_192 (hQ 8 (by simp [mn, tp])) (fun _ => rfl) rfl rfl rfl (by rw [hR]; exact ⟨Nat.le_of_ble_eq_true rfl, Nat.le_of_ble_eq_true rfl⟩) ⟨Nat.zero_le _, Nat.zero_le _⟩ rfl (Nat.le_of_ble_eq_true rfl) (atL dAX8_invert_0 12 rfl) (fun _ s19 e19 => ?_)
    obtain ⟨hw19, hf19⟩ := e19
    have hA19 := hAN.one hf19 hw19
    have hn19_i := nm.fr hn1 hf19 (by simp <;> omega) (by simp <;> omega)
    have hn19_o := nm.fr hn2 hf19 (by simp <;> omega) (by simp <;> omega)
    have hG19 := (Fr.rf : Fr [(11, 0), (12, 0), (11, 1), (12, 1), (11, 2), (12, 2), (11, 3), (12, 3), (11, 8), (12, 8), (11, 9), (12, 9), (11, 10), (12, 10), (11, 11), (12, 11), (11, 12), (12, 12), (11, t), (12, t)] σ σ).tr' (hf19.mono (by simp))
    show V X _ w _ _ s19 []
    refine v_aload_n hX 0 rfl (atL dAX8_invert_0 13 rfl) ?_
    refine gf_X8_40 hX hk0 (atL dAX8_invert_0 14 rfl) ?_
    refine v_aload_n hX 1 rfl (atL dAX8_invert_0 15 rfl) ?_
    refine v_callN hX (As := [.ref (w.1 14 i)]) (rest := []) (c_X7_take (xl X) w s19 9 (hQ 9 (by simp [mn, tp])) (hA19 9) i v hi hn19_i) lk_X8_192 (hQ 9 (by simp [mn, tp])) (fun _ => rfl) rfl rfl rfl (by rw [hR]; exact ⟨Nat.le_of_ble_eq_true rfl, Nat.le_of_ble_eq_true rfl⟩) ⟨Nat.zero_le _, Nat.zero_le _⟩ rfl (Nat.le_of_ble_eq_true rfl) (atL dAX8_invert_0 16 rfl) (fun _ s20 e20 => ?_)
    obtain ⟨hw20, hf20⟩ := e20
    have hA20 := hA19.one hf20 hw20
    have hn20_i := nm.fr hn19_i hf20 (by simp <;> omega) (by simp <;> omega)
    have hn20_o := nm.fr hn19_o hf20 (by simp <;> omega) (by simp <;> omega)
    have hn20_8 := nm.fr hw19 hf20 (by simp <;> omega) (by simp <;> omega)
    have hG20 := hG19.tr' (hf20.mono (by simp))
    show V X _ w _ _ s20 []
    refine v_aload_n hX 0 rfl (atL dAX8_invert_0 17 rfl) ?_
    refine v_aload_n hX 0 rfl (atL dAX8_invert_0 18 rfl) ?_
    refine gf_X8_40 hX hk0 (atL dAX8_invert_0 19 rfl) ?_
    refine v_aload_n hX 2 rfl (atL dAX8_invert_0 20 rfl) ?_
    refine v_aload_n hX 0 rfl (atL dAX8_invert_0 21 rfl) ?_
    refine gf_X8_19 hX hk0 (atL dAX8_invert_0 22 rfl) ?_
    refine v_callV hX (As := [.ref (w.1 14 9), .ref (w.1 14 o), .ref (w.1 14 2)]) (rest := []) (c_X8_divide (xl X) w s20 hk0 hA20 9 v (hQ 9 (by simp [mn, tp])) hw20 o m hj hn20_o 2 (hQ 2 (by simp [mn, tp])) hm0 (n_mono bi (by omega)) (by omega) (by omega) (by omega) (by omega) (by omega) (by omega)) lk_X8_188 hk0 (fun _ => rfl) rfl rfl rfl (by rw [hR]; exact ⟨Nat.le_of_ble_eq_true rfl, Nat.le_of_ble_eq_true rfl⟩) ⟨Nat.zero_le _, Nat.zero_le _⟩ rfl (Nat.le_of_ble_eq_true rfl) (atL dAX8_invert_0 23 rfl) (fun _ s21 e21 => ?_)
    obtain ⟨hw21, hwq21, hAp21, hf21⟩ := e21
    have hA21 := hAp21
    have hn21_i := nm.fr hn20_i hf21 (by simp <;> omega) (by simp <;> omega)
    have hn21_o := nm.fr hn20_o hf21 (by simp <;> omega) (by simp <;> omega)
    have hn21_8 := nm.fr hn20_8 hf21 (by simp <;> omega) (by simp <;> omega)
    have hG21 := hG20.tr' (hf21.mono (by simp))
    show V X _ w _ _ s21 []
    refine v_aload_n hX 0 rfl (atL dAX8_invert_0 24 rfl) ?_
    refine gf_X8_43 hX hk0 (atL dAX8_invert_0 25 rfl) ?_
    refine v_iconst hX (atL dAX8_invert_0 26 rfl) ?_
    refine v_callN hX (As := [.int (iI (0))]) (rest := []) (c_X7_set (xl X) w s21 10 (hQ 10 (by simp [mn, tp])) (hA21 10) 0 (by omega)) lk_X8_196 (hQ 10 (by simp [mn, tp])) (fun _ => rfl) rfl rfl rfl (by rw [hR]; exact ⟨Nat.le_of_ble_eq_true rfl, Nat.le_of_ble_eq_true rfl⟩) ⟨Nat.zero_le _, Nat.zero_le _⟩ rfl (Nat.le_of_ble_eq_true rfl) (atL dAX8_invert_0 27 rfl) (fun _ s22 e22 => ?_)
    obtain ⟨hw22, hf22⟩ := e22
    have hA22 := hA21.one hf22 hw22
    have hn22_i := nm.fr hn21_i hf22 (by simp <;> omega) (by simp <;> omega)
    have hn22_o := nm.fr hn21_o hf22 (by simp <;> omega) (by simp <;> omega)
    have hn22_8 := nm.fr hn21_8 hf22 (by simp <;> omega) (by simp <;> omega)
    have hn22_9 := nm.fr hw21 hf22 (by simp <;> omega) (by simp <;> omega)
    have hn22_2 := nm.fr hwq21 hf22 (by simp <;> omega) (by simp <;> omega)
    have hG22 := hG21.tr' (hf22.mono (by simp))
    show V X _ w _ _ s22 []
    refine v_aload_n hX 0 rfl (atL dAX8_invert_0 28 rfl) ?_
    refine gf_X8_46 hX hk0 (atL dAX8_invert_0 29 rfl) ?_
    refine v_iconst hX (atL dAX8_invert_0 30 rfl) ?_
    refine v_callN hX (As := [.int (iI (1))]) (rest := []) (c_X7_set (xl X) w s22 11 (hQ 11 (by simp [mn, tp])) (hA22 11) 1 (by omega)) lk_X8_196 (hQ 11 (by simp [mn, tp])) (fun _ => rfl) rfl rfl rfl (by rw [hR]; exact ⟨Nat.le_of_ble_eq_true rfl, Nat.le_of_ble_eq_true rfl⟩) ⟨Nat.zero_le _, Nat.zero_le _⟩ rfl (Nat.le_of_ble_eq_true rfl) (atL dAX8_invert_0 31 rfl) (fun _ s23 e23 => ?_)
    obtain ⟨hw23, hf23⟩ := e23
    have hA23 := hA22.one hf23 hw23
    have hn23_i := nm.fr hn22_i hf23 (by simp <;> omega) (by simp <;> omega)
    have hn23_o := nm.fr hn22_o hf23 (by simp <;> omega) (by simp <;> omega)
    have hn23_8 := nm.fr hn22_8 hf23 (by simp <;> omega) (by simp <;> omega)
    have hn23_9 := nm.fr hn22_9 hf23 (by simp <;> omega) (by simp <;> omega)
    have hn23_2 := nm.fr hn22_2 hf23 (by simp <;> omega) (by simp <;> omega)
    have hn23_10 := nm.fr hw22 hf23 (by simp <;> omega) (by simp <;> omega)
    have hG23 := hG22.tr' (hf23.mono (by simp))
    show V X _ w _ _ s23 []
    refine v_sub (lv' := [(0, .ref (w.1 13 0)), (1, .ref (w.1 14 i)), (2, .ref (w.1 14 o)), (3, .ref (w.1 14 t))]) [0, 1, 2, 3] rfl ?_
    exact loop (by have := gc18.f h5; omega) (v % m) m 0 1 _ bo (lb_mod hm0 bo) (by omega) (by have := gc18.f h5; omega) mv_0 mv_1 (by rw [Nat.gcd_comm m, ← Nat.gcd_rec, Nat.gcd_comm]) hn23_8 hn23_9 hn23_10 hw23 hn23_o hA23 hG23
  · refine v_aload_n hX 3 rfl (atL dAX8_invert_0 4 rfl) ?_
    refine v_iconst hX (atL dAX8_invert_0 5 rfl) ?_
    refine v_callN hX (As := [.int (iI (0))]) (rest := []) (c_X7_set (xl X) w σ t htv (hAN t) 0 (by omega)) lk_X8_196 htv (fun _ => rfl) rfl rfl rfl (by rw [hR]; exact ⟨Nat.le_of_ble_eq_true rfl, Nat.le_of_ble_eq_true rfl⟩) ⟨Nat.zero_le _, Nat.zero_le _⟩ rfl (Nat.le_of_ble_eq_true rfl) (atL dAX8_invert_0 6 rfl) (fun _ s24 e24 => ?_)
    obtain ⟨hw24, hf24⟩ := e24
    have hA24 := hAN.one hf24 hw24
    have hG24 := (Fr.rf : Fr [(11, 0), (12, 0), (11, 1), (12, 1), (11, 2), (12, 2), (11, 3), (12, 3), (11, 8), (12, 8), (11, 9), (12, 9), (11, 10), (12, 10), (11, 11), (12, 11), (11, 12), (12, 12), (11, t), (12, t)] σ σ).tr' (hf24.mono (by simp))
    show V X _ w _ _ s24 []
    refine v_iconst hX (atL dAX8_invert_0 7 rfl) ?_
    exact v_zret hX (by decide +kernel) (atL dAX8_invert_0 8 rfl) (hret _ _ ⟨Or.inl ⟨rfl, by rw [gc18.t h5]; exact Nat.gcd_one_right v, 0, hw24, by omega, by rw [gc18.t h5, Nat.mod_one, Nat.mod_one]⟩, hA24, hG24⟩)
