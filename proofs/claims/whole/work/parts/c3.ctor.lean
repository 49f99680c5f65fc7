/-! what constructors use -/
theorem zr_id {σ : St} {c i : Nat} (h : ∀ j, σ c i j = 0) : zr σ c i = σ := by
  funext c' i' j
  unfold zr
  by_cases e : c' = c ∧ i' = i
  · rw [if_pos e, e.1, e.2, h j]
  · rw [if_neg e]
def fsX6 : List Value := [.null, .null, .null, .int 0, .null, .null, .null, .null, .null, .null, .null, .null, .null, .null, .null, .null]
theorem fsX6_ok : ∀ j, j < 16 → defaultValue (tyX6 j) = vp_V fsX6 j
  | 0, _ => rfl
  | 1, _ => rfl
  | 2, _ => rfl
  | 3, _ => rfl
  | 4, _ => rfl
  | 5, _ => rfl
  | 6, _ => rfl
  | 7, _ => rfl
  | 8, _ => rfl
  | 9, _ => rfl
  | 10, _ => rfl
  | 11, _ => rfl
  | 12, _ => rfl
  | 13, _ => rfl
  | 14, _ => rfl
  | 15, _ => rfl
  | n + 16, h => absurd h (by omega)
theorem raw0_X6 (σ : St) (i : Nat) (h : σ 21 0 i = 0) (g : Nat → ClassId) (ad : Ly) : cont g ad σ 30 i = .inr (6, fsX6) := by
  show raw ad σ 0 i = _
  unfold raw
  rw [h]
  rfl
theorem mn0_X6 (σ : St) (i : Nat) (h : σ 21 0 i = 0) : mn σ 30 i = [] := by
  show (rawL 0 i).filterMap (fun q => if q.1.1 = 0 ∧ (q.2 : Int) < σ 21 0 i then some q.1.2 else none) = []
  rw [h]
  apply List.filterMap_eq_nil_iff.mpr
  intro q _
  exact if_neg (fun e => by have := e.2; omega)
theorem hcX6 : vwCl[6]? = some (RX6, TX6, 16) := rfl
theorem nw_L_8 {X : CX} {z : Nat × Nat} {w : Wl} {pc nx : Nat} {lv : List (Nat × Value)} {σ : St} {st : List Value} {cc : ByteArray} {nL : Nat} {ret : Option FieldType} (hX : okX X cc nL RL ret) (hf : ¬ w.2 30 0) (hz : z.1 + 1 ≤ (xR X).cells ∧ z.2 + 16 ≤ (xR X).slots) (hdg : At cc pc (.new 8) 3 nx) (kk : ∀ a : Nat, V X (z.1 + 1, z.2 + 16) (wup w 30 0 a) nx lv (su σ 21 0 0 0) (.ref a :: st)) : V X z w pc lv σ st := v_z21 (by decide) (by decide) hf (v_newO hX tyX6 hcX6 in_X6 tyX6_ok wd_15 wd_16 wd_1 hf (fun g a => raw0_X6 _ _ su_s g _) (mn0_X6 _ _ su_s) fsX6_ok hz hdg kk)
theorem li_L_96 : LkI RL 96 yX6_init cX6_init 2 0 := ⟨gd_cons wd_19, wd_17, wd_18, wd_1, rfl, by decide, by decide, by decide +kernel⟩
theorem oi_X6_1 {X : CX} {z : Nat × Nat} {w : Wl} {pc nx : Nat} {lv : List (Nat × Value)} {σ : St} {st : List Value} {cc : ByteArray} {nL : Nat} {ret : Option FieldType} (hX : okX X cc nL RX6 ret) {a : Nat} (hR : 1 ≤ (xR X).frames ∧ (st.map fun v => v.category).sum + 12 ≤ (xR X).locals) (hdg : At cc pc (.invokespecial 1) 3 nx) (kk : V X z w nx lv σ st) : V X z w pc lv σ (.ref a :: st) := v_objI hX wd_20 hR hdg kk
def fsX4 : List Value := [.null, .int 0]
theorem fsX4_ok : ∀ j, j < 2 → defaultValue (tyX4 j) = vp_V fsX4 j
  | 0, _ => rfl
  | 1, _ => rfl
  | n + 2, h => absurd h (by omega)
theorem raw0_X4 (σ : St) (i : Nat) (h : σ 21 1 i = 0) (g : Nat → ClassId) (ad : Ly) : cont g ad σ 31 i = .inr (4, fsX4) := by
  show raw ad σ 1 i = _
  unfold raw
  rw [h]
  rfl
theorem mn0_X4 (σ : St) (i : Nat) (h : σ 21 1 i = 0) : mn σ 31 i = [] := by
  show (rawL 1 i).filterMap (fun q => if q.1.1 = 0 ∧ (q.2 : Int) < σ 21 1 i then some q.1.2 else none) = []
  rw [h]
  apply List.filterMap_eq_nil_iff.mpr
  intro q _
  exact if_neg (fun e => by have := e.2; omega)
theorem hcX4 : vwCl[4]? = some (RX4, TX4, 2) := rfl
theorem nw_X6_9 {X : CX} {z : Nat × Nat} {w : Wl} {pc nx : Nat} {lv : List (Nat × Value)} {σ : St} {st : List Value} {cc : ByteArray} {nL : Nat} {ret : Option FieldType} (hX : okX X cc nL RX6 ret) {i : Nat} (hf : ¬ w.2 31 i) (hz : z.1 + 1 ≤ (xR X).cells ∧ z.2 + 2 ≤ (xR X).slots) (hdg : At cc pc (.new 9) 3 nx) (kk : ∀ a : Nat, V X (z.1 + 1, z.2 + 2) (wup w 31 i a) nx lv (su σ 21 1 i 0) (.ref a :: st)) : V X z w pc lv σ st := v_z21 (by decide) (by decide) hf (v_newO hX tyX4 hcX4 in_X4 tyX4_ok wd_23 wd_25 wd_2 hf (fun g a => raw0_X4 _ _ su_s g _) (mn0_X4 _ _ su_s) fsX4_ok hz hdg kk)
theorem li_X6_15 : LkI RX6 15 yX4_init cX4_init 2 1 := ⟨gd_cons wd_28, wd_26, wd_27, wd_2, rfl, by decide, by decide, by decide +kernel⟩
theorem oi_X4_1 {X : CX} {z : Nat × Nat} {w : Wl} {pc nx : Nat} {lv : List (Nat × Value)} {σ : St} {st : List Value} {cc : ByteArray} {nL : Nat} {ret : Option FieldType} (hX : okX X cc nL RX4 ret) {a : Nat} (hR : 1 ≤ (xR X).frames ∧ (st.map fun v => v.category).sum + 12 ≤ (xR X).locals) (hdg : At cc pc (.invokespecial 1) 3 nx) (kk : V X z w nx lv σ st) : V X z w pc lv σ (.ref a :: st) := v_objI hX wd_29 hR hdg kk
set_option maxRecDepth 20000 in
theorem rp_X4_7 {X : CX} {z : Nat × Nat} {w : Wl} {pc nx : Nat} {lv : List (Nat × Value)} {σ : St} {st : List Value} {cc : ByteArray} {nL : Nat} {ret : Option FieldType} (hX : okX X cc nL RX4 ret) {i : Nat} (hnm : (xM X).name = "<init>") (hl : w.2 31 i) (hv : w.2 2 i) (hσ : σ 21 1 i = 0) (hdg : At cc pc (.putfield 7) 3 nx) (kk : V X z w nx lv (su σ 21 1 i (((0 : Nat) : Int) + 1)) st) : V X z w pc lv σ (.ref (w.1 2 i) :: .ref (w.1 31 i) :: st) := v_putR hX (k := 1) (i := i) (j := 0) (r := 0) (ty := tyX4 0) (by decide) (by decide) hl hv (fun _ _ _ => rfl) (fun _ => rfl) rfl hσ (by rfl) hcX4 in_X4 tyX4_ok nmX4 (by decide) wd_30 rfl (Or.inr ⟨rfl, hnm, rfl⟩) (tyX4_ok 0 (by decide)) (fun _ => rfl) (fun _ => rfl) hdg kk
theorem zp_X4_13 {X : CX} {z : Nat × Nat} {w : Wl} {pc nx : Nat} {lv : List (Nat × Value)} {σ : St} {st : List Value} {cc : ByteArray} {nL : Nat} {ret : Option FieldType} (hX : okX X cc nL RX4 ret) {i : Nat} (hnm : (xM X).name = "<init>") (hl : w.2 31 i) (hσ : σ 21 1 i = 1) (hdg : At cc pc (.putfield 13) 3 nx) (kk : V X z w nx lv σ st) : V X z w pc lv σ (.int (iI 0) :: .ref (w.1 31 i) :: st) := v_putG hX (k := 31) (i := i) (ci := 4) (j := 1) (v := .int (iI 0)) (ty := tyX4 1) (fs := (rawL 1 i).map (fr w.1 1)) σ hl (fun g => by show raw w.1 σ 1 i = _; unfold raw; rw [hσ]; rfl) hcX4 in_X4 tyX4_ok nmX4 (by decide) wd_31 rfl (Or.inl rfl) (tyX4_ok 1 (by decide)) rfl rfl (Nat.le_of_ble_eq_true rfl) (fun g => by show raw w.1 σ 1 i = _; unfold raw; rw [hσ]; rfl) (fun _ _ _ _ _ => rfl) (fun h => h) hdg kk
def fsX2 : List Value := [.null, .int 0]
theorem fsX2_ok : ∀ j, j < 2 → defaultValue (tyX2 j) = vp_V fsX2 j
  | 0, _ => rfl
  | 1, _ => rfl
  | n + 2, h => absurd h (by omega)
theorem raw0_X2 (σ : St) (i : Nat) (h : σ 21 5 i = 0) (g : Nat → ClassId) (ad : Ly) : cont g ad σ 35 i = .inr (2, fsX2) := by
  show raw ad σ 5 i = _
  unfold raw
  rw [h]
  rfl
theorem mn0_X2 (σ : St) (i : Nat) (h : σ 21 5 i = 0) : mn σ 35 i = [] := by
  show (rawL 5 i).filterMap (fun q => if q.1.1 = 0 ∧ (q.2 : Int) < σ 21 5 i then some q.1.2 else none) = []
  rw [h]
  apply List.filterMap_eq_nil_iff.mpr
  intro q _
  exact if_neg (fun e => by have := e.2; omega)
theorem hcX2 : vwCl[2]? = some (RX2, TX2, 2) := rfl
theorem nw_X6_22 {X : CX} {z : Nat × Nat} {w : Wl} {pc nx : Nat} {lv : List (Nat × Value)} {σ : St} {st : List Value} {cc : ByteArray} {nL : Nat} {ret : Option FieldType} (hX : okX X cc nL RX6 ret) {i : Nat} (hf : ¬ w.2 35 i) (hz : z.1 + 1 ≤ (xR X).cells ∧ z.2 + 2 ≤ (xR X).slots) (hdg : At cc pc (.new 22) 3 nx) (kk : ∀ a : Nat, V X (z.1 + 1, z.2 + 2) (wup w 35 i a) nx lv (su σ 21 5 i 0) (.ref a :: st)) : V X z w pc lv σ st := v_z21 (by decide) (by decide) hf (v_newO hX tyX2 hcX2 in_X2 tyX2_ok wd_42 wd_718 wd_14 hf (fun g a => raw0_X2 _ _ su_s g _) (mn0_X2 _ _ su_s) fsX2_ok hz hdg kk)
def fsX0 : List Value := [.null, .null, .int 0, .null, .null, .null, .null, .null, .null, .null, .null, .null, .null, .null, .null, .null, .null]
theorem fsX0_ok : ∀ j, j < 17 → defaultValue (tyX0 j) = vp_V fsX0 j
  | 0, _ => rfl
  | 1, _ => rfl
  | 2, _ => rfl
  | 3, _ => rfl
  | 4, _ => rfl
  | 5, _ => rfl
  | 6, _ => rfl
  | 7, _ => rfl
  | 8, _ => rfl
  | 9, _ => rfl
  | 10, _ => rfl
  | 11, _ => rfl
  | 12, _ => rfl
  | 13, _ => rfl
  | 14, _ => rfl
  | 15, _ => rfl
  | 16, _ => rfl
  | n + 17, h => absurd h (by omega)
theorem raw0_X0 (σ : St) (i : Nat) (h : σ 21 7 i = 0) (g : Nat → ClassId) (ad : Ly) : cont g ad σ 37 i = .inr (0, fsX0) := by
  show raw ad σ 7 i = _
  unfold raw
  rw [h]
  rfl
theorem mn0_X0 (σ : St) (i : Nat) (h : σ 21 7 i = 0) : mn σ 37 i = [] := by
  show (rawL 7 i).filterMap (fun q => if q.1.1 = 0 ∧ (q.2 : Int) < σ 21 7 i then some q.1.2 else none) = []
  rw [h]
  apply List.filterMap_eq_nil_iff.mpr
  intro q _
  exact if_neg (fun e => by have := e.2; omega)
theorem hcX0 : vwCl[0]? = some (RX0, TX0, 17) := rfl
theorem nw_X6_32 {X : CX} {z : Nat × Nat} {w : Wl} {pc nx : Nat} {lv : List (Nat × Value)} {σ : St} {st : List Value} {cc : ByteArray} {nL : Nat} {ret : Option FieldType} (hX : okX X cc nL RX6 ret) (hf : ¬ w.2 37 0) (hz : z.1 + 1 ≤ (xR X).cells ∧ z.2 + 17 ≤ (xR X).slots) (hdg : At cc pc (.new 32) 3 nx) (kk : ∀ a : Nat, V X (z.1 + 1, z.2 + 17) (wup w 37 0 a) nx lv (su σ 21 7 0 0) (.ref a :: st)) : V X z w pc lv σ st := v_z21 (by decide) (by decide) hf (v_newO hX tyX0 hcX0 in_X0 tyX0_ok wd_44 wd_45 wd_3 hf (fun g a => raw0_X0 _ _ su_s g _) (mn0_X0 _ _ su_s) fsX0_ok hz hdg kk)
theorem li_X6_34 : LkIN RX6 34 yX0_init cX0_init 1 0 := ⟨gd_cons wd_48, Or.inr nw_2, wd_47, wd_3, rfl, by decide, by decide, by decide +kernel⟩
theorem oi_X0_3 {X : CX} {z : Nat × Nat} {w : Wl} {pc nx : Nat} {lv : List (Nat × Value)} {σ : St} {st : List Value} {cc : ByteArray} {nL : Nat} {ret : Option FieldType} (hX : okX X cc nL RX0 ret) {a : Nat} (hR : 1 ≤ (xR X).frames ∧ (st.map fun v => v.category).sum + 12 ≤ (xR X).locals) (hdg : At cc pc (.invokespecial 3) 3 nx) (kk : V X z w nx lv σ st) : V X z w pc lv σ (.ref a :: st) := v_objI hX wd_49 hR hdg kk
def fsX5 : List Value := [.null, .int 0]
theorem fsX5_ok : ∀ j, j < 2 → defaultValue (tyX5 j) = vp_V fsX5 j
  | 0, _ => rfl
  | 1, _ => rfl
  | n + 2, h => absurd h (by omega)
theorem raw0_X5 (σ : St) (i : Nat) (h : σ 21 3 i = 0) (g : Nat → ClassId) (ad : Ly) : cont g ad σ 33 i = .inr (5, fsX5) := by
  show raw ad σ 3 i = _
  unfold raw
  rw [h]
  rfl
theorem mn0_X5 (σ : St) (i : Nat) (h : σ 21 3 i = 0) : mn σ 33 i = [] := by
  show (rawL 3 i).filterMap (fun q => if q.1.1 = 0 ∧ (q.2 : Int) < σ 21 3 i then some q.1.2 else none) = []
  rw [h]
  apply List.filterMap_eq_nil_iff.mpr
  intro q _
  exact if_neg (fun e => by have := e.2; omega)
theorem hcX5 : vwCl[5]? = some (RX5, TX5, 2) := rfl
theorem nw_X0_9 {X : CX} {z : Nat × Nat} {w : Wl} {pc nx : Nat} {lv : List (Nat × Value)} {σ : St} {st : List Value} {cc : ByteArray} {nL : Nat} {ret : Option FieldType} (hX : okX X cc nL RX0 ret) {i : Nat} (hf : ¬ w.2 33 i) (hz : z.1 + 1 ≤ (xR X).cells ∧ z.2 + 2 ≤ (xR X).slots) (hdg : At cc pc (.new 9) 3 nx) (kk : ∀ a : Nat, V X (z.1 + 1, z.2 + 2) (wup w 33 i a) nx lv (su σ 21 3 i 0) (.ref a :: st)) : V X z w pc lv σ st := v_z21 (by decide) (by decide) hf (v_newO hX tyX5 hcX5 in_X5 tyX5_ok wd_50 wd_51 wd_4 hf (fun g a => raw0_X5 _ _ su_s g _) (mn0_X5 _ _ su_s) fsX5_ok hz hdg kk)
theorem li_X0_11 : LkI RX0 11 yX5_init cX5_init 1 0 := ⟨gd_cons wd_54, wd_52, wd_53, wd_4, rfl, by decide, by decide, by decide +kernel⟩
theorem oi_X5_3 {X : CX} {z : Nat × Nat} {w : Wl} {pc nx : Nat} {lv : List (Nat × Value)} {σ : St} {st : List Value} {cc : ByteArray} {nL : Nat} {ret : Option FieldType} (hX : okX X cc nL RX5 ret) {a : Nat} (hR : 1 ≤ (xR X).frames ∧ (st.map fun v => v.category).sum + 12 ≤ (xR X).locals) (hdg : At cc pc (.invokespecial 3) 3 nx) (kk : V X z w nx lv σ st) : V X z w pc lv σ (.ref a :: st) := v_objI hX wd_55 hR hdg kk
set_option maxRecDepth 20000 in
theorem rp_X5_9 {X : CX} {z : Nat × Nat} {w : Wl} {pc nx : Nat} {lv : List (Nat × Value)} {σ : St} {st : List Value} {cc : ByteArray} {nL : Nat} {ret : Option FieldType} (hX : okX X cc nL RX5 ret) {i : Nat} (hnm : (xM X).name = "<init>") (hl : w.2 33 i) (hv : w.2 4 i) (hσ : σ 21 3 i = 0) (hdg : At cc pc (.putfield 9) 3 nx) (kk : V X z w nx lv (su σ 21 3 i (((0 : Nat) : Int) + 1)) st) : V X z w pc lv σ (.ref (w.1 4 i) :: .ref (w.1 33 i) :: st) := v_putR hX (k := 3) (i := i) (j := 0) (r := 0) (ty := tyX5 0) (by decide) (by decide) hl hv (fun _ _ _ => rfl) (fun _ => rfl) rfl hσ (by rfl) hcX5 in_X5 tyX5_ok nmX5 (by decide) wd_56 rfl (Or.inr ⟨rfl, hnm, rfl⟩) (tyX5_ok 0 (by decide)) (fun _ => rfl) (fun _ => rfl) hdg kk
theorem zp_X5_13 {X : CX} {z : Nat × Nat} {w : Wl} {pc nx : Nat} {lv : List (Nat × Value)} {σ : St} {st : List Value} {cc : ByteArray} {nL : Nat} {ret : Option FieldType} (hX : okX X cc nL RX5 ret) {i : Nat} (hnm : (xM X).name = "<init>") (hl : w.2 33 i) (hσ : σ 21 3 i = 1) (hdg : At cc pc (.putfield 13) 3 nx) (kk : V X z w nx lv σ st) : V X z w pc lv σ (.int (iI 0) :: .ref (w.1 33 i) :: st) := v_putG hX (k := 33) (i := i) (ci := 5) (j := 1) (v := .int (iI 0)) (ty := tyX5 1) (fs := (rawL 3 i).map (fr w.1 1)) σ hl (fun g => by show raw w.1 σ 3 i = _; unfold raw; rw [hσ]; rfl) hcX5 in_X5 tyX5_ok nmX5 (by decide) wd_58 rfl (Or.inl rfl) (tyX5_ok 1 (by decide)) rfl rfl (Nat.le_of_ble_eq_true rfl) (fun g => by show raw w.1 σ 3 i = _; unfold raw; rw [hσ]; rfl) (fun _ _ _ _ _ => rfl) (fun h => h) hdg kk
set_option maxRecDepth 20000 in
theorem rp_X0_12 {X : CX} {z : Nat × Nat} {w : Wl} {pc nx : Nat} {lv : List (Nat × Value)} {σ : St} {st : List Value} {cc : ByteArray} {nL : Nat} {ret : Option FieldType} (hX : okX X cc nL RX0 ret) (hnm : (xM X).name = "<init>") (hl : w.2 37 0) (hv : w.2 3 7) (hσ : σ 21 7 0 = 0) (hdg : At cc pc (.putfield 12) 3 nx) (kk : V X z w nx lv (su σ 21 7 0 (((0 : Nat) : Int) + 1)) st) : V X z w pc lv σ (.ref (w.1 3 7) :: .ref (w.1 37 0) :: st) := v_putR hX (k := 7) (i := 0) (j := 0) (r := 0) (ty := tyX0 0) (by decide) (by decide) hl hv (fun _ _ _ => rfl) (fun _ => rfl) rfl hσ (by decide) hcX0 in_X0 tyX0_ok nmX0 (by decide) wd_66 rfl (Or.inr ⟨rfl, hnm, rfl⟩) (tyX0_ok 0 (by decide)) (fun _ => rfl) (fun _ => rfl) hdg kk
set_option maxRecDepth 20000 in
theorem rp_X0_18 {X : CX} {z : Nat × Nat} {w : Wl} {pc nx : Nat} {lv : List (Nat × Value)} {σ : St} {st : List Value} {cc : ByteArray} {nL : Nat} {ret : Option FieldType} (hX : okX X cc nL RX0 ret) (hnm : (xM X).name = "<init>") (hl : w.2 37 0) (hv : w.2 3 8) (hσ : σ 21 7 0 = 1) (hdg : At cc pc (.putfield 18) 3 nx) (kk : V X z w nx lv (su σ 21 7 0 (((1 : Nat) : Int) + 1)) st) : V X z w pc lv σ (.ref (w.1 3 8) :: .ref (w.1 37 0) :: st) := v_putR hX (k := 7) (i := 0) (j := 1) (r := 1) (ty := tyX0 1) (by decide) (by decide) hl hv (fun _ _ _ => rfl) (fun _ => rfl) rfl hσ (by decide) hcX0 in_X0 tyX0_ok nmX0 (by decide) wd_68 rfl (Or.inr ⟨rfl, hnm, rfl⟩) (tyX0_ok 1 (by decide)) (fun _ => rfl) (fun _ => rfl) hdg kk
theorem zp_X0_21 {X : CX} {z : Nat × Nat} {w : Wl} {pc nx : Nat} {lv : List (Nat × Value)} {σ : St} {st : List Value} {cc : ByteArray} {nL : Nat} {ret : Option FieldType} (hX : okX X cc nL RX0 ret) (hnm : (xM X).name = "<init>") (hl : w.2 37 0) (hσ : σ 21 7 0 = 2) (hdg : At cc pc (.putfield 21) 3 nx) (kk : V X z w nx lv σ st) : V X z w pc lv σ (.int (iI 0) :: .ref (w.1 37 0) :: st) := v_putG hX (k := 37) (i := 0) (ci := 0) (j := 2) (v := .int (iI 0)) (ty := tyX0 2) (fs := (rawL 7 0).map (fr w.1 2)) σ hl (fun g => by show raw w.1 σ 7 0 = _; unfold raw; rw [hσ]; rfl) hcX0 in_X0 tyX0_ok nmX0 (by decide) wd_69 rfl (Or.inl rfl) (tyX0_ok 2 (by decide)) rfl rfl (Nat.le_of_ble_eq_true rfl) (fun g => by show raw w.1 σ 7 0 = _; unfold raw; rw [hσ]; rfl) (fun _ _ _ _ _ => rfl) (fun h => h) hdg kk
set_option maxRecDepth 20000 in
theorem rp_X0_25 {X : CX} {z : Nat × Nat} {w : Wl} {pc nx : Nat} {lv : List (Nat × Value)} {σ : St} {st : List Value} {cc : ByteArray} {nL : Nat} {ret : Option FieldType} (hX : okX X cc nL RX0 ret) (hnm : (xM X).name = "<init>") (hl : w.2 37 0) (hv : w.2 3 9) (hσ : σ 21 7 0 = 2) (hdg : At cc pc (.putfield 25) 3 nx) (kk : V X z w nx lv (su σ 21 7 0 (((3 : Nat) : Int) + 1)) st) : V X z w pc lv σ (.ref (w.1 3 9) :: .ref (w.1 37 0) :: st) := v_putR hX (k := 7) (i := 0) (j := 3) (r := 3) (ty := tyX0 3) (by decide) (by decide) hl hv (fun _ _ _ => rfl) (fun _ => rfl) rfl hσ (by decide) hcX0 in_X0 tyX0_ok nmX0 (by decide) wd_70 rfl (Or.inr ⟨rfl, hnm, rfl⟩) (tyX0_ok 3 (by decide)) (fun _ => rfl) (fun _ => rfl) hdg kk
set_option maxRecDepth 20000 in
theorem rp_X0_28 {X : CX} {z : Nat × Nat} {w : Wl} {pc nx : Nat} {lv : List (Nat × Value)} {σ : St} {st : List Value} {cc : ByteArray} {nL : Nat} {ret : Option FieldType} (hX : okX X cc nL RX0 ret) (hnm : (xM X).name = "<init>") (hl : w.2 37 0) (hv : w.2 3 10) (hσ : σ 21 7 0 = 4) (hdg : At cc pc (.putfield 28) 3 nx) (kk : V X z w nx lv (su σ 21 7 0 (((4 : Nat) : Int) + 1)) st) : V X z w pc lv σ (.ref (w.1 3 10) :: .ref (w.1 37 0) :: st) := v_putR hX (k := 7) (i := 0) (j := 4) (r := 4) (ty := tyX0 4) (by decide) (by decide) hl hv (fun _ _ _ => rfl) (fun _ => rfl) rfl hσ (by decide) hcX0 in_X0 tyX0_ok nmX0 (by decide) wd_71 rfl (Or.inr ⟨rfl, hnm, rfl⟩) (tyX0_ok 4 (by decide)) (fun _ => rfl) (fun _ => rfl) hdg kk
set_option maxRecDepth 20000 in
theorem rp_X0_31 {X : CX} {z : Nat × Nat} {w : Wl} {pc nx : Nat} {lv : List (Nat × Value)} {σ : St} {st : List Value} {cc : ByteArray} {nL : Nat} {ret : Option FieldType} (hX : okX X cc nL RX0 ret) (hnm : (xM X).name = "<init>") (hl : w.2 37 0) (hv : w.2 3 11) (hσ : σ 21 7 0 = 5) (hdg : At cc pc (.putfield 31) 3 nx) (kk : V X z w nx lv (su σ 21 7 0 (((5 : Nat) : Int) + 1)) st) : V X z w pc lv σ (.ref (w.1 3 11) :: .ref (w.1 37 0) :: st) := v_putR hX (k := 7) (i := 0) (j := 5) (r := 5) (ty := tyX0 5) (by decide) (by decide) hl hv (fun _ _ _ => rfl) (fun _ => rfl) rfl hσ (by decide) hcX0 in_X0 tyX0_ok nmX0 (by decide) wd_72 rfl (Or.inr ⟨rfl, hnm, rfl⟩) (tyX0_ok 5 (by decide)) (fun _ => rfl) (fun _ => rfl) hdg kk
set_option maxRecDepth 20000 in
theorem rp_X0_34 {X : CX} {z : Nat × Nat} {w : Wl} {pc nx : Nat} {lv : List (Nat × Value)} {σ : St} {st : List Value} {cc : ByteArray} {nL : Nat} {ret : Option FieldType} (hX : okX X cc nL RX0 ret) (hnm : (xM X).name = "<init>") (hl : w.2 37 0) (hv : w.2 3 12) (hσ : σ 21 7 0 = 6) (hdg : At cc pc (.putfield 34) 3 nx) (kk : V X z w nx lv (su σ 21 7 0 (((6 : Nat) : Int) + 1)) st) : V X z w pc lv σ (.ref (w.1 3 12) :: .ref (w.1 37 0) :: st) := v_putR hX (k := 7) (i := 0) (j := 6) (r := 6) (ty := tyX0 6) (by decide) (by decide) hl hv (fun _ _ _ => rfl) (fun _ => rfl) rfl hσ (by decide) hcX0 in_X0 tyX0_ok nmX0 (by decide) wd_73 rfl (Or.inr ⟨rfl, hnm, rfl⟩) (tyX0_ok 6 (by decide)) (fun _ => rfl) (fun _ => rfl) hdg kk
set_option maxRecDepth 20000 in
theorem rp_X0_37 {X : CX} {z : Nat × Nat} {w : Wl} {pc nx : Nat} {lv : List (Nat × Value)} {σ : St} {st : List Value} {cc : ByteArray} {nL : Nat} {ret : Option FieldType} (hX : okX X cc nL RX0 ret) (hnm : (xM X).name = "<init>") (hl : w.2 37 0) (hv : w.2 3 13) (hσ : σ 21 7 0 = 7) (hdg : At cc pc (.putfield 37) 3 nx) (kk : V X z w nx lv (su σ 21 7 0 (((7 : Nat) : Int) + 1)) st) : V X z w pc lv σ (.ref (w.1 3 13) :: .ref (w.1 37 0) :: st) := v_putR hX (k := 7) (i := 0) (j := 7) (r := 7) (ty := tyX0 7) (by decide) (by decide) hl hv (fun _ _ _ => rfl) (fun _ => rfl) rfl hσ (by decide) hcX0 in_X0 tyX0_ok nmX0 (by decide) wd_74 rfl (Or.inr ⟨rfl, hnm, rfl⟩) (tyX0_ok 7 (by decide)) (fun _ => rfl) (fun _ => rfl) hdg kk
set_option maxRecDepth 20000 in
theorem rp_X0_40 {X : CX} {z : Nat × Nat} {w : Wl} {pc nx : Nat} {lv : List (Nat × Value)} {σ : St} {st : List Value} {cc : ByteArray} {nL : Nat} {ret : Option FieldType} (hX : okX X cc nL RX0 ret) (hnm : (xM X).name = "<init>") (hl : w.2 37 0) (hv : w.2 3 14) (hσ : σ 21 7 0 = 8) (hdg : At cc pc (.putfield 40) 3 nx) (kk : V X z w nx lv (su σ 21 7 0 (((8 : Nat) : Int) + 1)) st) : V X z w pc lv σ (.ref (w.1 3 14) :: .ref (w.1 37 0) :: st) := v_putR hX (k := 7) (i := 0) (j := 8) (r := 8) (ty := tyX0 8) (by decide) (by decide) hl hv (fun _ _ _ => rfl) (fun _ => rfl) rfl hσ (by decide) hcX0 in_X0 tyX0_ok nmX0 (by decide) wd_75 rfl (Or.inr ⟨rfl, hnm, rfl⟩) (tyX0_ok 8 (by decide)) (fun _ => rfl) (fun _ => rfl) hdg kk
set_option maxRecDepth 20000 in
theorem rp_X0_43 {X : CX} {z : Nat × Nat} {w : Wl} {pc nx : Nat} {lv : List (Nat × Value)} {σ : St} {st : List Value} {cc : ByteArray} {nL : Nat} {ret : Option FieldType} (hX : okX X cc nL RX0 ret) (hnm : (xM X).name = "<init>") (hl : w.2 37 0) (hv : w.2 3 15) (hσ : σ 21 7 0 = 9) (hdg : At cc pc (.putfield 43) 3 nx) (kk : V X z w nx lv (su σ 21 7 0 (((9 : Nat) : Int) + 1)) st) : V X z w pc lv σ (.ref (w.1 3 15) :: .ref (w.1 37 0) :: st) := v_putR hX (k := 7) (i := 0) (j := 9) (r := 9) (ty := tyX0 9) (by decide) (by decide) hl hv (fun _ _ _ => rfl) (fun _ => rfl) rfl hσ (by decide) hcX0 in_X0 tyX0_ok nmX0 (by decide) wd_76 rfl (Or.inr ⟨rfl, hnm, rfl⟩) (tyX0_ok 9 (by decide)) (fun _ => rfl) (fun _ => rfl) hdg kk
set_option maxRecDepth 20000 in
theorem rp_X0_46 {X : CX} {z : Nat × Nat} {w : Wl} {pc nx : Nat} {lv : List (Nat × Value)} {σ : St} {st : List Value} {cc : ByteArray} {nL : Nat} {ret : Option FieldType} (hX : okX X cc nL RX0 ret) (hnm : (xM X).name = "<init>") (hl : w.2 37 0) (hv : w.2 3 16) (hσ : σ 21 7 0 = 10) (hdg : At cc pc (.putfield 46) 3 nx) (kk : V X z w nx lv (su σ 21 7 0 (((10 : Nat) : Int) + 1)) st) : V X z w pc lv σ (.ref (w.1 3 16) :: .ref (w.1 37 0) :: st) := v_putR hX (k := 7) (i := 0) (j := 10) (r := 10) (ty := tyX0 10) (by decide) (by decide) hl hv (fun _ _ _ => rfl) (fun _ => rfl) rfl hσ (by decide) hcX0 in_X0 tyX0_ok nmX0 (by decide) wd_77 rfl (Or.inr ⟨rfl, hnm, rfl⟩) (tyX0_ok 10 (by decide)) (fun _ => rfl) (fun _ => rfl) hdg kk
set_option maxRecDepth 20000 in
theorem rp_X0_49 {X : CX} {z : Nat × Nat} {w : Wl} {pc nx : Nat} {lv : List (Nat × Value)} {σ : St} {st : List Value} {cc : ByteArray} {nL : Nat} {ret : Option FieldType} (hX : okX X cc nL RX0 ret) (hnm : (xM X).name = "<init>") (hl : w.2 37 0) (hv : w.2 3 17) (hσ : σ 21 7 0 = 11) (hdg : At cc pc (.putfield 49) 3 nx) (kk : V X z w nx lv (su σ 21 7 0 (((11 : Nat) : Int) + 1)) st) : V X z w pc lv σ (.ref (w.1 3 17) :: .ref (w.1 37 0) :: st) := v_putR hX (k := 7) (i := 0) (j := 11) (r := 11) (ty := tyX0 11) (by decide) (by decide) hl hv (fun _ _ _ => rfl) (fun _ => rfl) rfl hσ (by decide) hcX0 in_X0 tyX0_ok nmX0 (by decide) wd_78 rfl (Or.inr ⟨rfl, hnm, rfl⟩) (tyX0_ok 11 (by decide)) (fun _ => rfl) (fun _ => rfl) hdg kk
set_option maxRecDepth 20000 in
theorem rp_X0_52 {X : CX} {z : Nat × Nat} {w : Wl} {pc nx : Nat} {lv : List (Nat × Value)} {σ : St} {st : List Value} {cc : ByteArray} {nL : Nat} {ret : Option FieldType} (hX : okX X cc nL RX0 ret) (hnm : (xM X).name = "<init>") (hl : w.2 37 0) (hv : w.2 3 18) (hσ : σ 21 7 0 = 12) (hdg : At cc pc (.putfield 52) 3 nx) (kk : V X z w nx lv (su σ 21 7 0 (((12 : Nat) : Int) + 1)) st) : V X z w pc lv σ (.ref (w.1 3 18) :: .ref (w.1 37 0) :: st) := v_putR hX (k := 7) (i := 0) (j := 12) (r := 12) (ty := tyX0 12) (by decide) (by decide) hl hv (fun _ _ _ => rfl) (fun _ => rfl) rfl hσ (by decide) hcX0 in_X0 tyX0_ok nmX0 (by decide) wd_79 rfl (Or.inr ⟨rfl, hnm, rfl⟩) (tyX0_ok 12 (by decide)) (fun _ => rfl) (fun _ => rfl) hdg kk
set_option maxRecDepth 20000 in
theorem rp_X0_55 {X : CX} {z : Nat × Nat} {w : Wl} {pc nx : Nat} {lv : List (Nat × Value)} {σ : St} {st : List Value} {cc : ByteArray} {nL : Nat} {ret : Option FieldType} (hX : okX X cc nL RX0 ret) (hnm : (xM X).name = "<init>") (hl : w.2 37 0) (hv : w.2 3 19) (hσ : σ 21 7 0 = 13) (hdg : At cc pc (.putfield 55) 3 nx) (kk : V X z w nx lv (su σ 21 7 0 (((13 : Nat) : Int) + 1)) st) : V X z w pc lv σ (.ref (w.1 3 19) :: .ref (w.1 37 0) :: st) := v_putR hX (k := 7) (i := 0) (j := 13) (r := 13) (ty := tyX0 13) (by decide) (by decide) hl hv (fun _ _ _ => rfl) (fun _ => rfl) rfl hσ (by decide) hcX0 in_X0 tyX0_ok nmX0 (by decide) wd_80 rfl (Or.inr ⟨rfl, hnm, rfl⟩) (tyX0_ok 13 (by decide)) (fun _ => rfl) (fun _ => rfl) hdg kk
set_option maxRecDepth 20000 in
theorem rp_X0_58 {X : CX} {z : Nat × Nat} {w : Wl} {pc nx : Nat} {lv : List (Nat × Value)} {σ : St} {st : List Value} {cc : ByteArray} {nL : Nat} {ret : Option FieldType} (hX : okX X cc nL RX0 ret) (hnm : (xM X).name = "<init>") (hl : w.2 37 0) (hv : w.2 3 20) (hσ : σ 21 7 0 = 14) (hdg : At cc pc (.putfield 58) 3 nx) (kk : V X z w nx lv (su σ 21 7 0 (((14 : Nat) : Int) + 1)) st) : V X z w pc lv σ (.ref (w.1 3 20) :: .ref (w.1 37 0) :: st) := v_putR hX (k := 7) (i := 0) (j := 14) (r := 14) (ty := tyX0 14) (by decide) (by decide) hl hv (fun _ _ _ => rfl) (fun _ => rfl) rfl hσ (by decide) hcX0 in_X0 tyX0_ok nmX0 (by decide) wd_81 rfl (Or.inr ⟨rfl, hnm, rfl⟩) (tyX0_ok 14 (by decide)) (fun _ => rfl) (fun _ => rfl) hdg kk
set_option maxRecDepth 20000 in
theorem rp_X0_61 {X : CX} {z : Nat × Nat} {w : Wl} {pc nx : Nat} {lv : List (Nat × Value)} {σ : St} {st : List Value} {cc : ByteArray} {nL : Nat} {ret : Option FieldType} (hX : okX X cc nL RX0 ret) (hnm : (xM X).name = "<init>") (hl : w.2 37 0) (hv : w.2 3 21) (hσ : σ 21 7 0 = 15) (hdg : At cc pc (.putfield 61) 3 nx) (kk : V X z w nx lv (su σ 21 7 0 (((15 : Nat) : Int) + 1)) st) : V X z w pc lv σ (.ref (w.1 3 21) :: .ref (w.1 37 0) :: st) := v_putR hX (k := 7) (i := 0) (j := 15) (r := 15) (ty := tyX0 15) (by decide) (by decide) hl hv (fun _ _ _ => rfl) (fun _ => rfl) rfl hσ (by decide) hcX0 in_X0 tyX0_ok nmX0 (by decide) wd_82 rfl (Or.inr ⟨rfl, hnm, rfl⟩) (tyX0_ok 15 (by decide)) (fun _ => rfl) (fun _ => rfl) hdg kk
set_option maxRecDepth 20000 in
theorem rp_X0_64 {X : CX} {z : Nat × Nat} {w : Wl} {pc nx : Nat} {lv : List (Nat × Value)} {σ : St} {st : List Value} {cc : ByteArray} {nL : Nat} {ret : Option FieldType} (hX : okX X cc nL RX0 ret) (hnm : (xM X).name = "<init>") (hl : w.2 37 0) (hv : w.2 3 22) (hσ : σ 21 7 0 = 16) (hdg : At cc pc (.putfield 64) 3 nx) (kk : V X z w nx lv (su σ 21 7 0 (((16 : Nat) : Int) + 1)) st) : V X z w pc lv σ (.ref (w.1 3 22) :: .ref (w.1 37 0) :: st) := v_putR hX (k := 7) (i := 0) (j := 16) (r := 16) (ty := tyX0 16) (by decide) (by decide) hl hv (fun _ _ _ => rfl) (fun _ => rfl) rfl hσ (by decide) hcX0 in_X0 tyX0_ok nmX0 (by decide) wd_83 rfl (Or.inr ⟨rfl, hnm, rfl⟩) (tyX0_ok 16 (by decide)) (fun _ => rfl) (fun _ => rfl) hdg kk
def fsX1 : List Value := [.null, .null, .null, .null, .null]
theorem fsX1_ok : ∀ j, j < 5 → defaultValue (tyX1 j) = vp_V fsX1 j
  | 0, _ => rfl
  | 1, _ => rfl
  | 2, _ => rfl
  | 3, _ => rfl
  | 4, _ => rfl
  | n + 5, h => absurd h (by omega)
theorem raw0_X1 (σ : St) (i : Nat) (h : σ 21 8 i = 0) (g : Nat → ClassId) (ad : Ly) : cont g ad σ 38 i = .inr (1, fsX1) := by
  show raw ad σ 8 i = _
  unfold raw
  rw [h]
  rfl
theorem mn0_X1 (σ : St) (i : Nat) (h : σ 21 8 i = 0) : mn σ 38 i = [] := by
  show (rawL 8 i).filterMap (fun q => if q.1.1 = 0 ∧ (q.2 : Int) < σ 21 8 i then some q.1.2 else none) = []
  rw [h]
  apply List.filterMap_eq_nil_iff.mpr
  intro q _
  exact if_neg (fun e => by have := e.2; omega)
theorem hcX1 : vwCl[1]? = some (RX1, TX1, 5) := rfl
theorem nw_X6_39 {X : CX} {z : Nat × Nat} {w : Wl} {pc nx : Nat} {lv : List (Nat × Value)} {σ : St} {st : List Value} {cc : ByteArray} {nL : Nat} {ret : Option FieldType} (hX : okX X cc nL RX6 ret) (hf : ¬ w.2 38 0) (hz : z.1 + 1 ≤ (xR X).cells ∧ z.2 + 5 ≤ (xR X).slots) (hdg : At cc pc (.new 39) 3 nx) (kk : ∀ a : Nat, V X (z.1 + 1, z.2 + 5) (wup w 38 0 a) nx lv (su σ 21 8 0 0) (.ref a :: st)) : V X z w pc lv σ st := v_z21 (by decide) (by decide) hf (v_newO hX tyX1 hcX1 in_X1 tyX1_ok wd_119 wd_120 wd_5 hf (fun g a => raw0_X1 _ _ su_s g _) (mn0_X1 _ _ su_s) fsX1_ok hz hdg kk)
theorem li_X6_41 : LkIN RX6 41 yX1_init cX1_init 1 0 := ⟨gd_cons wd_123, Or.inr nw_3, wd_122, wd_5, rfl, by decide, by decide, by decide +kernel⟩
theorem oi_X1_3 {X : CX} {z : Nat × Nat} {w : Wl} {pc nx : Nat} {lv : List (Nat × Value)} {σ : St} {st : List Value} {cc : ByteArray} {nL : Nat} {ret : Option FieldType} (hX : okX X cc nL RX1 ret) {a : Nat} (hR : 1 ≤ (xR X).frames ∧ (st.map fun v => v.category).sum + 12 ≤ (xR X).locals) (hdg : At cc pc (.invokespecial 3) 3 nx) (kk : V X z w nx lv σ st) : V X z w pc lv σ (.ref a :: st) := v_objI hX wd_124 hR hdg kk
theorem nw_X1_21 {X : CX} {z : Nat × Nat} {w : Wl} {pc nx : Nat} {lv : List (Nat × Value)} {σ : St} {st : List Value} {cc : ByteArray} {nL : Nat} {ret : Option FieldType} (hX : okX X cc nL RX1 ret) {i : Nat} (hf : ¬ w.2 31 i) (hz : z.1 + 1 ≤ (xR X).cells ∧ z.2 + 2 ≤ (xR X).slots) (hdg : At cc pc (.new 21) 3 nx) (kk : ∀ a : Nat, V X (z.1 + 1, z.2 + 2) (wup w 31 i a) nx lv (su σ 21 1 i 0) (.ref a :: st)) : V X z w pc lv σ st := v_z21 (by decide) (by decide) hf (v_newO hX tyX4 hcX4 in_X4 tyX4_ok wd_125 wd_25 wd_2 hf (fun g a => raw0_X4 _ _ su_s g _) (mn0_X4 _ _ su_s) fsX4_ok hz hdg kk)
theorem li_X1_23 : LkI RX1 23 yX4_init cX4_init 2 1 := ⟨gd_cons wd_28, wd_126, wd_27, wd_2, rfl, by decide, by decide, by decide +kernel⟩
set_option maxRecDepth 20000 in
theorem rp_X1_11 {X : CX} {z : Nat × Nat} {w : Wl} {pc nx : Nat} {lv : List (Nat × Value)} {σ : St} {st : List Value} {cc : ByteArray} {nL : Nat} {ret : Option FieldType} (hX : okX X cc nL RX1 ret) (hnm : (xM X).name = "<init>") (hl : w.2 38 0) (hv : w.2 9 0) (hσ : σ 21 8 0 = 0) (hdg : At cc pc (.putfield 11) 3 nx) (kk : V X z w nx lv (su σ 21 8 0 (((0 : Nat) : Int) + 1)) st) : V X z w pc lv σ (.ref (w.1 9 0) :: .ref (w.1 38 0) :: st) := v_putR hX (k := 8) (i := 0) (j := 0) (r := 0) (ty := tyX1 0) (by decide) (by decide) hl hv (fun _ _ _ => rfl) (fun _ => rfl) rfl hσ (by decide) hcX1 in_X1 tyX1_ok nmX1 (by decide) wd_127 rfl (Or.inr ⟨rfl, hnm, rfl⟩) (tyX1_ok 0 (by decide)) (fun _ => rfl) (fun _ => rfl) hdg kk
set_option maxRecDepth 20000 in
theorem rp_X1_15 {X : CX} {z : Nat × Nat} {w : Wl} {pc nx : Nat} {lv : List (Nat × Value)} {σ : St} {st : List Value} {cc : ByteArray} {nL : Nat} {ret : Option FieldType} (hX : okX X cc nL RX1 ret) (hnm : (xM X).name = "<init>") (hl : w.2 38 0) (hv : w.2 9 1) (hσ : σ 21 8 0 = 1) (hdg : At cc pc (.putfield 15) 3 nx) (kk : V X z w nx lv (su σ 21 8 0 (((1 : Nat) : Int) + 1)) st) : V X z w pc lv σ (.ref (w.1 9 1) :: .ref (w.1 38 0) :: st) := v_putR hX (k := 8) (i := 0) (j := 1) (r := 1) (ty := tyX1 1) (by decide) (by decide) hl hv (fun _ _ _ => rfl) (fun _ => rfl) rfl hσ (by decide) hcX1 in_X1 tyX1_ok nmX1 (by decide) wd_128 rfl (Or.inr ⟨rfl, hnm, rfl⟩) (tyX1_ok 1 (by decide)) (fun _ => rfl) (fun _ => rfl) hdg kk
set_option maxRecDepth 20000 in
theorem rp_X1_18 {X : CX} {z : Nat × Nat} {w : Wl} {pc nx : Nat} {lv : List (Nat × Value)} {σ : St} {st : List Value} {cc : ByteArray} {nL : Nat} {ret : Option FieldType} (hX : okX X cc nL RX1 ret) (hnm : (xM X).name = "<init>") (hl : w.2 38 0) (hv : w.2 9 2) (hσ : σ 21 8 0 = 2) (hdg : At cc pc (.putfield 18) 3 nx) (kk : V X z w nx lv (su σ 21 8 0 (((2 : Nat) : Int) + 1)) st) : V X z w pc lv σ (.ref (w.1 9 2) :: .ref (w.1 38 0) :: st) := v_putR hX (k := 8) (i := 0) (j := 2) (r := 2) (ty := tyX1 2) (by decide) (by decide) hl hv (fun _ _ _ => rfl) (fun _ => rfl) rfl hσ (by decide) hcX1 in_X1 tyX1_ok nmX1 (by decide) wd_129 rfl (Or.inr ⟨rfl, hnm, rfl⟩) (tyX1_ok 2 (by decide)) (fun _ => rfl) (fun _ => rfl) hdg kk
set_option maxRecDepth 20000 in
theorem rp_X1_26 {X : CX} {z : Nat × Nat} {w : Wl} {pc nx : Nat} {lv : List (Nat × Value)} {σ : St} {st : List Value} {cc : ByteArray} {nL : Nat} {ret : Option FieldType} (hX : okX X cc nL RX1 ret) (hnm : (xM X).name = "<init>") (hl : w.2 38 0) (hv : w.2 1 27) (hσ : σ 21 8 0 = 3) (hdg : At cc pc (.putfield 26) 3 nx) (kk : V X z w nx lv (su σ 21 8 0 (((3 : Nat) : Int) + 1)) st) : V X z w pc lv σ (.ref (w.1 1 27) :: .ref (w.1 38 0) :: st) := v_putR hX (k := 8) (i := 0) (j := 3) (r := 3) (ty := tyX1 3) (by decide) (by decide) hl hv (fun _ _ _ => rfl) (fun _ => rfl) rfl hσ (by decide) hcX1 in_X1 tyX1_ok nmX1 (by decide) wd_130 rfl (Or.inr ⟨rfl, hnm, rfl⟩) (tyX1_ok 3 (by decide)) (fun _ => rfl) (fun _ => rfl) hdg kk
set_option maxRecDepth 20000 in
theorem rp_X1_30 {X : CX} {z : Nat × Nat} {w : Wl} {pc nx : Nat} {lv : List (Nat × Value)} {σ : St} {st : List Value} {cc : ByteArray} {nL : Nat} {ret : Option FieldType} (hX : okX X cc nL RX1 ret) (hnm : (xM X).name = "<init>") (hl : w.2 38 0) (hv : w.2 1 28) (hσ : σ 21 8 0 = 4) (hdg : At cc pc (.putfield 30) 3 nx) (kk : V X z w nx lv (su σ 21 8 0 (((4 : Nat) : Int) + 1)) st) : V X z w pc lv σ (.ref (w.1 1 28) :: .ref (w.1 38 0) :: st) := v_putR hX (k := 8) (i := 0) (j := 4) (r := 4) (ty := tyX1 4) (by decide) (by decide) hl hv (fun _ _ _ => rfl) (fun _ => rfl) rfl hσ (by decide) hcX1 in_X1 tyX1_ok nmX1 (by decide) wd_131 rfl (Or.inr ⟨rfl, hnm, rfl⟩) (tyX1_ok 4 (by decide)) (fun _ => rfl) (fun _ => rfl) hdg kk
def fsX3 : List Value := [.null, .null, .null, .null, .null, .null]
theorem fsX3_ok : ∀ j, j < 6 → defaultValue (tyX3 j) = vp_V fsX3 j
  | 0, _ => rfl
  | 1, _ => rfl
  | 2, _ => rfl
  | 3, _ => rfl
  | 4, _ => rfl
  | 5, _ => rfl
  | n + 6, h => absurd h (by omega)
theorem raw0_X3 (σ : St) (i : Nat) (h : σ 21 10 i = 0) (g : Nat → ClassId) (ad : Ly) : cont g ad σ 40 i = .inr (3, fsX3) := by
  show raw ad σ 10 i = _
  unfold raw
  rw [h]
  rfl
theorem mn0_X3 (σ : St) (i : Nat) (h : σ 21 10 i = 0) : mn σ 40 i = [] := by
  show (rawL 10 i).filterMap (fun q => if q.1.1 = 0 ∧ (q.2 : Int) < σ 21 10 i then some q.1.2 else none) = []
  rw [h]
  apply List.filterMap_eq_nil_iff.mpr
  intro q _
  exact if_neg (fun e => by have := e.2; omega)
theorem hcX3 : vwCl[3]? = some (RX3, TX3, 6) := rfl
theorem nw_X6_46 {X : CX} {z : Nat × Nat} {w : Wl} {pc nx : Nat} {lv : List (Nat × Value)} {σ : St} {st : List Value} {cc : ByteArray} {nL : Nat} {ret : Option FieldType} (hX : okX X cc nL RX6 ret) (hf : ¬ w.2 40 0) (hz : z.1 + 1 ≤ (xR X).cells ∧ z.2 + 6 ≤ (xR X).slots) (hdg : At cc pc (.new 46) 3 nx) (kk : ∀ a : Nat, V X (z.1 + 1, z.2 + 6) (wup w 40 0 a) nx lv (su σ 21 10 0 0) (.ref a :: st)) : V X z w pc lv σ st := v_z21 (by decide) (by decide) hf (v_newO hX tyX3 hcX3 in_X3 tyX3_ok wd_144 wd_145 wd_6 hf (fun g a => raw0_X3 _ _ su_s g _) (mn0_X3 _ _ su_s) fsX3_ok hz hdg kk)
theorem li_X6_48 : LkI RX6 48 yX3_init cX3_init 2 1 := ⟨gd_cons wd_148, wd_146, wd_147, wd_6, rfl, by decide, by decide, by decide +kernel⟩
theorem oi_X3_3 {X : CX} {z : Nat × Nat} {w : Wl} {pc nx : Nat} {lv : List (Nat × Value)} {σ : St} {st : List Value} {cc : ByteArray} {nL : Nat} {ret : Option FieldType} (hX : okX X cc nL RX3 ret) {a : Nat} (hR : 1 ≤ (xR X).frames ∧ (st.map fun v => v.category).sum + 12 ≤ (xR X).locals) (hdg : At cc pc (.invokespecial 3) 3 nx) (kk : V X z w nx lv σ st) : V X z w pc lv σ (.ref a :: st) := v_objI hX wd_149 hR hdg kk
theorem nw_X3_9 {X : CX} {z : Nat × Nat} {w : Wl} {pc nx : Nat} {lv : List (Nat × Value)} {σ : St} {st : List Value} {cc : ByteArray} {nL : Nat} {ret : Option FieldType} (hX : okX X cc nL RX3 ret) {i : Nat} (hf : ¬ w.2 31 i) (hz : z.1 + 1 ≤ (xR X).cells ∧ z.2 + 2 ≤ (xR X).slots) (hdg : At cc pc (.new 9) 3 nx) (kk : ∀ a : Nat, V X (z.1 + 1, z.2 + 2) (wup w 31 i a) nx lv (su σ 21 1 i 0) (.ref a :: st)) : V X z w pc lv σ st := v_z21 (by decide) (by decide) hf (v_newO hX tyX4 hcX4 in_X4 tyX4_ok wd_150 wd_25 wd_2 hf (fun g a => raw0_X4 _ _ su_s g _) (mn0_X4 _ _ su_s) fsX4_ok hz hdg kk)
theorem li_X3_11 : LkI RX3 11 yX4_init cX4_init 2 1 := ⟨gd_cons wd_28, wd_151, wd_27, wd_2, rfl, by decide, by decide, by decide +kernel⟩
theorem nw_X6_61 {X : CX} {z : Nat × Nat} {w : Wl} {pc nx : Nat} {lv : List (Nat × Value)} {σ : St} {st : List Value} {cc : ByteArray} {nL : Nat} {ret : Option FieldType} (hX : okX X cc nL RX6 ret) {i : Nat} (hf : ¬ w.2 33 i) (hz : z.1 + 1 ≤ (xR X).cells ∧ z.2 + 2 ≤ (xR X).slots) (hdg : At cc pc (.new 61) 3 nx) (kk : ∀ a : Nat, V X (z.1 + 1, z.2 + 2) (wup w 33 i a) nx lv (su σ 21 3 i 0) (.ref a :: st)) : V X z w pc lv σ st := v_z21 (by decide) (by decide) hf (v_newO hX tyX5 hcX5 in_X5 tyX5_ok wd_171 wd_51 wd_4 hf (fun g a => raw0_X5 _ _ su_s g _) (mn0_X5 _ _ su_s) fsX5_ok hz hdg kk)
theorem li_X6_63 : LkI RX6 63 yX5_init cX5_init 1 0 := ⟨gd_cons wd_54, wd_172, wd_53, wd_4, rfl, by decide, by decide, by decide +kernel⟩
set_option maxRecDepth 20000 in
theorem rp_X6_11 {X : CX} {z : Nat × Nat} {w : Wl} {pc nx : Nat} {lv : List (Nat × Value)} {σ : St} {st : List Value} {cc : ByteArray} {nL : Nat} {ret : Option FieldType} (hX : okX X cc nL RX6 ret) (hnm : (xM X).name = "<init>") (hl : w.2 30 0) (hv : w.2 11 0) (hσ : σ 21 0 0 = 0) (hdg : At cc pc (.putfield 11) 3 nx) (kk : V X z w nx lv (su σ 21 0 0 (((0 : Nat) : Int) + 1)) st) : V X z w pc lv σ (.ref (w.1 11 0) :: .ref (w.1 30 0) :: st) := v_putR hX (k := 0) (i := 0) (j := 0) (r := 0) (ty := tyX6 0) (by decide) (by decide) hl hv (fun _ _ _ => rfl) (fun _ => rfl) rfl hσ (by decide) hcX6 in_X6 tyX6_ok nmX6 (by decide) wd_173 rfl (Or.inr ⟨rfl, hnm, rfl⟩) (tyX6_ok 0 (by decide)) (fun _ => rfl) (fun _ => rfl) hdg kk
set_option maxRecDepth 20000 in
theorem rp_X6_18 {X : CX} {z : Nat × Nat} {w : Wl} {pc nx : Nat} {lv : List (Nat × Value)} {σ : St} {st : List Value} {cc : ByteArray} {nL : Nat} {ret : Option FieldType} (hX : okX X cc nL RX6 ret) (hnm : (xM X).name = "<init>") (hl : w.2 30 0) (hv : w.2 1 24) (hσ : σ 21 0 0 = 1) (hdg : At cc pc (.putfield 18) 3 nx) (kk : V X z w nx lv (su σ 21 0 0 (((1 : Nat) : Int) + 1)) st) : V X z w pc lv σ (.ref (w.1 1 24) :: .ref (w.1 30 0) :: st) := v_putR hX (k := 0) (i := 0) (j := 1) (r := 1) (ty := tyX6 1) (by decide) (by decide) hl hv (fun _ _ _ => rfl) (fun _ => rfl) rfl hσ (by decide) hcX6 in_X6 tyX6_ok nmX6 (by decide) wd_174 rfl (Or.inr ⟨rfl, hnm, rfl⟩) (tyX6_ok 1 (by decide)) (fun _ => rfl) (fun _ => rfl) hdg kk
set_option maxRecDepth 20000 in
theorem rp_X6_24 {X : CX} {z : Nat × Nat} {w : Wl} {pc nx : Nat} {lv : List (Nat × Value)} {σ : St} {st : List Value} {cc : ByteArray} {nL : Nat} {ret : Option FieldType} (hX : okX X cc nL RX6 ret) (hnm : (xM X).name = "<init>") (hl : w.2 30 0) (hv : w.2 12 0) (hσ : σ 21 0 0 = 2) (hdg : At cc pc (.putfield 24) 3 nx) (kk : V X z w nx lv (su σ 21 0 0 (((2 : Nat) : Int) + 1)) st) : V X z w pc lv σ (.ref (w.1 12 0) :: .ref (w.1 30 0) :: st) := v_putR hX (k := 0) (i := 0) (j := 2) (r := 2) (ty := tyX6 2) (by decide) (by decide) hl hv (fun _ _ _ => rfl) (fun _ => rfl) rfl hσ (by decide) hcX6 in_X6 tyX6_ok nmX6 (by decide) wd_175 rfl (Or.inr ⟨rfl, hnm, rfl⟩) (tyX6_ok 2 (by decide)) (fun _ => rfl) (fun _ => rfl) hdg kk
theorem zp_X6_28 {X : CX} {z : Nat × Nat} {w : Wl} {pc nx : Nat} {lv : List (Nat × Value)} {σ : St} {st : List Value} {cc : ByteArray} {nL : Nat} {ret : Option FieldType} (hX : okX X cc nL RX6 ret) (hnm : (xM X).name = "<init>") (hl : w.2 30 0) (hσ : σ 21 0 0 = 3) (hdg : At cc pc (.putfield 28) 3 nx) (kk : V X z w nx lv σ st) : V X z w pc lv σ (.int (iI 0) :: .ref (w.1 30 0) :: st) := v_putG hX (k := 30) (i := 0) (ci := 6) (j := 3) (v := .int (iI 0)) (ty := tyX6 3) (fs := (rawL 0 0).map (fr w.1 3)) σ hl (fun g => by show raw w.1 σ 0 0 = _; unfold raw; rw [hσ]; rfl) hcX6 in_X6 tyX6_ok nmX6 (by decide) wd_176 rfl (Or.inl rfl) (tyX6_ok 3 (by decide)) rfl rfl (Nat.le_of_ble_eq_true rfl) (fun g => by show raw w.1 σ 0 0 = _; unfold raw; rw [hσ]; rfl) (fun _ _ _ _ _ => rfl) (fun h => h) hdg kk
set_option maxRecDepth 20000 in
theorem rp_X6_35 {X : CX} {z : Nat × Nat} {w : Wl} {pc nx : Nat} {lv : List (Nat × Value)} {σ : St} {st : List Value} {cc : ByteArray} {nL : Nat} {ret : Option FieldType} (hX : okX X cc nL RX6 ret) (hnm : (xM X).name = "<init>") (hl : w.2 30 0) (hv : w.2 7 0) (hσ : σ 21 0 0 = 3) (hdg : At cc pc (.putfield 35) 3 nx) (kk : V X z w nx lv (su σ 21 0 0 (((4 : Nat) : Int) + 1)) st) : V X z w pc lv σ (.ref (w.1 7 0) :: .ref (w.1 30 0) :: st) := v_putR hX (k := 0) (i := 0) (j := 4) (r := 4) (ty := tyX6 4) (by decide) (by decide) hl hv (fun _ _ _ => rfl) (fun _ => rfl) rfl hσ (by decide) hcX6 in_X6 tyX6_ok nmX6 (by decide) wd_177 rfl (Or.inr ⟨rfl, hnm, rfl⟩) (tyX6_ok 4 (by decide)) (fun _ => rfl) (fun _ => rfl) hdg kk
set_option maxRecDepth 20000 in
theorem rp_X6_42 {X : CX} {z : Nat × Nat} {w : Wl} {pc nx : Nat} {lv : List (Nat × Value)} {σ : St} {st : List Value} {cc : ByteArray} {nL : Nat} {ret : Option FieldType} (hX : okX X cc nL RX6 ret) (hnm : (xM X).name = "<init>") (hl : w.2 30 0) (hv : w.2 8 0) (hσ : σ 21 0 0 = 5) (hdg : At cc pc (.putfield 42) 3 nx) (kk : V X z w nx lv (su σ 21 0 0 (((5 : Nat) : Int) + 1)) st) : V X z w pc lv σ (.ref (w.1 8 0) :: .ref (w.1 30 0) :: st) := v_putR hX (k := 0) (i := 0) (j := 5) (r := 5) (ty := tyX6 5) (by decide) (by decide) hl hv (fun _ _ _ => rfl) (fun _ => rfl) rfl hσ (by decide) hcX6 in_X6 tyX6_ok nmX6 (by decide) wd_178 rfl (Or.inr ⟨rfl, hnm, rfl⟩) (tyX6_ok 5 (by decide)) (fun _ => rfl) (fun _ => rfl) hdg kk
set_option maxRecDepth 20000 in
theorem rp_X6_51 {X : CX} {z : Nat × Nat} {w : Wl} {pc nx : Nat} {lv : List (Nat × Value)} {σ : St} {st : List Value} {cc : ByteArray} {nL : Nat} {ret : Option FieldType} (hX : okX X cc nL RX6 ret) (hnm : (xM X).name = "<init>") (hl : w.2 30 0) (hv : w.2 10 0) (hσ : σ 21 0 0 = 6) (hdg : At cc pc (.putfield 51) 3 nx) (kk : V X z w nx lv (su σ 21 0 0 (((6 : Nat) : Int) + 1)) st) : V X z w pc lv σ (.ref (w.1 10 0) :: .ref (w.1 30 0) :: st) := v_putR hX (k := 0) (i := 0) (j := 6) (r := 6) (ty := tyX6 6) (by decide) (by decide) hl hv (fun _ _ _ => rfl) (fun _ => rfl) rfl hσ (by decide) hcX6 in_X6 tyX6_ok nmX6 (by decide) wd_179 rfl (Or.inr ⟨rfl, hnm, rfl⟩) (tyX6_ok 6 (by decide)) (fun _ => rfl) (fun _ => rfl) hdg kk
set_option maxRecDepth 20000 in
theorem rp_X6_55 {X : CX} {z : Nat × Nat} {w : Wl} {pc nx : Nat} {lv : List (Nat × Value)} {σ : St} {st : List Value} {cc : ByteArray} {nL : Nat} {ret : Option FieldType} (hX : okX X cc nL RX6 ret) (hnm : (xM X).name = "<init>") (hl : w.2 30 0) (hv : w.2 1 25) (hσ : σ 21 0 0 = 7) (hdg : At cc pc (.putfield 55) 3 nx) (kk : V X z w nx lv (su σ 21 0 0 (((7 : Nat) : Int) + 1)) st) : V X z w pc lv σ (.ref (w.1 1 25) :: .ref (w.1 30 0) :: st) := v_putR hX (k := 0) (i := 0) (j := 7) (r := 7) (ty := tyX6 7) (by decide) (by decide) hl hv (fun _ _ _ => rfl) (fun _ => rfl) rfl hσ (by decide) hcX6 in_X6 tyX6_ok nmX6 (by decide) wd_180 rfl (Or.inr ⟨rfl, hnm, rfl⟩) (tyX6_ok 7 (by decide)) (fun _ => rfl) (fun _ => rfl) hdg kk
set_option maxRecDepth 20000 in
theorem rp_X6_58 {X : CX} {z : Nat × Nat} {w : Wl} {pc nx : Nat} {lv : List (Nat × Value)} {σ : St} {st : List Value} {cc : ByteArray} {nL : Nat} {ret : Option FieldType} (hX : okX X cc nL RX6 ret) (hnm : (xM X).name = "<init>") (hl : w.2 30 0) (hv : w.2 1 26) (hσ : σ 21 0 0 = 8) (hdg : At cc pc (.putfield 58) 3 nx) (kk : V X z w nx lv (su σ 21 0 0 (((8 : Nat) : Int) + 1)) st) : V X z w pc lv σ (.ref (w.1 1 26) :: .ref (w.1 30 0) :: st) := v_putR hX (k := 0) (i := 0) (j := 8) (r := 8) (ty := tyX6 8) (by decide) (by decide) hl hv (fun _ _ _ => rfl) (fun _ => rfl) rfl hσ (by decide) hcX6 in_X6 tyX6_ok nmX6 (by decide) wd_181 rfl (Or.inr ⟨rfl, hnm, rfl⟩) (tyX6_ok 8 (by decide)) (fun _ => rfl) (fun _ => rfl) hdg kk
set_option maxRecDepth 20000 in
theorem rp_X6_64 {X : CX} {z : Nat × Nat} {w : Wl} {pc nx : Nat} {lv : List (Nat × Value)} {σ : St} {st : List Value} {cc : ByteArray} {nL : Nat} {ret : Option FieldType} (hX : okX X cc nL RX6 ret) (hnm : (xM X).name = "<init>") (hl : w.2 30 0) (hv : w.2 3 0) (hσ : σ 21 0 0 = 9) (hdg : At cc pc (.putfield 64) 3 nx) (kk : V X z w nx lv (su σ 21 0 0 (((9 : Nat) : Int) + 1)) st) : V X z w pc lv σ (.ref (w.1 3 0) :: .ref (w.1 30 0) :: st) := v_putR hX (k := 0) (i := 0) (j := 9) (r := 9) (ty := tyX6 9) (by decide) (by decide) hl hv (fun _ _ _ => rfl) (fun _ => rfl) rfl hσ (by decide) hcX6 in_X6 tyX6_ok nmX6 (by decide) wd_182 rfl (Or.inr ⟨rfl, hnm, rfl⟩) (tyX6_ok 9 (by decide)) (fun _ => rfl) (fun _ => rfl) hdg kk
set_option maxRecDepth 20000 in
theorem rp_X6_68 {X : CX} {z : Nat × Nat} {w : Wl} {pc nx : Nat} {lv : List (Nat × Value)} {σ : St} {st : List Value} {cc : ByteArray} {nL : Nat} {ret : Option FieldType} (hX : okX X cc nL RX6 ret) (hnm : (xM X).name = "<init>") (hl : w.2 30 0) (hv : w.2 3 1) (hσ : σ 21 0 0 = 10) (hdg : At cc pc (.putfield 68) 3 nx) (kk : V X z w nx lv (su σ 21 0 0 (((10 : Nat) : Int) + 1)) st) : V X z w pc lv σ (.ref (w.1 3 1) :: .ref (w.1 30 0) :: st) := v_putR hX (k := 0) (i := 0) (j := 10) (r := 10) (ty := tyX6 10) (by decide) (by decide) hl hv (fun _ _ _ => rfl) (fun _ => rfl) rfl hσ (by decide) hcX6 in_X6 tyX6_ok nmX6 (by decide) wd_183 rfl (Or.inr ⟨rfl, hnm, rfl⟩) (tyX6_ok 10 (by decide)) (fun _ => rfl) (fun _ => rfl) hdg kk
set_option maxRecDepth 20000 in
theorem rp_X6_71 {X : CX} {z : Nat × Nat} {w : Wl} {pc nx : Nat} {lv : List (Nat × Value)} {σ : St} {st : List Value} {cc : ByteArray} {nL : Nat} {ret : Option FieldType} (hX : okX X cc nL RX6 ret) (hnm : (xM X).name = "<init>") (hl : w.2 30 0) (hv : w.2 3 2) (hσ : σ 21 0 0 = 11) (hdg : At cc pc (.putfield 71) 3 nx) (kk : V X z w nx lv (su σ 21 0 0 (((11 : Nat) : Int) + 1)) st) : V X z w pc lv σ (.ref (w.1 3 2) :: .ref (w.1 30 0) :: st) := v_putR hX (k := 0) (i := 0) (j := 11) (r := 11) (ty := tyX6 11) (by decide) (by decide) hl hv (fun _ _ _ => rfl) (fun _ => rfl) rfl hσ (by decide) hcX6 in_X6 tyX6_ok nmX6 (by decide) wd_184 rfl (Or.inr ⟨rfl, hnm, rfl⟩) (tyX6_ok 11 (by decide)) (fun _ => rfl) (fun _ => rfl) hdg kk
set_option maxRecDepth 20000 in
theorem rp_X6_74 {X : CX} {z : Nat × Nat} {w : Wl} {pc nx : Nat} {lv : List (Nat × Value)} {σ : St} {st : List Value} {cc : ByteArray} {nL : Nat} {ret : Option FieldType} (hX : okX X cc nL RX6 ret) (hnm : (xM X).name = "<init>") (hl : w.2 30 0) (hv : w.2 3 3) (hσ : σ 21 0 0 = 12) (hdg : At cc pc (.putfield 74) 3 nx) (kk : V X z w nx lv (su σ 21 0 0 (((12 : Nat) : Int) + 1)) st) : V X z w pc lv σ (.ref (w.1 3 3) :: .ref (w.1 30 0) :: st) := v_putR hX (k := 0) (i := 0) (j := 12) (r := 12) (ty := tyX6 12) (by decide) (by decide) hl hv (fun _ _ _ => rfl) (fun _ => rfl) rfl hσ (by decide) hcX6 in_X6 tyX6_ok nmX6 (by decide) wd_185 rfl (Or.inr ⟨rfl, hnm, rfl⟩) (tyX6_ok 12 (by decide)) (fun _ => rfl) (fun _ => rfl) hdg kk
set_option maxRecDepth 20000 in
theorem rp_X6_77 {X : CX} {z : Nat × Nat} {w : Wl} {pc nx : Nat} {lv : List (Nat × Value)} {σ : St} {st : List Value} {cc : ByteArray} {nL : Nat} {ret : Option FieldType} (hX : okX X cc nL RX6 ret) (hnm : (xM X).name = "<init>") (hl : w.2 30 0) (hv : w.2 3 4) (hσ : σ 21 0 0 = 13) (hdg : At cc pc (.putfield 77) 3 nx) (kk : V X z w nx lv (su σ 21 0 0 (((13 : Nat) : Int) + 1)) st) : V X z w pc lv σ (.ref (w.1 3 4) :: .ref (w.1 30 0) :: st) := v_putR hX (k := 0) (i := 0) (j := 13) (r := 13) (ty := tyX6 13) (by decide) (by decide) hl hv (fun _ _ _ => rfl) (fun _ => rfl) rfl hσ (by decide) hcX6 in_X6 tyX6_ok nmX6 (by decide) wd_186 rfl (Or.inr ⟨rfl, hnm, rfl⟩) (tyX6_ok 13 (by decide)) (fun _ => rfl) (fun _ => rfl) hdg kk
set_option maxRecDepth 20000 in
theorem rp_X6_80 {X : CX} {z : Nat × Nat} {w : Wl} {pc nx : Nat} {lv : List (Nat × Value)} {σ : St} {st : List Value} {cc : ByteArray} {nL : Nat} {ret : Option FieldType} (hX : okX X cc nL RX6 ret) (hnm : (xM X).name = "<init>") (hl : w.2 30 0) (hv : w.2 3 5) (hσ : σ 21 0 0 = 14) (hdg : At cc pc (.putfield 80) 3 nx) (kk : V X z w nx lv (su σ 21 0 0 (((14 : Nat) : Int) + 1)) st) : V X z w pc lv σ (.ref (w.1 3 5) :: .ref (w.1 30 0) :: st) := v_putR hX (k := 0) (i := 0) (j := 14) (r := 14) (ty := tyX6 14) (by decide) (by decide) hl hv (fun _ _ _ => rfl) (fun _ => rfl) rfl hσ (by decide) hcX6 in_X6 tyX6_ok nmX6 (by decide) wd_187 rfl (Or.inr ⟨rfl, hnm, rfl⟩) (tyX6_ok 14 (by decide)) (fun _ => rfl) (fun _ => rfl) hdg kk
set_option maxRecDepth 20000 in
theorem rp_X6_83 {X : CX} {z : Nat × Nat} {w : Wl} {pc nx : Nat} {lv : List (Nat × Value)} {σ : St} {st : List Value} {cc : ByteArray} {nL : Nat} {ret : Option FieldType} (hX : okX X cc nL RX6 ret) (hnm : (xM X).name = "<init>") (hl : w.2 30 0) (hv : w.2 3 6) (hσ : σ 21 0 0 = 15) (hdg : At cc pc (.putfield 83) 3 nx) (kk : V X z w nx lv (su σ 21 0 0 (((15 : Nat) : Int) + 1)) st) : V X z w pc lv σ (.ref (w.1 3 6) :: .ref (w.1 30 0) :: st) := v_putR hX (k := 0) (i := 0) (j := 15) (r := 15) (ty := tyX6 15) (by decide) (by decide) hl hv (fun _ _ _ => rfl) (fun _ => rfl) rfl hσ (by decide) hcX6 in_X6 tyX6_ok nmX6 (by decide) wd_188 rfl (Or.inr ⟨rfl, hnm, rfl⟩) (tyX6_ok 15 (by decide)) (fun _ => rfl) (fun _ => rfl) hdg kk
theorem li_X6_201 : LkI RX6 201 yX2_init cX2_init 5 3 := ⟨gd_cons wd_721, wd_719, wd_720, wd_14, rfl, by decide, by decide, by decide +kernel⟩
theorem oi_X2_1 {X : CX} {z : Nat × Nat} {w : Wl} {pc nx : Nat} {lv : List (Nat × Value)} {σ : St} {st : List Value} {cc : ByteArray} {nL : Nat} {ret : Option FieldType} (hX : okX X cc nL RX2 ret) {a : Nat} (hR : 1 ≤ (xR X).frames ∧ (st.map fun v => v.category).sum + 12 ≤ (xR X).locals) (hdg : At cc pc (.invokespecial 1) 3 nx) (kk : V X z w nx lv σ st) : V X z w pc lv σ (.ref a :: st) := v_objI hX wd_722 hR hdg kk
theorem nw_X2_9 {X : CX} {z : Nat × Nat} {w : Wl} {pc nx : Nat} {lv : List (Nat × Value)} {σ : St} {st : List Value} {cc : ByteArray} {nL : Nat} {ret : Option FieldType} (hX : okX X cc nL RX2 ret) {i : Nat} (hf : ¬ w.2 33 i) (hz : z.1 + 1 ≤ (xR X).cells ∧ z.2 + 2 ≤ (xR X).slots) (hdg : At cc pc (.new 9) 3 nx) (kk : ∀ a : Nat, V X (z.1 + 1, z.2 + 2) (wup w 33 i a) nx lv (su σ 21 3 i 0) (.ref a :: st)) : V X z w pc lv σ st := v_z21 (by decide) (by decide) hf (v_newO hX tyX5 hcX5 in_X5 tyX5_ok wd_723 wd_51 wd_4 hf (fun g a => raw0_X5 _ _ su_s g _) (mn0_X5 _ _ su_s) fsX5_ok hz hdg kk)
theorem li_X2_15 : LkI RX2 15 yX5_init cX5_init 1 0 := ⟨gd_cons wd_54, wd_725, wd_53, wd_4, rfl, by decide, by decide, by decide +kernel⟩
set_option maxRecDepth 20000 in
theorem rp_X2_11 {X : CX} {z : Nat × Nat} {w : Wl} {pc nx : Nat} {lv : List (Nat × Value)} {σ : St} {st : List Value} {cc : ByteArray} {nL : Nat} {ret : Option FieldType} (hX : okX X cc nL RX2 ret) {i : Nat} (hnm : (xM X).name = "<init>") (hl : w.2 35 i) (hv : w.2 6 i) (hσ : σ 21 5 i = 0) (hdg : At cc pc (.putfield 11) 3 nx) (kk : V X z w nx lv (su σ 21 5 i (((0 : Nat) : Int) + 1)) st) : V X z w pc lv σ (.ref (w.1 6 i) :: .ref (w.1 35 i) :: st) := v_putR hX (k := 5) (i := i) (j := 0) (r := 0) (ty := tyX2 0) (by decide) (by decide) hl hv (fun _ _ _ => rfl) (fun _ => rfl) rfl hσ (by rfl) hcX2 in_X2 tyX2_ok nmX2 (by decide) wd_728 rfl (Or.inr ⟨rfl, hnm, rfl⟩) (tyX2_ok 0 (by decide)) (fun _ => rfl) (fun _ => rfl) hdg kk
def fsX8 : List Value := [.int 0, .null, .null, .null, .null, .null, .null, .null, .null, .null, .null, .null, .null, .null, .null, .null, .null, .null, .null, .null, .null, .null, .int 0, .null, .int 0, .null, .null, .null, .null, .null, .null, .null, .null, .null, .null, .null, .int 0, .int 0, .null, .null, .null, .null, .int 0, .null, .null, .null, .null, .null, .null, .null, .null, .null, .null]
theorem fsX8_ok : ∀ j, j < 53 → defaultValue (tyX8 j) = vp_V fsX8 j
  | 0, _ => rfl
  | 1, _ => rfl
  | 2, _ => rfl
  | 3, _ => rfl
  | 4, _ => rfl
  | 5, _ => rfl
  | 6, _ => rfl
  | 7, _ => rfl
  | 8, _ => rfl
  | 9, _ => rfl
  | 10, _ => rfl
  | 11, _ => rfl
  | 12, _ => rfl
  | 13, _ => rfl
  | 14, _ => rfl
  | 15, _ => rfl
  | 16, _ => rfl
  | 17, _ => rfl
  | 18, _ => rfl
  | 19, _ => rfl
  | 20, _ => rfl
  | 21, _ => rfl
  | 22, _ => rfl
  | 23, _ => rfl
  | 24, _ => rfl
  | 25, _ => rfl
  | 26, _ => rfl
  | 27, _ => rfl
  | 28, _ => rfl
  | 29, _ => rfl
  | 30, _ => rfl
  | 31, _ => rfl
  | 32, _ => rfl
  | 33, _ => rfl
  | 34, _ => rfl
  | 35, _ => rfl
  | 36, _ => rfl
  | 37, _ => rfl
  | 38, _ => rfl
  | 39, _ => rfl
  | 40, _ => rfl
  | 41, _ => rfl
  | 42, _ => rfl
  | 43, _ => rfl
  | 44, _ => rfl
  | 45, _ => rfl
  | 46, _ => rfl
  | 47, _ => rfl
  | 48, _ => rfl
  | 49, _ => rfl
  | 50, _ => rfl
  | 51, _ => rfl
  | 52, _ => rfl
  | n + 53, h => absurd h (by omega)
theorem raw0_X8 (σ : St) (i : Nat) (h : σ 21 13 i = 0) (g : Nat → ClassId) (ad : Ly) : cont g ad σ 43 i = .inr (8, fsX8) := by
  show raw ad σ 13 i = _
  unfold raw
  rw [h]
  rfl
theorem mn0_X8 (σ : St) (i : Nat) (h : σ 21 13 i = 0) : mn σ 43 i = [] := by
  show (rawL 13 i).filterMap (fun q => if q.1.1 = 0 ∧ (q.2 : Int) < σ 21 13 i then some q.1.2 else none) = []
  rw [h]
  apply List.filterMap_eq_nil_iff.mpr
  intro q _
  exact if_neg (fun e => by have := e.2; omega)
theorem hcX8 : vwCl[8]? = some (RX8, TX8, 53) := rfl
theorem nw_L_97 {X : CX} {z : Nat × Nat} {w : Wl} {pc nx : Nat} {lv : List (Nat × Value)} {σ : St} {st : List Value} {cc : ByteArray} {nL : Nat} {ret : Option FieldType} (hX : okX X cc nL RL ret) (hf : ¬ w.2 43 0) (hz : z.1 + 1 ≤ (xR X).cells ∧ z.2 + 53 ≤ (xR X).slots) (hdg : At cc pc (.new 97) 3 nx) (kk : ∀ a : Nat, V X (z.1 + 1, z.2 + 53) (wup w 43 0 a) nx lv (su σ 21 13 0 0) (.ref a :: st)) : V X z w pc lv σ st := v_z21 (by decide) (by decide) hf (v_newO hX tyX8 hcX8 in_X8 tyX8_ok wd_929 wd_930 wd_7 hf (fun g a => raw0_X8 _ _ su_s g _) (mn0_X8 _ _ su_s) fsX8_ok hz hdg kk)
theorem li_L_99 : LkI RL 99 yX8_init cX8_init 1 0 := ⟨gd_cons wd_933, wd_931, wd_932, wd_7, rfl, by decide, by decide, by decide +kernel⟩
theorem oi_X8_1 {X : CX} {z : Nat × Nat} {w : Wl} {pc nx : Nat} {lv : List (Nat × Value)} {σ : St} {st : List Value} {cc : ByteArray} {nL : Nat} {ret : Option FieldType} (hX : okX X cc nL RX8 ret) {a : Nat} (hR : 1 ≤ (xR X).frames ∧ (st.map fun v => v.category).sum + 12 ≤ (xR X).locals) (hdg : At cc pc (.invokespecial 1) 3 nx) (kk : V X z w nx lv σ st) : V X z w pc lv σ (.ref a :: st) := v_objI hX wd_934 hR hdg kk
def fsX7 : List Value := [.null, .int 0]
theorem fsX7_ok : ∀ j, j < 2 → defaultValue (tyX7 j) = vp_V fsX7 j
  | 0, _ => rfl
  | 1, _ => rfl
  | n + 2, h => absurd h (by omega)
theorem raw0_X7 (σ : St) (i : Nat) (h : σ 21 14 i = 0) (g : Nat → ClassId) (ad : Ly) : cont g ad σ 44 i = .inr (7, fsX7) := by
  show raw ad σ 14 i = _
  unfold raw
  rw [h]
  rfl
theorem mn0_X7 (σ : St) (i : Nat) (h : σ 21 14 i = 0) : mn σ 44 i = [] := by
  show (rawL 14 i).filterMap (fun q => if q.1.1 = 0 ∧ (q.2 : Int) < σ 21 14 i then some q.1.2 else none) = []
  rw [h]
  apply List.filterMap_eq_nil_iff.mpr
  intro q _
  exact if_neg (fun e => by have := e.2; omega)
theorem hcX7 : vwCl[7]? = some (RX7, TX7, 2) := rfl
theorem nw_X8_7 {X : CX} {z : Nat × Nat} {w : Wl} {pc nx : Nat} {lv : List (Nat × Value)} {σ : St} {st : List Value} {cc : ByteArray} {nL : Nat} {ret : Option FieldType} (hX : okX X cc nL RX8 ret) {i : Nat} (hf : ¬ w.2 44 i) (hz : z.1 + 1 ≤ (xR X).cells ∧ z.2 + 2 ≤ (xR X).slots) (hdg : At cc pc (.new 7) 3 nx) (kk : ∀ a : Nat, V X (z.1 + 1, z.2 + 2) (wup w 44 i a) nx lv (su σ 21 14 i 0) (.ref a :: st)) : V X z w pc lv σ st := v_z21 (by decide) (by decide) hf (v_newO hX tyX7 hcX7 in_X7 tyX7_ok wd_935 wd_936 wd_8 hf (fun g a => raw0_X7 _ _ su_s g _) (mn0_X7 _ _ su_s) fsX7_ok hz hdg kk)
theorem li_X8_9 : LkIN RX8 9 yX7_init cX7_init 1 0 := ⟨gd_cons wd_939, Or.inl nw_13, wd_938, wd_8, rfl, by decide, by decide, by decide +kernel⟩
theorem oi_X7_1 {X : CX} {z : Nat × Nat} {w : Wl} {pc nx : Nat} {lv : List (Nat × Value)} {σ : St} {st : List Value} {cc : ByteArray} {nL : Nat} {ret : Option FieldType} (hX : okX X cc nL RX7 ret) {a : Nat} (hR : 1 ≤ (xR X).frames ∧ (st.map fun v => v.category).sum + 12 ≤ (xR X).locals) (hdg : At cc pc (.invokespecial 1) 3 nx) (kk : V X z w nx lv σ st) : V X z w pc lv σ (.ref a :: st) := v_objI hX wd_940 hR hdg kk
set_option maxRecDepth 20000 in
theorem rp_X7_7 {X : CX} {z : Nat × Nat} {w : Wl} {pc nx : Nat} {lv : List (Nat × Value)} {σ : St} {st : List Value} {cc : ByteArray} {nL : Nat} {ret : Option FieldType} (hX : okX X cc nL RX7 ret) {i : Nat} (hnm : (xM X).name = "<init>") (hl : w.2 44 i) (hv : w.2 15 i) (hσ : σ 21 14 i = 0) (hdg : At cc pc (.putfield 7) 3 nx) (kk : V X z w nx lv (su σ 21 14 i (((0 : Nat) : Int) + 1)) st) : V X z w pc lv σ (.ref (w.1 15 i) :: .ref (w.1 44 i) :: st) := v_putR hX (k := 14) (i := i) (j := 0) (r := 0) (ty := tyX7 0) (by decide) (by decide) hl hv (fun _ _ _ => rfl) (fun _ => rfl) rfl hσ (by rfl) hcX7 in_X7 tyX7_ok nmX7 (by decide) wd_941 rfl (Or.inr ⟨rfl, hnm, rfl⟩) (tyX7_ok 0 (by decide)) (fun _ => rfl) (fun _ => rfl) hdg kk
set_option maxRecDepth 20000 in
theorem rp_X8_10 {X : CX} {z : Nat × Nat} {w : Wl} {pc nx : Nat} {lv : List (Nat × Value)} {σ : St} {st : List Value} {cc : ByteArray} {nL : Nat} {ret : Option FieldType} (hX : okX X cc nL RX8 ret) (hnm : (xM X).name = "<init>") (hl : w.2 43 0) (hv : w.2 14 0) (hσ : σ 21 13 0 = 0) (hdg : At cc pc (.putfield 10) 3 nx) (kk : V X z w nx lv (su σ 21 13 0 (((1 : Nat) : Int) + 1)) st) : V X z w pc lv σ (.ref (w.1 14 0) :: .ref (w.1 43 0) :: st) := v_putR hX (k := 13) (i := 0) (j := 1) (r := 1) (ty := tyX8 1) (by decide) (by decide) hl hv (fun _ _ _ => rfl) (fun _ => rfl) rfl hσ (by decide) hcX8 in_X8 tyX8_ok nmX8 (by decide) wd_951 rfl (Or.inr ⟨rfl, hnm, rfl⟩) (tyX8_ok 1 (by decide)) (fun _ => rfl) (fun _ => rfl) hdg kk
set_option maxRecDepth 20000 in
theorem rp_X8_16 {X : CX} {z : Nat × Nat} {w : Wl} {pc nx : Nat} {lv : List (Nat × Value)} {σ : St} {st : List Value} {cc : ByteArray} {nL : Nat} {ret : Option FieldType} (hX : okX X cc nL RX8 ret) (hnm : (xM X).name = "<init>") (hl : w.2 43 0) (hv : w.2 14 1) (hσ : σ 21 13 0 = 2) (hdg : At cc pc (.putfield 16) 3 nx) (kk : V X z w nx lv (su σ 21 13 0 (((2 : Nat) : Int) + 1)) st) : V X z w pc lv σ (.ref (w.1 14 1) :: .ref (w.1 43 0) :: st) := v_putR hX (k := 13) (i := 0) (j := 2) (r := 2) (ty := tyX8 2) (by decide) (by decide) hl hv (fun _ _ _ => rfl) (fun _ => rfl) rfl hσ (by decide) hcX8 in_X8 tyX8_ok nmX8 (by decide) wd_952 rfl (Or.inr ⟨rfl, hnm, rfl⟩) (tyX8_ok 2 (by decide)) (fun _ => rfl) (fun _ => rfl) hdg kk
set_option maxRecDepth 20000 in
theorem rp_X8_19 {X : CX} {z : Nat × Nat} {w : Wl} {pc nx : Nat} {lv : List (Nat × Value)} {σ : St} {st : List Value} {cc : ByteArray} {nL : Nat} {ret : Option FieldType} (hX : okX X cc nL RX8 ret) (hnm : (xM X).name = "<init>") (hl : w.2 43 0) (hv : w.2 14 2) (hσ : σ 21 13 0 = 3) (hdg : At cc pc (.putfield 19) 3 nx) (kk : V X z w nx lv (su σ 21 13 0 (((3 : Nat) : Int) + 1)) st) : V X z w pc lv σ (.ref (w.1 14 2) :: .ref (w.1 43 0) :: st) := v_putR hX (k := 13) (i := 0) (j := 3) (r := 3) (ty := tyX8 3) (by decide) (by decide) hl hv (fun _ _ _ => rfl) (fun _ => rfl) rfl hσ (by decide) hcX8 in_X8 tyX8_ok nmX8 (by decide) wd_953 rfl (Or.inr ⟨rfl, hnm, rfl⟩) (tyX8_ok 3 (by decide)) (fun _ => rfl) (fun _ => rfl) hdg kk
set_option maxRecDepth 20000 in
theorem rp_X8_22 {X : CX} {z : Nat × Nat} {w : Wl} {pc nx : Nat} {lv : List (Nat × Value)} {σ : St} {st : List Value} {cc : ByteArray} {nL : Nat} {ret : Option FieldType} (hX : okX X cc nL RX8 ret) (hnm : (xM X).name = "<init>") (hl : w.2 43 0) (hv : w.2 14 3) (hσ : σ 21 13 0 = 4) (hdg : At cc pc (.putfield 22) 3 nx) (kk : V X z w nx lv (su σ 21 13 0 (((4 : Nat) : Int) + 1)) st) : V X z w pc lv σ (.ref (w.1 14 3) :: .ref (w.1 43 0) :: st) := v_putR hX (k := 13) (i := 0) (j := 4) (r := 4) (ty := tyX8 4) (by decide) (by decide) hl hv (fun _ _ _ => rfl) (fun _ => rfl) rfl hσ (by decide) hcX8 in_X8 tyX8_ok nmX8 (by decide) wd_954 rfl (Or.inr ⟨rfl, hnm, rfl⟩) (tyX8_ok 4 (by decide)) (fun _ => rfl) (fun _ => rfl) hdg kk
set_option maxRecDepth 20000 in
theorem rp_X8_25 {X : CX} {z : Nat × Nat} {w : Wl} {pc nx : Nat} {lv : List (Nat × Value)} {σ : St} {st : List Value} {cc : ByteArray} {nL : Nat} {ret : Option FieldType} (hX : okX X cc nL RX8 ret) (hnm : (xM X).name = "<init>") (hl : w.2 43 0) (hv : w.2 14 4) (hσ : σ 21 13 0 = 5) (hdg : At cc pc (.putfield 25) 3 nx) (kk : V X z w nx lv (su σ 21 13 0 (((5 : Nat) : Int) + 1)) st) : V X z w pc lv σ (.ref (w.1 14 4) :: .ref (w.1 43 0) :: st) := v_putR hX (k := 13) (i := 0) (j := 5) (r := 5) (ty := tyX8 5) (by decide) (by decide) hl hv (fun _ _ _ => rfl) (fun _ => rfl) rfl hσ (by decide) hcX8 in_X8 tyX8_ok nmX8 (by decide) wd_955 rfl (Or.inr ⟨rfl, hnm, rfl⟩) (tyX8_ok 5 (by decide)) (fun _ => rfl) (fun _ => rfl) hdg kk
set_option maxRecDepth 20000 in
theorem rp_X8_28 {X : CX} {z : Nat × Nat} {w : Wl} {pc nx : Nat} {lv : List (Nat × Value)} {σ : St} {st : List Value} {cc : ByteArray} {nL : Nat} {ret : Option FieldType} (hX : okX X cc nL RX8 ret) (hnm : (xM X).name = "<init>") (hl : w.2 43 0) (hv : w.2 14 5) (hσ : σ 21 13 0 = 6) (hdg : At cc pc (.putfield 28) 3 nx) (kk : V X z w nx lv (su σ 21 13 0 (((6 : Nat) : Int) + 1)) st) : V X z w pc lv σ (.ref (w.1 14 5) :: .ref (w.1 43 0) :: st) := v_putR hX (k := 13) (i := 0) (j := 6) (r := 6) (ty := tyX8 6) (by decide) (by decide) hl hv (fun _ _ _ => rfl) (fun _ => rfl) rfl hσ (by decide) hcX8 in_X8 tyX8_ok nmX8 (by decide) wd_956 rfl (Or.inr ⟨rfl, hnm, rfl⟩) (tyX8_ok 6 (by decide)) (fun _ => rfl) (fun _ => rfl) hdg kk
set_option maxRecDepth 20000 in
theorem rp_X8_31 {X : CX} {z : Nat × Nat} {w : Wl} {pc nx : Nat} {lv : List (Nat × Value)} {σ : St} {st : List Value} {cc : ByteArray} {nL : Nat} {ret : Option FieldType} (hX : okX X cc nL RX8 ret) (hnm : (xM X).name = "<init>") (hl : w.2 43 0) (hv : w.2 14 6) (hσ : σ 21 13 0 = 7) (hdg : At cc pc (.putfield 31) 3 nx) (kk : V X z w nx lv (su σ 21 13 0 (((7 : Nat) : Int) + 1)) st) : V X z w pc lv σ (.ref (w.1 14 6) :: .ref (w.1 43 0) :: st) := v_putR hX (k := 13) (i := 0) (j := 7) (r := 7) (ty := tyX8 7) (by decide) (by decide) hl hv (fun _ _ _ => rfl) (fun _ => rfl) rfl hσ (by decide) hcX8 in_X8 tyX8_ok nmX8 (by decide) wd_957 rfl (Or.inr ⟨rfl, hnm, rfl⟩) (tyX8_ok 7 (by decide)) (fun _ => rfl) (fun _ => rfl) hdg kk
set_option maxRecDepth 20000 in
theorem rp_X8_34 {X : CX} {z : Nat × Nat} {w : Wl} {pc nx : Nat} {lv : List (Nat × Value)} {σ : St} {st : List Value} {cc : ByteArray} {nL : Nat} {ret : Option FieldType} (hX : okX X cc nL RX8 ret) (hnm : (xM X).name = "<init>") (hl : w.2 43 0) (hv : w.2 14 7) (hσ : σ 21 13 0 = 8) (hdg : At cc pc (.putfield 34) 3 nx) (kk : V X z w nx lv (su σ 21 13 0 (((8 : Nat) : Int) + 1)) st) : V X z w pc lv σ (.ref (w.1 14 7) :: .ref (w.1 43 0) :: st) := v_putR hX (k := 13) (i := 0) (j := 8) (r := 8) (ty := tyX8 8) (by decide) (by decide) hl hv (fun _ _ _ => rfl) (fun _ => rfl) rfl hσ (by decide) hcX8 in_X8 tyX8_ok nmX8 (by decide) wd_958 rfl (Or.inr ⟨rfl, hnm, rfl⟩) (tyX8_ok 8 (by decide)) (fun _ => rfl) (fun _ => rfl) hdg kk
set_option maxRecDepth 20000 in
theorem rp_X8_37 {X : CX} {z : Nat × Nat} {w : Wl} {pc nx : Nat} {lv : List (Nat × Value)} {σ : St} {st : List Value} {cc : ByteArray} {nL : Nat} {ret : Option FieldType} (hX : okX X cc nL RX8 ret) (hnm : (xM X).name = "<init>") (hl : w.2 43 0) (hv : w.2 14 8) (hσ : σ 21 13 0 = 9) (hdg : At cc pc (.putfield 37) 3 nx) (kk : V X z w nx lv (su σ 21 13 0 (((9 : Nat) : Int) + 1)) st) : V X z w pc lv σ (.ref (w.1 14 8) :: .ref (w.1 43 0) :: st) := v_putR hX (k := 13) (i := 0) (j := 9) (r := 9) (ty := tyX8 9) (by decide) (by decide) hl hv (fun _ _ _ => rfl) (fun _ => rfl) rfl hσ (by decide) hcX8 in_X8 tyX8_ok nmX8 (by decide) wd_959 rfl (Or.inr ⟨rfl, hnm, rfl⟩) (tyX8_ok 9 (by decide)) (fun _ => rfl) (fun _ => rfl) hdg kk
set_option maxRecDepth 20000 in
theorem rp_X8_40 {X : CX} {z : Nat × Nat} {w : Wl} {pc nx : Nat} {lv : List (Nat × Value)} {σ : St} {st : List Value} {cc : ByteArray} {nL : Nat} {ret : Option FieldType} (hX : okX X cc nL RX8 ret) (hnm : (xM X).name = "<init>") (hl : w.2 43 0) (hv : w.2 14 9) (hσ : σ 21 13 0 = 10) (hdg : At cc pc (.putfield 40) 3 nx) (kk : V X z w nx lv (su σ 21 13 0 (((10 : Nat) : Int) + 1)) st) : V X z w pc lv σ (.ref (w.1 14 9) :: .ref (w.1 43 0) :: st) := v_putR hX (k := 13) (i := 0) (j := 10) (r := 10) (ty := tyX8 10) (by decide) (by decide) hl hv (fun _ _ _ => rfl) (fun _ => rfl) rfl hσ (by decide) hcX8 in_X8 tyX8_ok nmX8 (by decide) wd_960 rfl (Or.inr ⟨rfl, hnm, rfl⟩) (tyX8_ok 10 (by decide)) (fun _ => rfl) (fun _ => rfl) hdg kk
set_option maxRecDepth 20000 in
theorem rp_X8_43 {X : CX} {z : Nat × Nat} {w : Wl} {pc nx : Nat} {lv : List (Nat × Value)} {σ : St} {st : List Value} {cc : ByteArray} {nL : Nat} {ret : Option FieldType} (hX : okX X cc nL RX8 ret) (hnm : (xM X).name = "<init>") (hl : w.2 43 0) (hv : w.2 14 10) (hσ : σ 21 13 0 = 11) (hdg : At cc pc (.putfield 43) 3 nx) (kk : V X z w nx lv (su σ 21 13 0 (((11 : Nat) : Int) + 1)) st) : V X z w pc lv σ (.ref (w.1 14 10) :: .ref (w.1 43 0) :: st) := v_putR hX (k := 13) (i := 0) (j := 11) (r := 11) (ty := tyX8 11) (by decide) (by decide) hl hv (fun _ _ _ => rfl) (fun _ => rfl) rfl hσ (by decide) hcX8 in_X8 tyX8_ok nmX8 (by decide) wd_961 rfl (Or.inr ⟨rfl, hnm, rfl⟩) (tyX8_ok 11 (by decide)) (fun _ => rfl) (fun _ => rfl) hdg kk
set_option maxRecDepth 20000 in
theorem rp_X8_46 {X : CX} {z : Nat × Nat} {w : Wl} {pc nx : Nat} {lv : List (Nat × Value)} {σ : St} {st : List Value} {cc : ByteArray} {nL : Nat} {ret : Option FieldType} (hX : okX X cc nL RX8 ret) (hnm : (xM X).name = "<init>") (hl : w.2 43 0) (hv : w.2 14 11) (hσ : σ 21 13 0 = 12) (hdg : At cc pc (.putfield 46) 3 nx) (kk : V X z w nx lv (su σ 21 13 0 (((12 : Nat) : Int) + 1)) st) : V X z w pc lv σ (.ref (w.1 14 11) :: .ref (w.1 43 0) :: st) := v_putR hX (k := 13) (i := 0) (j := 12) (r := 12) (ty := tyX8 12) (by decide) (by decide) hl hv (fun _ _ _ => rfl) (fun _ => rfl) rfl hσ (by decide) hcX8 in_X8 tyX8_ok nmX8 (by decide) wd_962 rfl (Or.inr ⟨rfl, hnm, rfl⟩) (tyX8_ok 12 (by decide)) (fun _ => rfl) (fun _ => rfl) hdg kk
set_option maxRecDepth 20000 in
theorem rp_X8_49 {X : CX} {z : Nat × Nat} {w : Wl} {pc nx : Nat} {lv : List (Nat × Value)} {σ : St} {st : List Value} {cc : ByteArray} {nL : Nat} {ret : Option FieldType} (hX : okX X cc nL RX8 ret) (hnm : (xM X).name = "<init>") (hl : w.2 43 0) (hv : w.2 14 12) (hσ : σ 21 13 0 = 13) (hdg : At cc pc (.putfield 49) 3 nx) (kk : V X z w nx lv (su σ 21 13 0 (((13 : Nat) : Int) + 1)) st) : V X z w pc lv σ (.ref (w.1 14 12) :: .ref (w.1 43 0) :: st) := v_putR hX (k := 13) (i := 0) (j := 13) (r := 13) (ty := tyX8 13) (by decide) (by decide) hl hv (fun _ _ _ => rfl) (fun _ => rfl) rfl hσ (by decide) hcX8 in_X8 tyX8_ok nmX8 (by decide) wd_963 rfl (Or.inr ⟨rfl, hnm, rfl⟩) (tyX8_ok 13 (by decide)) (fun _ => rfl) (fun _ => rfl) hdg kk
set_option maxRecDepth 20000 in
theorem rp_X8_52 {X : CX} {z : Nat × Nat} {w : Wl} {pc nx : Nat} {lv : List (Nat × Value)} {σ : St} {st : List Value} {cc : ByteArray} {nL : Nat} {ret : Option FieldType} (hX : okX X cc nL RX8 ret) (hnm : (xM X).name = "<init>") (hl : w.2 43 0) (hv : w.2 14 13) (hσ : σ 21 13 0 = 14) (hdg : At cc pc (.putfield 52) 3 nx) (kk : V X z w nx lv (su σ 21 13 0 (((14 : Nat) : Int) + 1)) st) : V X z w pc lv σ (.ref (w.1 14 13) :: .ref (w.1 43 0) :: st) := v_putR hX (k := 13) (i := 0) (j := 14) (r := 14) (ty := tyX8 14) (by decide) (by decide) hl hv (fun _ _ _ => rfl) (fun _ => rfl) rfl hσ (by decide) hcX8 in_X8 tyX8_ok nmX8 (by decide) wd_964 rfl (Or.inr ⟨rfl, hnm, rfl⟩) (tyX8_ok 14 (by decide)) (fun _ => rfl) (fun _ => rfl) hdg kk
set_option maxRecDepth 20000 in
theorem rp_X8_55 {X : CX} {z : Nat × Nat} {w : Wl} {pc nx : Nat} {lv : List (Nat × Value)} {σ : St} {st : List Value} {cc : ByteArray} {nL : Nat} {ret : Option FieldType} (hX : okX X cc nL RX8 ret) (hnm : (xM X).name = "<init>") (hl : w.2 43 0) (hv : w.2 14 14) (hσ : σ 21 13 0 = 15) (hdg : At cc pc (.putfield 55) 3 nx) (kk : V X z w nx lv (su σ 21 13 0 (((15 : Nat) : Int) + 1)) st) : V X z w pc lv σ (.ref (w.1 14 14) :: .ref (w.1 43 0) :: st) := v_putR hX (k := 13) (i := 0) (j := 15) (r := 15) (ty := tyX8 15) (by decide) (by decide) hl hv (fun _ _ _ => rfl) (fun _ => rfl) rfl hσ (by decide) hcX8 in_X8 tyX8_ok nmX8 (by decide) wd_965 rfl (Or.inr ⟨rfl, hnm, rfl⟩) (tyX8_ok 15 (by decide)) (fun _ => rfl) (fun _ => rfl) hdg kk
set_option maxRecDepth 20000 in
theorem rp_X8_58 {X : CX} {z : Nat × Nat} {w : Wl} {pc nx : Nat} {lv : List (Nat × Value)} {σ : St} {st : List Value} {cc : ByteArray} {nL : Nat} {ret : Option FieldType} (hX : okX X cc nL RX8 ret) (hnm : (xM X).name = "<init>") (hl : w.2 43 0) (hv : w.2 14 15) (hσ : σ 21 13 0 = 16) (hdg : At cc pc (.putfield 58) 3 nx) (kk : V X z w nx lv (su σ 21 13 0 (((16 : Nat) : Int) + 1)) st) : V X z w pc lv σ (.ref (w.1 14 15) :: .ref (w.1 43 0) :: st) := v_putR hX (k := 13) (i := 0) (j := 16) (r := 16) (ty := tyX8 16) (by decide) (by decide) hl hv (fun _ _ _ => rfl) (fun _ => rfl) rfl hσ (by decide) hcX8 in_X8 tyX8_ok nmX8 (by decide) wd_966 rfl (Or.inr ⟨rfl, hnm, rfl⟩) (tyX8_ok 16 (by decide)) (fun _ => rfl) (fun _ => rfl) hdg kk
set_option maxRecDepth 20000 in
theorem rp_X8_61 {X : CX} {z : Nat × Nat} {w : Wl} {pc nx : Nat} {lv : List (Nat × Value)} {σ : St} {st : List Value} {cc : ByteArray} {nL : Nat} {ret : Option FieldType} (hX : okX X cc nL RX8 ret) (hnm : (xM X).name = "<init>") (hl : w.2 43 0) (hv : w.2 14 16) (hσ : σ 21 13 0 = 17) (hdg : At cc pc (.putfield 61) 3 nx) (kk : V X z w nx lv (su σ 21 13 0 (((17 : Nat) : Int) + 1)) st) : V X z w pc lv σ (.ref (w.1 14 16) :: .ref (w.1 43 0) :: st) := v_putR hX (k := 13) (i := 0) (j := 17) (r := 17) (ty := tyX8 17) (by decide) (by decide) hl hv (fun _ _ _ => rfl) (fun _ => rfl) rfl hσ (by decide) hcX8 in_X8 tyX8_ok nmX8 (by decide) wd_967 rfl (Or.inr ⟨rfl, hnm, rfl⟩) (tyX8_ok 17 (by decide)) (fun _ => rfl) (fun _ => rfl) hdg kk
set_option maxRecDepth 20000 in
theorem rp_X8_64 {X : CX} {z : Nat × Nat} {w : Wl} {pc nx : Nat} {lv : List (Nat × Value)} {σ : St} {st : List Value} {cc : ByteArray} {nL : Nat} {ret : Option FieldType} (hX : okX X cc nL RX8 ret) (hnm : (xM X).name = "<init>") (hl : w.2 43 0) (hv : w.2 14 17) (hσ : σ 21 13 0 = 18) (hdg : At cc pc (.putfield 64) 3 nx) (kk : V X z w nx lv (su σ 21 13 0 (((18 : Nat) : Int) + 1)) st) : V X z w pc lv σ (.ref (w.1 14 17) :: .ref (w.1 43 0) :: st) := v_putR hX (k := 13) (i := 0) (j := 18) (r := 18) (ty := tyX8 18) (by decide) (by decide) hl hv (fun _ _ _ => rfl) (fun _ => rfl) rfl hσ (by decide) hcX8 in_X8 tyX8_ok nmX8 (by decide) wd_968 rfl (Or.inr ⟨rfl, hnm, rfl⟩) (tyX8_ok 18 (by decide)) (fun _ => rfl) (fun _ => rfl) hdg kk
set_option maxRecDepth 20000 in
theorem rp_X8_67 {X : CX} {z : Nat × Nat} {w : Wl} {pc nx : Nat} {lv : List (Nat × Value)} {σ : St} {st : List Value} {cc : ByteArray} {nL : Nat} {ret : Option FieldType} (hX : okX X cc nL RX8 ret) (hnm : (xM X).name = "<init>") (hl : w.2 43 0) (hv : w.2 16 0) (hσ : σ 21 13 0 = 19) (hdg : At cc pc (.putfield 67) 3 nx) (kk : V X z w nx lv (su σ 21 13 0 (((19 : Nat) : Int) + 1)) st) : V X z w pc lv σ (.ref (w.1 16 0) :: .ref (w.1 43 0) :: st) := v_putR hX (k := 13) (i := 0) (j := 19) (r := 19) (ty := tyX8 19) (by decide) (by decide) hl hv (fun _ _ _ => rfl) (fun _ => rfl) rfl hσ (by decide) hcX8 in_X8 tyX8_ok nmX8 (by decide) wd_969 rfl (Or.inr ⟨rfl, hnm, rfl⟩) (tyX8_ok 19 (by decide)) (fun _ => rfl) (fun _ => rfl) hdg kk
set_option maxRecDepth 20000 in
theorem rp_X8_71 {X : CX} {z : Nat × Nat} {w : Wl} {pc nx : Nat} {lv : List (Nat × Value)} {σ : St} {st : List Value} {cc : ByteArray} {nL : Nat} {ret : Option FieldType} (hX : okX X cc nL RX8 ret) (hnm : (xM X).name = "<init>") (hl : w.2 43 0) (hv : w.2 16 1) (hσ : σ 21 13 0 = 20) (hdg : At cc pc (.putfield 71) 3 nx) (kk : V X z w nx lv (su σ 21 13 0 (((20 : Nat) : Int) + 1)) st) : V X z w pc lv σ (.ref (w.1 16 1) :: .ref (w.1 43 0) :: st) := v_putR hX (k := 13) (i := 0) (j := 20) (r := 20) (ty := tyX8 20) (by decide) (by decide) hl hv (fun _ _ _ => rfl) (fun _ => rfl) rfl hσ (by decide) hcX8 in_X8 tyX8_ok nmX8 (by decide) wd_970 rfl (Or.inr ⟨rfl, hnm, rfl⟩) (tyX8_ok 20 (by decide)) (fun _ => rfl) (fun _ => rfl) hdg kk
set_option maxRecDepth 20000 in
theorem rp_X8_74 {X : CX} {z : Nat × Nat} {w : Wl} {pc nx : Nat} {lv : List (Nat × Value)} {σ : St} {st : List Value} {cc : ByteArray} {nL : Nat} {ret : Option FieldType} (hX : okX X cc nL RX8 ret) (hnm : (xM X).name = "<init>") (hl : w.2 43 0) (hv : w.2 16 2) (hσ : σ 21 13 0 = 21) (hdg : At cc pc (.putfield 74) 3 nx) (kk : V X z w nx lv (su σ 21 13 0 (((21 : Nat) : Int) + 1)) st) : V X z w pc lv σ (.ref (w.1 16 2) :: .ref (w.1 43 0) :: st) := v_putR hX (k := 13) (i := 0) (j := 21) (r := 21) (ty := tyX8 21) (by decide) (by decide) hl hv (fun _ _ _ => rfl) (fun _ => rfl) rfl hσ (by decide) hcX8 in_X8 tyX8_ok nmX8 (by decide) wd_971 rfl (Or.inr ⟨rfl, hnm, rfl⟩) (tyX8_ok 21 (by decide)) (fun _ => rfl) (fun _ => rfl) hdg kk
set_option maxRecDepth 20000 in
theorem rp_X8_77 {X : CX} {z : Nat × Nat} {w : Wl} {pc nx : Nat} {lv : List (Nat × Value)} {σ : St} {st : List Value} {cc : ByteArray} {nL : Nat} {ret : Option FieldType} (hX : okX X cc nL RX8 ret) (hnm : (xM X).name = "<init>") (hl : w.2 43 0) (hv : w.2 16 3) (hσ : σ 21 13 0 = 22) (hdg : At cc pc (.putfield 77) 3 nx) (kk : V X z w nx lv (su σ 21 13 0 (((23 : Nat) : Int) + 1)) st) : V X z w pc lv σ (.ref (w.1 16 3) :: .ref (w.1 43 0) :: st) := v_putR hX (k := 13) (i := 0) (j := 23) (r := 23) (ty := tyX8 23) (by decide) (by decide) hl hv (fun _ _ _ => rfl) (fun _ => rfl) rfl hσ (by decide) hcX8 in_X8 tyX8_ok nmX8 (by decide) wd_973 rfl (Or.inr ⟨rfl, hnm, rfl⟩) (tyX8_ok 23 (by decide)) (fun _ => rfl) (fun _ => rfl) hdg kk
set_option maxRecDepth 20000 in
theorem rp_X8_80 {X : CX} {z : Nat × Nat} {w : Wl} {pc nx : Nat} {lv : List (Nat × Value)} {σ : St} {st : List Value} {cc : ByteArray} {nL : Nat} {ret : Option FieldType} (hX : okX X cc nL RX8 ret) (hnm : (xM X).name = "<init>") (hl : w.2 43 0) (hv : w.2 14 18) (hσ : σ 21 13 0 = 24) (hdg : At cc pc (.putfield 80) 3 nx) (kk : V X z w nx lv (su σ 21 13 0 (((25 : Nat) : Int) + 1)) st) : V X z w pc lv σ (.ref (w.1 14 18) :: .ref (w.1 43 0) :: st) := v_putR hX (k := 13) (i := 0) (j := 25) (r := 25) (ty := tyX8 25) (by decide) (by decide) hl hv (fun _ _ _ => rfl) (fun _ => rfl) rfl hσ (by decide) hcX8 in_X8 tyX8_ok nmX8 (by decide) wd_975 rfl (Or.inr ⟨rfl, hnm, rfl⟩) (tyX8_ok 25 (by decide)) (fun _ => rfl) (fun _ => rfl) hdg kk
set_option maxRecDepth 20000 in
theorem rp_X8_83 {X : CX} {z : Nat × Nat} {w : Wl} {pc nx : Nat} {lv : List (Nat × Value)} {σ : St} {st : List Value} {cc : ByteArray} {nL : Nat} {ret : Option FieldType} (hX : okX X cc nL RX8 ret) (hnm : (xM X).name = "<init>") (hl : w.2 43 0) (hv : w.2 14 19) (hσ : σ 21 13 0 = 26) (hdg : At cc pc (.putfield 83) 3 nx) (kk : V X z w nx lv (su σ 21 13 0 (((26 : Nat) : Int) + 1)) st) : V X z w pc lv σ (.ref (w.1 14 19) :: .ref (w.1 43 0) :: st) := v_putR hX (k := 13) (i := 0) (j := 26) (r := 26) (ty := tyX8 26) (by decide) (by decide) hl hv (fun _ _ _ => rfl) (fun _ => rfl) rfl hσ (by decide) hcX8 in_X8 tyX8_ok nmX8 (by decide) wd_976 rfl (Or.inr ⟨rfl, hnm, rfl⟩) (tyX8_ok 26 (by decide)) (fun _ => rfl) (fun _ => rfl) hdg kk
set_option maxRecDepth 20000 in
theorem rp_X8_86 {X : CX} {z : Nat × Nat} {w : Wl} {pc nx : Nat} {lv : List (Nat × Value)} {σ : St} {st : List Value} {cc : ByteArray} {nL : Nat} {ret : Option FieldType} (hX : okX X cc nL RX8 ret) (hnm : (xM X).name = "<init>") (hl : w.2 43 0) (hv : w.2 14 20) (hσ : σ 21 13 0 = 27) (hdg : At cc pc (.putfield 86) 3 nx) (kk : V X z w nx lv (su σ 21 13 0 (((27 : Nat) : Int) + 1)) st) : V X z w pc lv σ (.ref (w.1 14 20) :: .ref (w.1 43 0) :: st) := v_putR hX (k := 13) (i := 0) (j := 27) (r := 27) (ty := tyX8 27) (by decide) (by decide) hl hv (fun _ _ _ => rfl) (fun _ => rfl) rfl hσ (by decide) hcX8 in_X8 tyX8_ok nmX8 (by decide) wd_977 rfl (Or.inr ⟨rfl, hnm, rfl⟩) (tyX8_ok 27 (by decide)) (fun _ => rfl) (fun _ => rfl) hdg kk
set_option maxRecDepth 20000 in
theorem rp_X8_89 {X : CX} {z : Nat × Nat} {w : Wl} {pc nx : Nat} {lv : List (Nat × Value)} {σ : St} {st : List Value} {cc : ByteArray} {nL : Nat} {ret : Option FieldType} (hX : okX X cc nL RX8 ret) (hnm : (xM X).name = "<init>") (hl : w.2 43 0) (hv : w.2 14 21) (hσ : σ 21 13 0 = 28) (hdg : At cc pc (.putfield 89) 3 nx) (kk : V X z w nx lv (su σ 21 13 0 (((28 : Nat) : Int) + 1)) st) : V X z w pc lv σ (.ref (w.1 14 21) :: .ref (w.1 43 0) :: st) := v_putR hX (k := 13) (i := 0) (j := 28) (r := 28) (ty := tyX8 28) (by decide) (by decide) hl hv (fun _ _ _ => rfl) (fun _ => rfl) rfl hσ (by decide) hcX8 in_X8 tyX8_ok nmX8 (by decide) wd_978 rfl (Or.inr ⟨rfl, hnm, rfl⟩) (tyX8_ok 28 (by decide)) (fun _ => rfl) (fun _ => rfl) hdg kk
set_option maxRecDepth 20000 in
theorem rp_X8_92 {X : CX} {z : Nat × Nat} {w : Wl} {pc nx : Nat} {lv : List (Nat × Value)} {σ : St} {st : List Value} {cc : ByteArray} {nL : Nat} {ret : Option FieldType} (hX : okX X cc nL RX8 ret) (hnm : (xM X).name = "<init>") (hl : w.2 43 0) (hv : w.2 14 22) (hσ : σ 21 13 0 = 29) (hdg : At cc pc (.putfield 92) 3 nx) (kk : V X z w nx lv (su σ 21 13 0 (((29 : Nat) : Int) + 1)) st) : V X z w pc lv σ (.ref (w.1 14 22) :: .ref (w.1 43 0) :: st) := v_putR hX (k := 13) (i := 0) (j := 29) (r := 29) (ty := tyX8 29) (by decide) (by decide) hl hv (fun _ _ _ => rfl) (fun _ => rfl) rfl hσ (by decide) hcX8 in_X8 tyX8_ok nmX8 (by decide) wd_979 rfl (Or.inr ⟨rfl, hnm, rfl⟩) (tyX8_ok 29 (by decide)) (fun _ => rfl) (fun _ => rfl) hdg kk
set_option maxRecDepth 20000 in
theorem rp_X8_95 {X : CX} {z : Nat × Nat} {w : Wl} {pc nx : Nat} {lv : List (Nat × Value)} {σ : St} {st : List Value} {cc : ByteArray} {nL : Nat} {ret : Option FieldType} (hX : okX X cc nL RX8 ret) (hnm : (xM X).name = "<init>") (hl : w.2 43 0) (hv : w.2 16 4) (hσ : σ 21 13 0 = 30) (hdg : At cc pc (.putfield 95) 3 nx) (kk : V X z w nx lv (su σ 21 13 0 (((30 : Nat) : Int) + 1)) st) : V X z w pc lv σ (.ref (w.1 16 4) :: .ref (w.1 43 0) :: st) := v_putR hX (k := 13) (i := 0) (j := 30) (r := 30) (ty := tyX8 30) (by decide) (by decide) hl hv (fun _ _ _ => rfl) (fun _ => rfl) rfl hσ (by decide) hcX8 in_X8 tyX8_ok nmX8 (by decide) wd_980 rfl (Or.inr ⟨rfl, hnm, rfl⟩) (tyX8_ok 30 (by decide)) (fun _ => rfl) (fun _ => rfl) hdg kk
set_option maxRecDepth 20000 in
theorem rp_X8_98 {X : CX} {z : Nat × Nat} {w : Wl} {pc nx : Nat} {lv : List (Nat × Value)} {σ : St} {st : List Value} {cc : ByteArray} {nL : Nat} {ret : Option FieldType} (hX : okX X cc nL RX8 ret) (hnm : (xM X).name = "<init>") (hl : w.2 43 0) (hv : w.2 16 5) (hσ : σ 21 13 0 = 31) (hdg : At cc pc (.putfield 98) 3 nx) (kk : V X z w nx lv (su σ 21 13 0 (((31 : Nat) : Int) + 1)) st) : V X z w pc lv σ (.ref (w.1 16 5) :: .ref (w.1 43 0) :: st) := v_putR hX (k := 13) (i := 0) (j := 31) (r := 31) (ty := tyX8 31) (by decide) (by decide) hl hv (fun _ _ _ => rfl) (fun _ => rfl) rfl hσ (by decide) hcX8 in_X8 tyX8_ok nmX8 (by decide) wd_981 rfl (Or.inr ⟨rfl, hnm, rfl⟩) (tyX8_ok 31 (by decide)) (fun _ => rfl) (fun _ => rfl) hdg kk
set_option maxRecDepth 20000 in
theorem rp_X8_101 {X : CX} {z : Nat × Nat} {w : Wl} {pc nx : Nat} {lv : List (Nat × Value)} {σ : St} {st : List Value} {cc : ByteArray} {nL : Nat} {ret : Option FieldType} (hX : okX X cc nL RX8 ret) (hnm : (xM X).name = "<init>") (hl : w.2 43 0) (hv : w.2 16 6) (hσ : σ 21 13 0 = 32) (hdg : At cc pc (.putfield 101) 3 nx) (kk : V X z w nx lv (su σ 21 13 0 (((32 : Nat) : Int) + 1)) st) : V X z w pc lv σ (.ref (w.1 16 6) :: .ref (w.1 43 0) :: st) := v_putR hX (k := 13) (i := 0) (j := 32) (r := 32) (ty := tyX8 32) (by decide) (by decide) hl hv (fun _ _ _ => rfl) (fun _ => rfl) rfl hσ (by decide) hcX8 in_X8 tyX8_ok nmX8 (by decide) wd_982 rfl (Or.inr ⟨rfl, hnm, rfl⟩) (tyX8_ok 32 (by decide)) (fun _ => rfl) (fun _ => rfl) hdg kk
set_option maxRecDepth 20000 in
theorem rp_X8_104 {X : CX} {z : Nat × Nat} {w : Wl} {pc nx : Nat} {lv : List (Nat × Value)} {σ : St} {st : List Value} {cc : ByteArray} {nL : Nat} {ret : Option FieldType} (hX : okX X cc nL RX8 ret) (hnm : (xM X).name = "<init>") (hl : w.2 43 0) (hv : w.2 16 7) (hσ : σ 21 13 0 = 33) (hdg : At cc pc (.putfield 104) 3 nx) (kk : V X z w nx lv (su σ 21 13 0 (((33 : Nat) : Int) + 1)) st) : V X z w pc lv σ (.ref (w.1 16 7) :: .ref (w.1 43 0) :: st) := v_putR hX (k := 13) (i := 0) (j := 33) (r := 33) (ty := tyX8 33) (by decide) (by decide) hl hv (fun _ _ _ => rfl) (fun _ => rfl) rfl hσ (by decide) hcX8 in_X8 tyX8_ok nmX8 (by decide) wd_983 rfl (Or.inr ⟨rfl, hnm, rfl⟩) (tyX8_ok 33 (by decide)) (fun _ => rfl) (fun _ => rfl) hdg kk
set_option maxRecDepth 20000 in
theorem rp_X8_107 {X : CX} {z : Nat × Nat} {w : Wl} {pc nx : Nat} {lv : List (Nat × Value)} {σ : St} {st : List Value} {cc : ByteArray} {nL : Nat} {ret : Option FieldType} (hX : okX X cc nL RX8 ret) (hnm : (xM X).name = "<init>") (hl : w.2 43 0) (hv : w.2 16 8) (hσ : σ 21 13 0 = 34) (hdg : At cc pc (.putfield 107) 3 nx) (kk : V X z w nx lv (su σ 21 13 0 (((34 : Nat) : Int) + 1)) st) : V X z w pc lv σ (.ref (w.1 16 8) :: .ref (w.1 43 0) :: st) := v_putR hX (k := 13) (i := 0) (j := 34) (r := 34) (ty := tyX8 34) (by decide) (by decide) hl hv (fun _ _ _ => rfl) (fun _ => rfl) rfl hσ (by decide) hcX8 in_X8 tyX8_ok nmX8 (by decide) wd_984 rfl (Or.inr ⟨rfl, hnm, rfl⟩) (tyX8_ok 34 (by decide)) (fun _ => rfl) (fun _ => rfl) hdg kk
set_option maxRecDepth 20000 in
theorem rp_X8_110 {X : CX} {z : Nat × Nat} {w : Wl} {pc nx : Nat} {lv : List (Nat × Value)} {σ : St} {st : List Value} {cc : ByteArray} {nL : Nat} {ret : Option FieldType} (hX : okX X cc nL RX8 ret) (hnm : (xM X).name = "<init>") (hl : w.2 43 0) (hv : w.2 16 9) (hσ : σ 21 13 0 = 35) (hdg : At cc pc (.putfield 110) 3 nx) (kk : V X z w nx lv (su σ 21 13 0 (((35 : Nat) : Int) + 1)) st) : V X z w pc lv σ (.ref (w.1 16 9) :: .ref (w.1 43 0) :: st) := v_putR hX (k := 13) (i := 0) (j := 35) (r := 35) (ty := tyX8 35) (by decide) (by decide) hl hv (fun _ _ _ => rfl) (fun _ => rfl) rfl hσ (by decide) hcX8 in_X8 tyX8_ok nmX8 (by decide) wd_985 rfl (Or.inr ⟨rfl, hnm, rfl⟩) (tyX8_ok 35 (by decide)) (fun _ => rfl) (fun _ => rfl) hdg kk
set_option maxRecDepth 20000 in
theorem rp_X8_113 {X : CX} {z : Nat × Nat} {w : Wl} {pc nx : Nat} {lv : List (Nat × Value)} {σ : St} {st : List Value} {cc : ByteArray} {nL : Nat} {ret : Option FieldType} (hX : okX X cc nL RX8 ret) (hnm : (xM X).name = "<init>") (hl : w.2 43 0) (hv : w.2 16 10) (hσ : σ 21 13 0 = 36) (hdg : At cc pc (.putfield 113) 3 nx) (kk : V X z w nx lv (su σ 21 13 0 (((38 : Nat) : Int) + 1)) st) : V X z w pc lv σ (.ref (w.1 16 10) :: .ref (w.1 43 0) :: st) := v_putR hX (k := 13) (i := 0) (j := 38) (r := 38) (ty := tyX8 38) (by decide) (by decide) hl hv (fun _ _ _ => rfl) (fun _ => rfl) rfl hσ (by decide) hcX8 in_X8 tyX8_ok nmX8 (by decide) wd_988 rfl (Or.inr ⟨rfl, hnm, rfl⟩) (tyX8_ok 38 (by decide)) (fun _ => rfl) (fun _ => rfl) hdg kk
set_option maxRecDepth 20000 in
theorem rp_X8_116 {X : CX} {z : Nat × Nat} {w : Wl} {pc nx : Nat} {lv : List (Nat × Value)} {σ : St} {st : List Value} {cc : ByteArray} {nL : Nat} {ret : Option FieldType} (hX : okX X cc nL RX8 ret) (hnm : (xM X).name = "<init>") (hl : w.2 43 0) (hv : w.2 16 11) (hσ : σ 21 13 0 = 39) (hdg : At cc pc (.putfield 116) 3 nx) (kk : V X z w nx lv (su σ 21 13 0 (((39 : Nat) : Int) + 1)) st) : V X z w pc lv σ (.ref (w.1 16 11) :: .ref (w.1 43 0) :: st) := v_putR hX (k := 13) (i := 0) (j := 39) (r := 39) (ty := tyX8 39) (by decide) (by decide) hl hv (fun _ _ _ => rfl) (fun _ => rfl) rfl hσ (by decide) hcX8 in_X8 tyX8_ok nmX8 (by decide) wd_989 rfl (Or.inr ⟨rfl, hnm, rfl⟩) (tyX8_ok 39 (by decide)) (fun _ => rfl) (fun _ => rfl) hdg kk
set_option maxRecDepth 20000 in
theorem rp_X8_119 {X : CX} {z : Nat × Nat} {w : Wl} {pc nx : Nat} {lv : List (Nat × Value)} {σ : St} {st : List Value} {cc : ByteArray} {nL : Nat} {ret : Option FieldType} (hX : okX X cc nL RX8 ret) (hnm : (xM X).name = "<init>") (hl : w.2 43 0) (hv : w.2 16 12) (hσ : σ 21 13 0 = 40) (hdg : At cc pc (.putfield 119) 3 nx) (kk : V X z w nx lv (su σ 21 13 0 (((40 : Nat) : Int) + 1)) st) : V X z w pc lv σ (.ref (w.1 16 12) :: .ref (w.1 43 0) :: st) := v_putR hX (k := 13) (i := 0) (j := 40) (r := 40) (ty := tyX8 40) (by decide) (by decide) hl hv (fun _ _ _ => rfl) (fun _ => rfl) rfl hσ (by decide) hcX8 in_X8 tyX8_ok nmX8 (by decide) wd_990 rfl (Or.inr ⟨rfl, hnm, rfl⟩) (tyX8_ok 40 (by decide)) (fun _ => rfl) (fun _ => rfl) hdg kk
set_option maxRecDepth 20000 in
theorem rp_X8_122 {X : CX} {z : Nat × Nat} {w : Wl} {pc nx : Nat} {lv : List (Nat × Value)} {σ : St} {st : List Value} {cc : ByteArray} {nL : Nat} {ret : Option FieldType} (hX : okX X cc nL RX8 ret) (hnm : (xM X).name = "<init>") (hl : w.2 43 0) (hv : w.2 17 0) (hσ : σ 21 13 0 = 41) (hdg : At cc pc (.putfield 122) 3 nx) (kk : V X z w nx lv (su σ 21 13 0 (((41 : Nat) : Int) + 1)) st) : V X z w pc lv σ (.ref (w.1 17 0) :: .ref (w.1 43 0) :: st) := v_putR hX (k := 13) (i := 0) (j := 41) (r := 41) (ty := tyX8 41) (by decide) (by decide) hl hv (fun _ _ _ => rfl) (fun _ => rfl) rfl hσ (by decide) hcX8 in_X8 tyX8_ok nmX8 (by decide) wd_991 rfl (Or.inr ⟨rfl, hnm, rfl⟩) (tyX8_ok 41 (by decide)) (fun _ => rfl) (fun _ => rfl) hdg kk
set_option maxRecDepth 20000 in
theorem rp_X8_126 {X : CX} {z : Nat × Nat} {w : Wl} {pc nx : Nat} {lv : List (Nat × Value)} {σ : St} {st : List Value} {cc : ByteArray} {nL : Nat} {ret : Option FieldType} (hX : okX X cc nL RX8 ret) (hnm : (xM X).name = "<init>") (hl : w.2 43 0) (hv : w.2 14 23) (hσ : σ 21 13 0 = 42) (hdg : At cc pc (.putfield 126) 3 nx) (kk : V X z w nx lv (su σ 21 13 0 (((43 : Nat) : Int) + 1)) st) : V X z w pc lv σ (.ref (w.1 14 23) :: .ref (w.1 43 0) :: st) := v_putR hX (k := 13) (i := 0) (j := 43) (r := 43) (ty := tyX8 43) (by decide) (by decide) hl hv (fun _ _ _ => rfl) (fun _ => rfl) rfl hσ (by decide) hcX8 in_X8 tyX8_ok nmX8 (by decide) wd_993 rfl (Or.inr ⟨rfl, hnm, rfl⟩) (tyX8_ok 43 (by decide)) (fun _ => rfl) (fun _ => rfl) hdg kk
set_option maxRecDepth 20000 in
theorem rp_X8_129 {X : CX} {z : Nat × Nat} {w : Wl} {pc nx : Nat} {lv : List (Nat × Value)} {σ : St} {st : List Value} {cc : ByteArray} {nL : Nat} {ret : Option FieldType} (hX : okX X cc nL RX8 ret) (hnm : (xM X).name = "<init>") (hl : w.2 43 0) (hv : w.2 14 24) (hσ : σ 21 13 0 = 44) (hdg : At cc pc (.putfield 129) 3 nx) (kk : V X z w nx lv (su σ 21 13 0 (((44 : Nat) : Int) + 1)) st) : V X z w pc lv σ (.ref (w.1 14 24) :: .ref (w.1 43 0) :: st) := v_putR hX (k := 13) (i := 0) (j := 44) (r := 44) (ty := tyX8 44) (by decide) (by decide) hl hv (fun _ _ _ => rfl) (fun _ => rfl) rfl hσ (by decide) hcX8 in_X8 tyX8_ok nmX8 (by decide) wd_994 rfl (Or.inr ⟨rfl, hnm, rfl⟩) (tyX8_ok 44 (by decide)) (fun _ => rfl) (fun _ => rfl) hdg kk
set_option maxRecDepth 20000 in
theorem rp_X8_132 {X : CX} {z : Nat × Nat} {w : Wl} {pc nx : Nat} {lv : List (Nat × Value)} {σ : St} {st : List Value} {cc : ByteArray} {nL : Nat} {ret : Option FieldType} (hX : okX X cc nL RX8 ret) (hnm : (xM X).name = "<init>") (hl : w.2 43 0) (hv : w.2 14 25) (hσ : σ 21 13 0 = 45) (hdg : At cc pc (.putfield 132) 3 nx) (kk : V X z w nx lv (su σ 21 13 0 (((45 : Nat) : Int) + 1)) st) : V X z w pc lv σ (.ref (w.1 14 25) :: .ref (w.1 43 0) :: st) := v_putR hX (k := 13) (i := 0) (j := 45) (r := 45) (ty := tyX8 45) (by decide) (by decide) hl hv (fun _ _ _ => rfl) (fun _ => rfl) rfl hσ (by decide) hcX8 in_X8 tyX8_ok nmX8 (by decide) wd_995 rfl (Or.inr ⟨rfl, hnm, rfl⟩) (tyX8_ok 45 (by decide)) (fun _ => rfl) (fun _ => rfl) hdg kk
set_option maxRecDepth 20000 in
theorem rp_X8_135 {X : CX} {z : Nat × Nat} {w : Wl} {pc nx : Nat} {lv : List (Nat × Value)} {σ : St} {st : List Value} {cc : ByteArray} {nL : Nat} {ret : Option FieldType} (hX : okX X cc nL RX8 ret) (hnm : (xM X).name = "<init>") (hl : w.2 43 0) (hv : w.2 14 26) (hσ : σ 21 13 0 = 46) (hdg : At cc pc (.putfield 135) 3 nx) (kk : V X z w nx lv (su σ 21 13 0 (((46 : Nat) : Int) + 1)) st) : V X z w pc lv σ (.ref (w.1 14 26) :: .ref (w.1 43 0) :: st) := v_putR hX (k := 13) (i := 0) (j := 46) (r := 46) (ty := tyX8 46) (by decide) (by decide) hl hv (fun _ _ _ => rfl) (fun _ => rfl) rfl hσ (by decide) hcX8 in_X8 tyX8_ok nmX8 (by decide) wd_996 rfl (Or.inr ⟨rfl, hnm, rfl⟩) (tyX8_ok 46 (by decide)) (fun _ => rfl) (fun _ => rfl) hdg kk
set_option maxRecDepth 20000 in
theorem rp_X8_138 {X : CX} {z : Nat × Nat} {w : Wl} {pc nx : Nat} {lv : List (Nat × Value)} {σ : St} {st : List Value} {cc : ByteArray} {nL : Nat} {ret : Option FieldType} (hX : okX X cc nL RX8 ret) (hnm : (xM X).name = "<init>") (hl : w.2 43 0) (hv : w.2 14 27) (hσ : σ 21 13 0 = 47) (hdg : At cc pc (.putfield 138) 3 nx) (kk : V X z w nx lv (su σ 21 13 0 (((47 : Nat) : Int) + 1)) st) : V X z w pc lv σ (.ref (w.1 14 27) :: .ref (w.1 43 0) :: st) := v_putR hX (k := 13) (i := 0) (j := 47) (r := 47) (ty := tyX8 47) (by decide) (by decide) hl hv (fun _ _ _ => rfl) (fun _ => rfl) rfl hσ (by decide) hcX8 in_X8 tyX8_ok nmX8 (by decide) wd_997 rfl (Or.inr ⟨rfl, hnm, rfl⟩) (tyX8_ok 47 (by decide)) (fun _ => rfl) (fun _ => rfl) hdg kk
set_option maxRecDepth 20000 in
theorem rp_X8_141 {X : CX} {z : Nat × Nat} {w : Wl} {pc nx : Nat} {lv : List (Nat × Value)} {σ : St} {st : List Value} {cc : ByteArray} {nL : Nat} {ret : Option FieldType} (hX : okX X cc nL RX8 ret) (hnm : (xM X).name = "<init>") (hl : w.2 43 0) (hv : w.2 14 28) (hσ : σ 21 13 0 = 48) (hdg : At cc pc (.putfield 141) 3 nx) (kk : V X z w nx lv (su σ 21 13 0 (((48 : Nat) : Int) + 1)) st) : V X z w pc lv σ (.ref (w.1 14 28) :: .ref (w.1 43 0) :: st) := v_putR hX (k := 13) (i := 0) (j := 48) (r := 48) (ty := tyX8 48) (by decide) (by decide) hl hv (fun _ _ _ => rfl) (fun _ => rfl) rfl hσ (by decide) hcX8 in_X8 tyX8_ok nmX8 (by decide) wd_998 rfl (Or.inr ⟨rfl, hnm, rfl⟩) (tyX8_ok 48 (by decide)) (fun _ => rfl) (fun _ => rfl) hdg kk
set_option maxRecDepth 20000 in
theorem rp_X8_144 {X : CX} {z : Nat × Nat} {w : Wl} {pc nx : Nat} {lv : List (Nat × Value)} {σ : St} {st : List Value} {cc : ByteArray} {nL : Nat} {ret : Option FieldType} (hX : okX X cc nL RX8 ret) (hnm : (xM X).name = "<init>") (hl : w.2 43 0) (hv : w.2 14 29) (hσ : σ 21 13 0 = 49) (hdg : At cc pc (.putfield 144) 3 nx) (kk : V X z w nx lv (su σ 21 13 0 (((49 : Nat) : Int) + 1)) st) : V X z w pc lv σ (.ref (w.1 14 29) :: .ref (w.1 43 0) :: st) := v_putR hX (k := 13) (i := 0) (j := 49) (r := 49) (ty := tyX8 49) (by decide) (by decide) hl hv (fun _ _ _ => rfl) (fun _ => rfl) rfl hσ (by decide) hcX8 in_X8 tyX8_ok nmX8 (by decide) wd_999 rfl (Or.inr ⟨rfl, hnm, rfl⟩) (tyX8_ok 49 (by decide)) (fun _ => rfl) (fun _ => rfl) hdg kk
set_option maxRecDepth 20000 in
theorem rp_X8_147 {X : CX} {z : Nat × Nat} {w : Wl} {pc nx : Nat} {lv : List (Nat × Value)} {σ : St} {st : List Value} {cc : ByteArray} {nL : Nat} {ret : Option FieldType} (hX : okX X cc nL RX8 ret) (hnm : (xM X).name = "<init>") (hl : w.2 43 0) (hv : w.2 16 13) (hσ : σ 21 13 0 = 50) (hdg : At cc pc (.putfield 147) 3 nx) (kk : V X z w nx lv (su σ 21 13 0 (((50 : Nat) : Int) + 1)) st) : V X z w pc lv σ (.ref (w.1 16 13) :: .ref (w.1 43 0) :: st) := v_putR hX (k := 13) (i := 0) (j := 50) (r := 50) (ty := tyX8 50) (by decide) (by decide) hl hv (fun _ _ _ => rfl) (fun _ => rfl) rfl hσ (by decide) hcX8 in_X8 tyX8_ok nmX8 (by decide) wd_1000 rfl (Or.inr ⟨rfl, hnm, rfl⟩) (tyX8_ok 50 (by decide)) (fun _ => rfl) (fun _ => rfl) hdg kk
set_option maxRecDepth 20000 in
theorem rp_X8_150 {X : CX} {z : Nat × Nat} {w : Wl} {pc nx : Nat} {lv : List (Nat × Value)} {σ : St} {st : List Value} {cc : ByteArray} {nL : Nat} {ret : Option FieldType} (hX : okX X cc nL RX8 ret) (hnm : (xM X).name = "<init>") (hl : w.2 43 0) (hv : w.2 16 14) (hσ : σ 21 13 0 = 51) (hdg : At cc pc (.putfield 150) 3 nx) (kk : V X z w nx lv (su σ 21 13 0 (((51 : Nat) : Int) + 1)) st) : V X z w pc lv σ (.ref (w.1 16 14) :: .ref (w.1 43 0) :: st) := v_putR hX (k := 13) (i := 0) (j := 51) (r := 51) (ty := tyX8 51) (by decide) (by decide) hl hv (fun _ _ _ => rfl) (fun _ => rfl) rfl hσ (by decide) hcX8 in_X8 tyX8_ok nmX8 (by decide) wd_1001 rfl (Or.inr ⟨rfl, hnm, rfl⟩) (tyX8_ok 51 (by decide)) (fun _ => rfl) (fun _ => rfl) hdg kk
set_option maxRecDepth 20000 in
theorem rp_X8_153 {X : CX} {z : Nat × Nat} {w : Wl} {pc nx : Nat} {lv : List (Nat × Value)} {σ : St} {st : List Value} {cc : ByteArray} {nL : Nat} {ret : Option FieldType} (hX : okX X cc nL RX8 ret) (hnm : (xM X).name = "<init>") (hl : w.2 43 0) (hv : w.2 16 15) (hσ : σ 21 13 0 = 52) (hdg : At cc pc (.putfield 153) 3 nx) (kk : V X z w nx lv (su σ 21 13 0 (((52 : Nat) : Int) + 1)) st) : V X z w pc lv σ (.ref (w.1 16 15) :: .ref (w.1 43 0) :: st) := v_putR hX (k := 13) (i := 0) (j := 52) (r := 52) (ty := tyX8 52) (by decide) (by decide) hl hv (fun _ _ _ => rfl) (fun _ => rfl) rfl hσ (by decide) hcX8 in_X8 tyX8_ok nmX8 (by decide) wd_1002 rfl (Or.inr ⟨rfl, hnm, rfl⟩) (tyX8_ok 52 (by decide)) (fun _ => rfl) (fun _ => rfl) hdg kk
