/-! what the padder lays, as lists -/
def SP : List (Nat × Nat) := [(0, 25), (1, 25), (0, 27), (1, 27), (0, 28), (1, 28), (0, 29), (1, 29), (0, 30), (1, 30), (0, 31), (1, 31), (0, 32), (1, 32), (0, 33), (1, 33), (9, 0), (9, 1), (9, 2)]
def SPP : List (Nat × Nat) := [(0, 32), (1, 32), (0, 33), (1, 33), (9, 0), (9, 1), (9, 2)]
theorem BY_set {L : List Nat} {k x : Nat} (h : BY L) (hx : x < 256) : BY (L.set k x) := by
  intro y hy
  rcases List.mem_or_eq_of_mem_set hy with q | q
  · exact h y q
  · rw [q]; exact hx
def hideD (h : Int) (k : Nat) (m lb sd : List Nat) : List Nat := mix (sha h lb ++ List.replicate (k - 2 * hl h - 2 - m.length) 0 ++ [1] ++ m) (msk h sd (k - hl h - 1))
def hideL (h : Int) (k : Nat) (m lb sd : List Nat) : List Nat := [0] ++ mix (msk h (hideD h k m lb sd) (hl h)) sd ++ hideD h k m lb sd
def showX (h : Int) (F : List Nat) : List Nat := (F.drop (1 + hl h)).take (F.length - hl h - 1)
def showS (h : Int) (F : List Nat) : List Nat := mix ((F.drop 1).take (hl h)) (msk h (showX h F) (hl h))
def showD (h : Int) (F : List Nat) : List Nat := mix (showX h F) (msk h (showS h F) (F.length - hl h - 1))
def showO (h : Int) (F : List Nat) : Nat := hl h + run (fun x => decide (x = 0)) (showD h F) (hl h)
abbrev showOK (h : Int) (F lb : List Nat) : Prop := F.getD 0 0 = 0 ∧ (showD h F).take (hl h) = sha h lb ∧ (showD h F).getD (showO h F) 0 = 1
def showL (h : Int) (F : List Nat) : List Nat := ((showD h F).drop (showO h F + 1)).take (F.length - hl h - 1 - showO h F - 1)
def fillL (m f : List Nat) : List Nat := [0] ++ [2] ++ f ++ [0] ++ m
def emptyN (F : List Nat) : Nat := run (fun x => decide (x ≠ 0)) F 2
abbrev emptyOK (F : List Nat) : Prop := F.getD 0 0 = 0 ∧ F.getD 1 0 = 2 ∧ 8 ≤ emptyN F ∧ 2 + emptyN F < F.length
def emptyL (F : List Nat) : List Nat := (F.drop (2 + emptyN F + 1)).take (F.length - (2 + emptyN F) - 1)
def nam (h : Int) : List Nat := (sT (if h = 0 then 4 else 5)).map Int.toNat
theorem nam0 {h : Int} (e : h = 0) : nam h = (sT 4).map Int.toNat := by unfold nam; rw [if_pos e]
theorem nam1 {h : Int} (e : h ≠ 0) : nam h = (sT 5).map Int.toNat := by unfold nam; rw [if_neg e]
theorem nam_len {h : Int} : (nam h).length = 19 := by
  by_cases e : h = 0
  · rw [nam0 e]; rfl
  · rw [nam1 e]; rfl
theorem nam4 : ∀ j, j < 19 → ((sT 4).getD j 0 % 256).toNat = ((sT 4).map Int.toNat).getD j 0 := by decide +kernel
theorem nam5 : ∀ j, j < 19 → ((sT 5).getD j 0 % 256).toNat = ((sT 5).map Int.toNat).getD j 0 := by decide +kernel
theorem nam_by {h : Int} : BY (nam h) := by
  by_cases e : h = 0
  · rw [nam0 e]; unfold BY; decide +kernel
  · rw [nam1 e]; unfold BY; decide +kernel
def signL (h : Int) (k : Nat) (m : List Nat) : List Nat := [0] ++ [1] ++ List.replicate (k - 3 - 19 - hl h) 255 ++ [0] ++ nam h ++ sha h m
def prf (h : Int) (m s : List Nat) : List Nat := sha h (List.replicate 8 0 ++ sha h m ++ s)
theorem prf_len {h : Int} {m s : List Nat} : (prf h m s).length = hl h := sha_len
/-- a room's bytes; how many bits of its highest byte are none of its -/
def rB (r : Nat) : Nat := (r + 7) / 8
def rS (r : Nat) : Nat := 8 * rB r - r
theorem rS_lt (r : Nat) : rS r < 8 := by unfold rS rB; omega
theorem kand : ∀ j, j < 8 → ∀ a, a < 256 → iI (a : Nat) &&& iI ((255 / 2 ^ j : Nat) : Int) = iI ((a % 2 ^ (8 - j) : Nat) : Int) := by decide +kernel
theorem knot : ∀ j, j < 8 → ∀ a, a < 256 → iI (a : Nat) &&& (iI ((255 / 2 ^ j : Nat) : Int) ^^^ iI (-1)) = iI ((a / 2 ^ (8 - j) * 2 ^ (8 - j) : Nat) : Int) := by decide +kernel
theorem kshr (j : Nat) (hj : j < 8) : iI 255 >>> (iI (j : Int) &&& 31) = iI ((255 / 2 ^ j : Nat) : Int) := by
  have g := iI_shr (a := 255) ⟨by omega, by omega⟩ j (by omega)
  rw [g, show (255 : Int) / ((2 ^ j : Nat) : Int) = ((255 / 2 ^ j : Nat) : Int) from (Int.natCast_ediv 255 (2 ^ j)).symm]
def kept (r : Nat) (L : List Nat) : List Nat := L.set 0 (L.getD 0 0 % 2 ^ (8 - rS r))
def saltD (h : Int) (r : Nat) (m s : List Nat) : List Nat := kept r (mix (List.replicate (rB r - hl h - 1 - 1 - s.length) 0 ++ [1] ++ s) (msk h (prf h m s) (rB r - hl h - 1)))
def saltL (h : Int) (r : Nat) (m s : List Nat) : List Nat := saltD h r m s ++ prf h m s ++ [188]
def tasteX (h : Int) (r : Nat) (F : List Nat) : List Nat := (F.drop (F.length - rB r)).take (rB r - hl h - 1)
def tasteS (h : Int) (r : Nat) (F : List Nat) : List Nat := (F.drop (F.length - rB r + (rB r - hl h - 1))).take (hl h)
def tasteD (h : Int) (r : Nat) (F : List Nat) : List Nat := kept r (mix (tasteX h r F) (msk h (tasteS h r F) (rB r - hl h - 1)))
abbrev tasteOK (h : Int) (r : Nat) (F m : List Nat) (x : Nat) : Prop := (rB r < F.length → F.getD 0 0 = 0) ∧ F.getD (F.length - 1) 0 = 188 ∧ (tasteX h r F).getD 0 0 < 2 ^ (8 - rS r) ∧ run (fun x => decide (x = 0)) (tasteD h r F) 0 = rB r - hl h - 1 - x - 1 ∧ (tasteD h r F).getD (rB r - hl h - 1 - x - 1) 0 = 1 ∧ tasteS h r F = prf h m (((tasteD h r F).drop (rB r - hl h - 1 - x - 1 + 1)).take x)
theorem kept_len {r : Nat} {L : List Nat} : (kept r L).length = L.length := List.length_set
theorem pmod (j : Nat) (hj : j < 8) (a : Nat) : a % 2 ^ (8 - j) < 256 := Nat.lt_of_lt_of_le (Nat.mod_lt _ (Nat.two_pow_pos _)) (Nat.pow_le_pow_right (by omega) (show 8 - j ≤ 8 by omega))
