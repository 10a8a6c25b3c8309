/-! mathematics: contents of regions -/
abbrev xR : Type := Nat → Nat → Int
def sR (S : xSt) (r : Nat) (F : xR) : xSt := (S.1, (fun r' => if r' = r then F else S.2.1 r'), S.2.2)
def uF (F : xR) (o k : Nat) (z : Int) : xR := fun o' k' => if o' = o ∧ k' = k then z else F o' k'
def uG (F : xR) (o : Nat) (f : Nat → Int) : xR := fun o' k' => if o' = o then f k' else F o' k'
def uN (N : Nat → Int) (k : Nat) (z : Int) : Nat → Int := fun j => if j = k then z else N j
theorem sR_g {S : xSt} {r o k : Nat} {F : xR} : gI (sR S r F) r o k = F o k := by
  show (if r = r then F else S.2.1 r) o k = _
  rw [if_pos rfl]
theorem sR_g1 {S : xSt} {r : Nat} {F : xR} : (sR S r F).2.1 r = F := by
  show (if r = r then F else S.2.1 r) = _
  rw [if_pos rfl]
theorem sR_n {S : xSt} {r r' o k : Nat} {F : xR} (h : r' ≠ r) : gI (sR S r F) r' o k = gI S r' o k := by
  show (if r' = r then F else S.2.1 r') o k = _
  rw [if_neg h]
  rfl
theorem sR_n1 {S : xSt} {r r' : Nat} {F : xR} (h : r' ≠ r) : (sR S r F).2.1 r' = S.2.1 r' := by
  show (if r' = r then F else S.2.1 r') = _
  rw [if_neg h]
theorem sR_a {S : xSt} {r o : Nat} {F : xR} {f : Nat → Int} : wA (sR S r F) r o f = sR S r (uG F o f) := by
  have e : (fun r' o' => if r' = r ∧ o' = o then f else (sR S r F).2.1 r' o') = fun r' => if r' = r then uG F o f else S.2.1 r' := by
    funext r' o'
    by_cases h : r' = r
    · subst h
      rw [sR_g1, if_pos rfl]
      by_cases h2 : o' = o
      · subst h2
        rw [if_pos ⟨rfl, rfl⟩]
        funext k
        show _ = if o' = o' then f k else F o' k
        rw [if_pos rfl]
      · rw [if_neg (fun z => h2 z.2)]
        funext k
        show _ = if o' = o then f k else F o' k
        rw [if_neg h2]
    · rw [if_neg (fun z => h z.1), if_neg h, sR_n1 h]
  show (S.1, _, S.2.2) = _
  rw [e]
  rfl
theorem sR_w {S : xSt} {r o k : Nat} {F : xR} {z : Int} : wI (sR S r F) r o k z = sR S r (uF F o k z) := by
  unfold wI
  rw [sR_a]
  congr 1
  funext o' k'
  show (if o' = o then (if k' = k then z else (sR S r F).2.1 r o k') else F o' k') = if o' = o ∧ k' = k then z else F o' k'
  rw [sR_g1]
  by_cases h : o' = o
  · subst h
    rw [if_pos rfl]
    by_cases h2 : k' = k
    · rw [if_pos h2, if_pos ⟨rfl, h2⟩]
    · rw [if_neg h2, if_neg (fun z => h2 z.2)]
  · rw [if_neg h, if_neg (fun z => h z.1)]
theorem sR_e {S : xSt} {r : Nat} : sR S r (S.2.1 r) = S := by
  have e : (fun r' => if r' = r then S.2.1 r else S.2.1 r') = S.2.1 := by
    funext r'
    by_cases h : r' = r
    · rw [if_pos h, h]
    · rw [if_neg h]
  show (S.1, (fun r' => if r' = r then S.2.1 r else S.2.1 r'), S.2.2) = S
  rw [e]
theorem sR_s {S : xSt} {r : Nat} {F F' : xR} : sR (sR S r F) r F' = sR S r F' := by
  have e : (fun r' => if r' = r then F' else (sR S r F).2.1 r') = fun r' => if r' = r then F' else S.2.1 r' := by
    funext r'
    by_cases h : r' = r
    · rw [if_pos h, if_pos h]
    · rw [if_neg h, if_neg h, sR_n1 h]
  show (S.1, (fun r' => if r' = r then F' else (sR S r F).2.1 r'), S.2.2) = _
  rw [e]
  rfl
theorem sR_fu {S : xSt} {r : Nat} {F : xR} : fu (sR S r F) = fu S := rfl
theorem sR_gk {S : xSt} {r q : Nat} {F : xR} : gk (sR S r F) q = gk S q := rfl
theorem sR_gP {S : xSt} {r a o k : Nat} {F : xR} : gP (sR S r F) a o k = gP S a o k := rfl
theorem uF_e {F : xR} {o k : Nat} {z : Int} : uF F o k z o k = z := if_pos ⟨rfl, rfl⟩
theorem uF_o {F : xR} {o o' k k' : Nat} {z : Int} (h : o' ≠ o) : uF F o k z o' k' = F o' k' := if_neg (fun y => h y.1)
theorem uF_k {F : xR} {o k k' : Nat} {z : Int} (h : k' ≠ k) : uF F o k z o k' = F o k' := if_neg (fun y => h y.2)
theorem uF_v {F : xR} {o k k' : Nat} {z : Int} : uF F o k z o k' = if k' = k then z else F o k' := by
  by_cases h : k' = k
  · rw [if_pos h, h, uF_e]
  · rw [if_neg h, uF_k h]
theorem uG_e {F : xR} {o k : Nat} {f : Nat → Int} : uG F o f o k = f k := if_pos rfl
theorem uG_o {F : xR} {o o' k : Nat} {f : Nat → Int} (h : o' ≠ o) : uG F o f o' k = F o' k := if_neg h
theorem uN_e {N : Nat → Int} {k : Nat} {z : Int} : uN N k z k = z := if_pos rfl
theorem uN_k {N : Nat → Int} {k j : Nat} {z : Int} (h : j ≠ k) : uN N k z j = N j := if_neg h
theorem lt1_e {α β : Type} {x : α} {f : α → β} : lt1 x f = f x := rfl
theorem bd_e {α β : Type} {a : α} {f : α → Option β} : bd (some a) f = f a := rfl
theorem bd2_e {α β γ : Type} {a : α} {b : β} {f : α → β → Option γ} : bd2 (some (a, b)) f = f a b := rfl
theorem ckI_e {β : Type} {i : Int} {n : Nat} {k : Option β} (h : 0 ≤ i ∧ i < (n : Int) ∧ n ≤ 1000000) : ckI i n k = k := by
  unfold ckI
  rw [wr_id (by omega), if_pos ⟨h.1, h.2.1⟩]
theorem ckZ_e {β : Type} {y : Int} {k : Option β} (h : 0 < y ∧ y ≤ 1000000) : ckZ y k = k := by
  unfold ckZ
  rw [wr_id (by omega), if_neg (by omega)]
theorem ckB_e {β : Type} {z : Int} {k : Option β} (h : z = 0 ∨ z = 1) : ckB z k = k := if_pos h
theorem ckP_e {β : Type} {S : xSt} {r o k d oo q : Nat} {f : Nat → Option β} (h : gP S r o k = (q, oo)) (h2 : gk S q = d) : ckP S r o k d oo f = f q := by
  unfold ckP
  rw [h]
  exact if_pos ⟨rfl, h2⟩
theorem wr_e {z : Int} (h : -2147483648 ≤ z ∧ z ≤ 2147483647) : wr z = z := wr_id (by omega)
/-- the sum of m ops from a on -/
def osm (π : xR) (a : Nat) : Nat → Int
  | 0 => 0
  | m + 1 => osm π a m + π 10 (a + m)
/-- whether k can close a loop -/
def lpk (π : xR) (k : Nat) : Prop := 8 ≤ π 5 k ∧ π 11 k ≤ (k : Int) ∧ ∀ j : Nat, π 11 k ≤ (j : Int) → j < k → π 5 j < 8
def PRk (π : xR) (k : Nat) : Prop := (0 ≤ π 5 k ∧ π 5 k ≤ 9) ∧ (π 6 k = 0 ∨ π 6 k = 1) ∧ (8 ≤ π 5 k → 0 ≤ π 11 k ∧ π 11 k ≤ π 0 10) ∧ (π 5 k < 8 → π 11 k = -1) ∧ (π 5 k = 9 → 1 ≤ π 8 k ∧ π 8 k ≤ 99) ∧ π 10 k = tbI 1 (π 5 k).toNat ∧ π 9 (k + 1) = π 9 k + tbI 3 (π 5 k).toNat + π 6 k ∧ (lpk π k → π 12 k = osm π (π 11 k).toNat (k + 1 - (π 11 k).toNat)) ∧ (¬ lpk π k → π 12 k = -1)
def PR (π : xR) : Prop := (0 ≤ π 0 10 ∧ π 0 10 ≤ 60) ∧ π 9 0 = 0 ∧ (π 1 1 = 8 ∨ π 1 1 = 16 ∨ π 1 1 = 32) ∧ (2 ≤ π 1 2 ∧ π 1 2 ≤ 20) ∧ (4 ≤ π 1 3 ∧ π 1 3 ≤ 40) ∧ (1 ≤ π 1 0 ∧ π 1 0 ≤ 6) ∧ (1 ≤ π 1 4 ∧ π 1 4 ≤ 8) ∧ (0 ≤ π 1 5 ∧ π 1 5 ≤ 30) ∧ (0 ≤ π 2 2 ∧ π 2 2 ≤ 6) ∧ (∀ j : Nat, (j : Int) < π 2 2 → 0 ≤ π 3 j ∧ π 3 j ≤ 7 ∧ 0 ≤ π 4 j ∧ π 4 j ≤ 9) ∧ ∀ k : Nat, (k : Int) < π 0 10 → PRk π k
def plN (π : xR) (s : Int × (Nat → Int)) : Int × (Nat → Int) :=
  if s.1 < 0 ∨ π 0 10 ≤ s.1 then s
  else if π 5 s.1.toNat < 8 then (s.1 + 1, s.2)
  else if π 5 s.1.toNat = 8 then (π 11 s.1.toNat, s.2)
  else if s.2 s.1.toNat < π 8 s.1.toNat then (π 11 s.1.toNat, uN s.2 s.1.toNat (s.2 s.1.toNat + 1))
  else (s.1 + 1, uN s.2 s.1.toNat 0)
def plS (π : xR) : Nat → Int × (Nat → Int)
  | 0 => (0, fun _ => 0)
  | d + 1 => plN π (plS π d)
def plV (π : xR) (s : Int × (Nat → Int)) : Int := if s.1 < 0 ∨ π 0 10 ≤ s.1 then -1 else s.1
theorem pr_n {π : xR} (h : PR π) : 0 ≤ π 0 10 ∧ π 0 10 ≤ 60 := h.1
theorem pr_k {π : xR} (h : PR π) {k : Nat} (hk : (k : Int) < π 0 10) : PRk π k := h.2.2.2.2.2.2.2.2.2.2 k hk
theorem uF_G {F : xR} {o k : Nat} {z : Int} : uF F o k z = uG F o (uN (F o) k z) := by
  funext o' k'
  show (if o' = o ∧ k' = k then z else F o' k') = if o' = o then (if k' = k then z else F o k') else F o' k'
  by_cases h : o' = o
  · subst h
    by_cases h2 : k' = k
    · rw [if_pos ⟨rfl, h2⟩, if_pos rfl, if_pos h2]
    · rw [if_neg (fun y => h2 y.2), if_pos rfl, if_neg h2]
  · rw [if_neg (fun y => h y.1), if_neg h]
theorem uG_G {F : xR} {o : Nat} {f g : Nat → Int} : uG (uG F o f) o g = uG F o g := by
  funext o' k'
  show (if o' = o then g k' else if o' = o then f k' else F o' k') = if o' = o then g k' else F o' k'
  by_cases h : o' = o
  · rw [if_pos h, if_pos h]
  · rw [if_neg h, if_neg h, if_neg h]
theorem uG_c {F : xR} {o o2 : Nat} {f g : Nat → Int} (ho : o ≠ o2) : uG (uG F o f) o2 g = uG (uG F o2 g) o f := by
  funext o' k'
  show (if o' = o2 then g k' else if o' = o then f k' else F o' k') = if o' = o then f k' else if o' = o2 then g k' else F o' k'
  by_cases h : o' = o
  · rw [if_neg (fun y => ho (h.symm.trans y)), if_pos h, if_pos h]
  · rw [if_neg h, if_neg h]
theorem uG_f {F : xR} {o : Nat} {f : Nat → Int} : (uG F o f) o = f := by
  funext k
  exact if_pos rfl
theorem uG_h {F : xR} {o o' : Nat} {f : Nat → Int} (h : o' ≠ o) : (uG F o f) o' = F o' := by
  funext k
  exact if_neg h
theorem uG_i {F : xR} {o : Nat} : uG F o (F o) = F := by
  funext o' k'
  show (if o' = o then F o k' else F o' k') = F o' k'
  by_cases h : o' = o
  · rw [if_pos h, h]
  · rw [if_neg h]
theorem uF_i {F : xR} {o k : Nat} : uF F o k (F o k) = F := by
  funext o' k'
  show (if o' = o ∧ k' = k then F o k else F o' k') = F o' k'
  by_cases h : o' = o ∧ k' = k
  · rw [if_pos h, h.1, h.2]
  · rw [if_neg h]
theorem sR_inj {S : xSt} {r : Nat} {F G : xR} (h : sR S r F = sR S r G) : F = G := by
  have k := congrArg (fun X : xSt => X.2.1 r) h
  rw [sR_g1, sR_g1] at k
  exact k
theorem cpI_0 {f g : Nat → Int} {n j : Nat} (h : j < n) : cpI f g 0 0 n j = f j := by
  unfold cpI
  rw [if_pos ⟨Nat.zero_le _, by omega⟩]
  congr 1
  omega
theorem wP_g {S : xSt} {r o k a b c : Nat} {z : Nat × Nat} : gI (wP S r o k z) a b c = gI S a b c := rfl
theorem wP_1 {S : xSt} {r o k : Nat} {z : Nat × Nat} : (wP S r o k z).2.1 = S.2.1 := rfl
theorem wP_s {S : xSt} {r r' o k : Nat} {z : Nat × Nat} {X : xR} : wP (sR S r X) r' o k z = sR (wP S r' o k z) r X := rfl
set_option maxHeartbeats 4000000 in
theorem sR_i {S : xSt} {r : Nat} {F : xR} (h : S.2.1 r = F) : S = sR S r F := by rw [← h, sR_e]
theorem fs_e {f : Nat} (h : 0 < f) : ∃ g, f = g + 1 := ⟨f - 1, by omega⟩
/-- a Front in region r, its program π in q -/
def CC (S : xSt) (r q : Nat) (π : xR) : Prop := gP S r 0 0 = (q, 0) ∧ gk S q = 2 ∧ q ≠ r ∧ S.2.1 q = π ∧ 10000000 ≤ fu S
section C0
variable {S : xSt} {r q : Nat} {π F : xR}
theorem cc_p (h : CC S r q π) {β : Type} {f : Nat → Option β} : ckP (sR S r F) r 0 0 2 0 f = f q := ckP_e h.1 h.2.1
theorem cc_q (h : CC S r q π) {o k : Nat} : gI (sR S r F) q o k = π o k := by
  rw [sR_n h.2.2.1, ← h.2.2.2.1]
  rfl
theorem cc_f (h : CC S r q π) : 10000000 ≤ fu S := h.2.2.2.2
end C0
/-- the sum of f's first m -/
def sm (f : Nat → Int) : Nat → Int
  | 0 => 0
  | m + 1 => sm f m + f m
/-- the places of a Front -/
def inb (o k : Nat) : Bool := match o with
  | 0 => decide (9 ≤ k ∧ k ≤ 17)
  | 1 => decide (k < 6)
  | 2 => decide (k = 2)
  | 3 => decide (k < 7)
  | 4 => decide (k < 7)
  | 5 => decide (k = 2)
  | 6 => decide (k < 20)
  | 7 => decide (k < 20)
  | 8 => decide (k < 5)
  | 10 => decide (k < 60)
  | 11 => decide (k = 1)
  | 13 => decide (k < 60)
  | 14 => decide (k = 4)
  | 15 => decide (k < 9)
  | 16 => decide (k < 9)
  | 17 => decide (k < 60)
  | 18 => decide (k < 100)
  | 19 => decide (k < 60)
  | _ => false
/-- nothing stands elsewhere -/
def ZB (F : xR) : Prop := ∀ o k, inb o k = false → F o k = 0
theorem zb_F {F : xR} {o k : Nat} {z : Int} (h : ZB F) (hi : inb o k = true) : ZB (uF F o k z) := fun o' k' h' => by
  show (if o' = o ∧ k' = k then z else F o' k') = 0
  rw [if_neg (fun y => by rw [y.1, y.2, hi] at h'; cases h')]
  exact h o' k' h'
theorem zb_G {F : xR} {o : Nat} {g : Nat → Int} (h : ZB F) (hi : ∀ k, inb o k = false → g k = 0) : ZB (uG F o g) := fun o' k' h' => by
  show (if o' = o then g k' else F o' k') = 0
  split
  · rename_i e
    rw [e] at h'
    exact hi k' h'
  · exact h o' k' h'
/-- where an instruction of the queue leads -/
def nxq (π F : xR) (j : Nat) : Int := if F 7 j = 1 then π 11 (F 6 j).toNat else F 6 j + 1
def FR (π : xR) (B : Int) (F : xR) : Prop := (1 ≤ F 1 0 ∧ F 1 0 ≤ 6) ∧ (1 ≤ F 1 4 ∧ F 1 4 ≤ 8) ∧ (0 ≤ F 1 5 ∧ F 1 5 ≤ 30) ∧ F 1 1 = π 1 1 ∧ F 1 2 = π 1 2 ∧ F 1 3 = π 1 3 ∧ (0 ≤ F 0 10 ∧ F 0 10 ≤ π 0 10) ∧ (F 0 11 = 0 ∨ F 0 11 = 1) ∧ (F 0 13 = 0 ∨ F 0 13 = 1) ∧ (0 ≤ F 0 14 ∧ F 0 14 ≤ F 1 3) ∧ (0 ≤ F 0 15 ∧ F 0 15 ≤ 4) ∧ (0 ≤ F 0 16 ∧ F 0 16 ≤ 3) ∧ (0 ≤ F 0 17 ∧ F 0 17 ≤ 99) ∧ (0 ≤ F 0 12 ∧ F 0 12 ≤ 1000 + B) ∧ (-1 ≤ F 0 9 ∧ F 0 9 < 60) ∧ (0 ≤ F 5 2 ∧ F 5 2 ≤ F 1 2) ∧ (F 8 0 = 0 ∨ F 8 0 = 1) ∧ F 2 2 = π 2 2
def FU (π F : xR) : Prop := ∀ j : Nat, j < 7 → F 3 j = π 3 j ∧ F 4 j = π 4 j
def FQ (π F : xR) : Prop := ∀ j : Nat, (j : Int) < F 5 2 → (0 ≤ F 6 j ∧ F 6 j < π 0 10) ∧ (F 7 j = 0 ∨ F 7 j = 1) ∧ (F 7 j = 1 → 8 ≤ π 5 (F 6 j).toNat) ∧ (π 5 (F 6 j).toNat = 8 → F 7 j = 1)
def FT (π F : xR) : Prop := (∀ k : Nat, k < 60 → (F 19 k = 0 ∨ F 19 k = 1) ∧ (F 19 k = 1 → 8 ≤ π 5 k)) ∧ ∀ k : Nat, (k : Int) < π 0 10 → π 5 k = 9 → F 10 k = F 13 k
def FD (π F : xR) : Prop := F 11 1 = (plS π (F 15 1).toNat).1 ∧ ∀ k : Nat, (k : Int) < π 0 10 → π 5 k = 9 → F 13 k = (plS π (F 15 1).toNat).2 k
def FL (π F : xR) : Prop := F 8 0 = 1 → F 5 2 = 0 ∧ 0 ≤ F 8 1 ∧ F 8 1 ≤ F 8 3 ∧ F 8 3 ≤ F 8 2 ∧ F 8 2 < π 0 10 ∧ lpk π (F 8 2).toNat ∧ F 8 1 = π 11 (F 8 2).toNat ∧ F 8 3 = F 11 1
def FC (π F : xR) : Prop := F 8 0 = 0 → (0 < F 5 2 → F 6 0 = F 11 1) ∧ (∀ j : Nat, (j : Int) + 1 < F 5 2 → F 6 (j + 1) = nxq π F j) ∧ (F 5 2 = 0 → F 0 10 = F 11 1) ∧ ∀ j : Nat, (j : Int) + 1 = F 5 2 → F 0 10 = nxq π F j
def FP (π F : xR) : Prop := (∀ k : Nat, 0 ≤ F 17 k ∧ F 17 k ≤ F 15 1) ∧ sm (F 17) (π 0 10).toNat = F 15 1 ∧ F 14 4 = F 15 1 ∧ (0 < F 15 1 → F 18 (((F 15 1).toNat - 1) % 100) = (plS π ((F 15 1).toNat - 1)).1 ∧ 1 ≤ F 17 (F 18 (((F 15 1).toNat - 1) % 100)).toNat ∧ 0 ≤ F 18 (((F 15 1).toNat - 1) % 100) ∧ F 18 (((F 15 1).toNat - 1) % 100) < π 0 10)
def FN (B : Int) (F : xR) : Prop := (∀ k : Nat, 0 ≤ F 15 k ∧ F 15 k ≤ B) ∧ (∀ k : Nat, 0 ≤ F 16 k ∧ F 16 k ≤ B) ∧ F 15 8 ≤ F 15 1 ∧ 2 * F 15 3 ≤ F 15 1 ∧ F 0 14 ≤ F 15 2
def FI (π : xR) (B : Int) (F : xR) : Prop := FR π B F ∧ FU π F ∧ FQ π F ∧ FT π F ∧ FD π F ∧ FL π F ∧ FC π F ∧ FP π F ∧ FN B F ∧ ZB F
theorem fi_mono {π F : xR} {B B' : Int} (h : FI π B F) (hb : B ≤ B') : FI π B' F := by
  obtain ⟨⟨r0, r1, r2, r3, r4, r5, r6, r7, r8, r9, r10, r11, r12, r13, r14⟩, hu, hq, ht, hd, hl, hc, hp, hn, hz⟩ := h
  exact ⟨⟨r0, r1, r2, r3, r4, r5, r6, r7, r8, r9, r10, r11, r12, ⟨r13.1, by omega⟩, r14⟩, hu, hq, ht, hd, hl, hc, hp, ⟨fun k => ⟨(hn.1 k).1, Int.le_trans (hn.1 k).2 hb⟩, fun k => ⟨(hn.2.1 k).1, Int.le_trans (hn.2.1 k).2 hb⟩, hn.2.2⟩, hz⟩
