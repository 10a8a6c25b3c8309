/-! mathematics: contents of regions -/
abbrev xR : Type := Nat → Nat → Int
def sR (S : xSt) (r : Nat) (F : xR) : xSt := (S.1, (fun r' => if r' = r then F else S.2.1 r'), S.2.2)
def uF (F : xR) (o k : Nat) (z : Int) : xR := fun o' k' => if o' = o ∧ k' = k then z else F o' k'
def uG (F : xR) (o : Nat) (f : Nat → Int) : xR := fun o' k' => if o' = o then f k' else F o' k'
def uN (N : Nat → Int) (k : Nat) (z : Int) : Nat → Int := fun j => if j = k then z else N j
theorem sR_g {S : xSt} {r o k : Nat} {F : xR} : gI (sR S r F) r o k = F o k := by
  show (if r = r then F else S.2.1 r) o k = _
  rw [if_pos rfl]
theorem sR_g1 {S : xSt} {r : Nat} {F : xR} : (sR S r F).2.1 r = F := by
  show (if r = r then F else S.2.1 r) = _
  rw [if_pos rfl]
theorem sR_n {S : xSt} {r r' o k : Nat} {F : xR} (h : r' ≠ r) : gI (sR S r F) r' o k = gI S r' o k := by
  show (if r' = r then F else S.2.1 r') o k = _
  rw [if_neg h]
  rfl
theorem sR_n1 {S : xSt} {r r' : Nat} {F : xR} (h : r' ≠ r) : (sR S r F).2.1 r' = S.2.1 r' := by
  show (if r' = r then F else S.2.1 r') = _
  rw [if_neg h]
theorem sR_a {S : xSt} {r o : Nat} {F : xR} {f : Nat → Int} : wA (sR S r F) r o f = sR S r (uG F o f) := by
  have e : (fun r' o' => if r' = r ∧ o' = o then f else (sR S r F).2.1 r' o') = fun r' => if r' = r then uG F o f else S.2.1 r' := by
    funext r' o'
    by_cases h : r' = r
    · subst h
      rw [sR_g1, if_pos rfl]
      by_cases h2 : o' = o
      · subst h2
        rw [if_pos ⟨rfl, rfl⟩]
        funext k
        show _ = if o' = o' then f k else F o' k
        rw [if_pos rfl]
      · rw [if_neg (fun z => h2 z.2)]
        funext k
        show _ = if o' = o then f k else F o' k
        rw [if_neg h2]
    · rw [if_neg (fun z => h z.1), if_neg h, sR_n1 h]
  show (S.1, _, S.2.2) = _
  rw [e]
  rfl
theorem sR_w {S : xSt} {r o k : Nat} {F : xR} {z : Int} : wI (sR S r F) r o k z = sR S r (uF F o k z) := by
  unfold wI
  rw [sR_a]
  congr 1
  funext o' k'
  show (if o' = o then (if k' = k then z else (sR S r F).2.1 r o k') else F o' k') = if o' = o ∧ k' = k then z else F o' k'
  rw [sR_g1]
  by_cases h : o' = o
  · subst h
    rw [if_pos rfl]
    by_cases h2 : k' = k
    · rw [if_pos h2, if_pos ⟨rfl, h2⟩]
    · rw [if_neg h2, if_neg (fun z => h2 z.2)]
  · rw [if_neg h, if_neg (fun z => h z.1)]
theorem sR_e {S : xSt} {r : Nat} : sR S r (S.2.1 r) = S := by
  have e : (fun r' => if r' = r then S.2.1 r else S.2.1 r') = S.2.1 := by
    funext r'
    by_cases h : r' = r
    · rw [if_pos h, h]
    · rw [if_neg h]
  show (S.1, (fun r' => if r' = r then S.2.1 r else S.2.1 r'), S.2.2) = S
  rw [e]
theorem sR_s {S : xSt} {r : Nat} {F F' : xR} : sR (sR S r F) r F' = sR S r F' := by
  have e : (fun r' => if r' = r then F' else (sR S r F).2.1 r') = fun r' => if r' = r then F' else S.2.1 r' := by
    funext r'
    by_cases h : r' = r
    · rw [if_pos h, if_pos h]
    · rw [if_neg h, if_neg h, sR_n1 h]
  show (S.1, (fun r' => if r' = r then F' else (sR S r F).2.1 r'), S.2.2) = _
  rw [e]
  rfl
theorem sR_fu {S : xSt} {r : Nat} {F : xR} : fu (sR S r F) = fu S := rfl
theorem sR_gk {S : xSt} {r q : Nat} {F : xR} : gk (sR S r F) q = gk S q := rfl
theorem sR_gP {S : xSt} {r a o k : Nat} {F : xR} : gP (sR S r F) a o k = gP S a o k := rfl
theorem wN_g {T : xSt} {M k : Nat} {N : Nat → Int} : gI (wA T M 6 N) M 6 k = N k := by rw [gI_wA, if_pos ⟨rfl, rfl⟩]
theorem wN_o {T : xSt} {M o k : Nat} {N : Nat → Int} (h : o ≠ 6) : gI (wA T M 6 N) M o k = gI T M o k := by rw [gI_wA, if_neg (fun z => h z.2)]
theorem wN_s {T : xSt} {M : Nat} {N N' : Nat → Int} : wA (wA T M 6 N) M 6 N' = wA T M 6 N' := by
  have e : (fun r' o' => if r' = M ∧ o' = 6 then N' else (wA T M 6 N).2.1 r' o') = fun r' o' => if r' = M ∧ o' = 6 then N' else T.2.1 r' o' := by
    funext r' o'
    by_cases h : r' = M ∧ o' = 6
    · rw [if_pos h, if_pos h]
    · rw [if_neg h, if_neg h]
      show (if r' = M ∧ o' = 6 then N else T.2.1 r' o') = _
      rw [if_neg h]
  show (T.1, (fun r' o' => if r' = M ∧ o' = 6 then N' else (wA T M 6 N).2.1 r' o'), T.2.2) = _
  rw [e]
  rfl
theorem wN_w {T : xSt} {M k : Nat} {N : Nat → Int} {z : Int} : wI (wA T M 6 N) M 6 k z = wA T M 6 (uN N k z) := by
  unfold wI
  rw [wN_s]
  congr 1
  funext j
  show (if j = k then z else gI (wA T M 6 N) M 6 j) = if j = k then z else N j
  rw [wN_g]
theorem wN_e {T : xSt} {M : Nat} : wA T M 6 (T.2.1 M 6) = T := by
  have e : (fun r' o' => if r' = M ∧ o' = 6 then T.2.1 M 6 else T.2.1 r' o') = T.2.1 := by
    funext r' o'
    by_cases h : r' = M ∧ o' = 6
    · rw [if_pos h, h.1, h.2]
    · rw [if_neg h]
  show (T.1, (fun r' o' => if r' = M ∧ o' = 6 then T.2.1 M 6 else T.2.1 r' o'), T.2.2) = T
  rw [e]
theorem wN_fu {T : xSt} {M : Nat} {N : Nat → Int} : fu (wA T M 6 N) = fu T := rfl
theorem uF_e {F : xR} {o k : Nat} {z : Int} : uF F o k z o k = z := if_pos ⟨rfl, rfl⟩
theorem uF_o {F : xR} {o o' k k' : Nat} {z : Int} (h : o' ≠ o) : uF F o k z o' k' = F o' k' := if_neg (fun y => h y.1)
theorem uF_k {F : xR} {o k k' : Nat} {z : Int} (h : k' ≠ k) : uF F o k z o k' = F o k' := if_neg (fun y => h y.2)
theorem uF_v {F : xR} {o k k' : Nat} {z : Int} : uF F o k z o k' = if k' = k then z else F o k' := by
  by_cases h : k' = k
  · rw [if_pos h, h, uF_e]
  · rw [if_neg h, uF_k h]
theorem uG_e {F : xR} {o k : Nat} {f : Nat → Int} : uG F o f o k = f k := if_pos rfl
theorem uG_o {F : xR} {o o' k : Nat} {f : Nat → Int} (h : o' ≠ o) : uG F o f o' k = F o' k := if_neg h
theorem uN_e {N : Nat → Int} {k : Nat} {z : Int} : uN N k z k = z := if_pos rfl
theorem uN_k {N : Nat → Int} {k j : Nat} {z : Int} (h : j ≠ k) : uN N k z j = N j := if_neg h
theorem lt1_e {α β : Type} {x : α} {f : α → β} : lt1 x f = f x := rfl
theorem bd_e {α β : Type} {a : α} {f : α → Option β} : bd (some a) f = f a := rfl
theorem bd2_e {α β γ : Type} {a : α} {b : β} {f : α → β → Option γ} : bd2 (some (a, b)) f = f a b := rfl
theorem ckI_e {β : Type} {i : Int} {n : Nat} {k : Option β} (h : 0 ≤ i ∧ i < (n : Int) ∧ n ≤ 1000000) : ckI i n k = k := by
  unfold ckI
  rw [wr_id (by omega), if_pos ⟨h.1, h.2.1⟩]
theorem ckZ_e {β : Type} {y : Int} {k : Option β} (h : 0 < y ∧ y ≤ 1000000) : ckZ y k = k := by
  unfold ckZ
  rw [wr_id (by omega), if_neg (by omega)]
theorem ckB_e {β : Type} {z : Int} {k : Option β} (h : z = 0 ∨ z = 1) : ckB z k = k := if_pos h
theorem ckP_e {β : Type} {S : xSt} {r o k d oo q : Nat} {f : Nat → Option β} (h : gP S r o k = (q, oo)) (h2 : gk S q = d) : ckP S r o k d oo f = f q := by
  unfold ckP
  rw [h]
  exact if_pos ⟨rfl, h2⟩
theorem wr_e {z : Int} (h : -2147483648 ≤ z ∧ z ≤ 2147483647) : wr z = z := wr_id (by omega)
/-! the program, and what is always so of it -/
/-- the sum of m ops from a on -/
def osm (π : xR) (a : Nat) : Nat → Int
  | 0 => 0
  | m + 1 => osm π a m + π 10 (a + m)
/-- whether k can close a loop -/
def lpk (π : xR) (k : Nat) : Prop := 8 ≤ π 5 k ∧ π 11 k ≤ (k : Int) ∧ ∀ j : Nat, π 11 k ≤ (j : Int) → j < k → π 5 j < 8
def PRk (π : xR) (k : Nat) : Prop := (0 ≤ π 5 k ∧ π 5 k ≤ 9) ∧ (π 6 k = 0 ∨ π 6 k = 1) ∧ (8 ≤ π 5 k → 0 ≤ π 11 k ∧ π 11 k ≤ π 0 10) ∧ (π 5 k < 8 → π 11 k = -1) ∧ (π 5 k = 9 → 1 ≤ π 8 k ∧ π 8 k ≤ 99) ∧ π 10 k = tbI 1 (π 5 k).toNat ∧ π 9 (k + 1) = π 9 k + tbI 3 (π 5 k).toNat + π 6 k ∧ (lpk π k → π 12 k = osm π (π 11 k).toNat (k + 1 - (π 11 k).toNat)) ∧ (¬ lpk π k → π 12 k = -1)
def PR (π : xR) : Prop := (0 ≤ π 0 10 ∧ π 0 10 ≤ 60) ∧ π 9 0 = 0 ∧ (π 1 1 = 8 ∨ π 1 1 = 16 ∨ π 1 1 = 32) ∧ (2 ≤ π 1 2 ∧ π 1 2 ≤ 20) ∧ (4 ≤ π 1 3 ∧ π 1 3 ≤ 40) ∧ (1 ≤ π 1 0 ∧ π 1 0 ≤ 6) ∧ (1 ≤ π 1 4 ∧ π 1 4 ≤ 8) ∧ (0 ≤ π 1 5 ∧ π 1 5 ≤ 30) ∧ (0 ≤ π 2 2 ∧ π 2 2 ≤ 6) ∧ (∀ j : Nat, (j : Int) < π 2 2 → 0 ≤ π 3 j ∧ π 3 j ≤ 7 ∧ 0 ≤ π 4 j ∧ π 4 j ≤ 9) ∧ ∀ k : Nat, (k : Int) < π 0 10 → PRk π k
/-- the reference's program is the class's -/
def PM (π μ : xR) : Prop := μ 0 1 = π 0 10 ∧ μ 0 2 = π 1 1 ∧ μ 0 3 = π 1 2 ∧ μ 0 4 = π 1 3 ∧ (∀ k : Nat, (k : Int) < π 0 10 → μ 1 k = π 5 k ∧ μ 2 k = π 6 k ∧ μ 3 k = π 11 k ∧ (π 5 k = 9 → μ 4 k = π 8 k)) ∧ ∀ k : Nat, (k : Int) ≤ π 0 10 → μ 5 k = π 9 k
/-- one side's Front in region r with its program in q, the other's row -/
def CT (S : xSt) (r q : Nat) (T : xSt) (M : Nat) (π μ : xR) : Prop := gP S r 0 0 = (q, 0) ∧ gk S q = 2 ∧ q ≠ r ∧ (∀ o k : Nat, o ≠ 77 → S.2.1 q o k = π o k) ∧ T.2.1 M = μ ∧ 10000000 ≤ fu S ∧ 10000000 ≤ fu T ∧ PR π ∧ PM π μ
section C0
variable {S T : xSt} {r q M : Nat} {π μ F : xR} {N : Nat → Int}
theorem ct_p (h : CT S r q T M π μ) {β : Type} {f : Nat → Option β} : ckP (sR S r F) r 0 0 2 0 f = f q := ckP_e h.1 h.2.1
theorem ct_q (h : CT S r q T M π μ) {o k : Nat} (ho : o ≠ 77) : gI (sR S r F) q o k = π o k := by
  rw [sR_n h.2.2.1, ← h.2.2.2.1 o k ho]
  rfl
theorem ct_m (h : CT S r q T M π μ) {o k : Nat} (ho : o ≠ 6) : gI (wA T M 6 N) M o k = μ o k := by
  rw [wN_o ho, ← h.2.2.2.2.1]
  rfl
theorem ct_fS (h : CT S r q T M π μ) : 10000000 ≤ fu S := h.2.2.2.2.2.1
theorem ct_fT (h : CT S r q T M π μ) : 10000000 ≤ fu T := h.2.2.2.2.2.2.1
theorem ct_R (h : CT S r q T M π μ) : PR π := h.2.2.2.2.2.2.2.1
theorem ct_M (h : CT S r q T M π μ) : PM π μ := h.2.2.2.2.2.2.2.2
theorem pr_n (h : PR π) : 0 ≤ π 0 10 ∧ π 0 10 ≤ 60 := h.1
theorem pr_k (h : PR π) {k : Nat} (hk : (k : Int) < π 0 10) : PRk π k := h.2.2.2.2.2.2.2.2.2.2 k hk
theorem pm_k (h : PM π μ) {k : Nat} (hk : (k : Int) < π 0 10) : μ 1 k = π 5 k ∧ μ 2 k = π 6 k ∧ μ 3 k = π 11 k ∧ (π 5 k = 9 → μ 4 k = π 8 k) := h.2.2.2.2.1 k hk
theorem pm_s (h : PM π μ) {k : Nat} (hk : (k : Int) ≤ π 0 10) : μ 5 k = π 9 k := h.2.2.2.2.2 k hk
end C0
/-! the plain decoder -/
def plN (π : xR) (s : Int × (Nat → Int)) : Int × (Nat → Int) :=
  if s.1 < 0 ∨ π 0 10 ≤ s.1 then s
  else if π 5 s.1.toNat < 8 then (s.1 + 1, s.2)
  else if π 5 s.1.toNat = 8 then (π 11 s.1.toNat, s.2)
  else if s.2 s.1.toNat < π 8 s.1.toNat then (π 11 s.1.toNat, uN s.2 s.1.toNat (s.2 s.1.toNat + 1))
  else (s.1 + 1, uN s.2 s.1.toNat 0)
def plS (π : xR) : Nat → Int × (Nat → Int)
  | 0 => (0, fun _ => 0)
  | d + 1 => plN π (plS π d)
def plV (π : xR) (s : Int × (Nat → Int)) : Int := if s.1 < 0 ∨ π 0 10 ≤ s.1 then -1 else s.1
/-! the relation of a Front (class) and a row (reference). B bounds what only grows; e, w, o: what the class has counted or has still to count -/
def RFs (π : xR) (e w o : Int) (F : xR) (N : Nat → Int) : Prop := N 0 = F 1 0 ∧ N 1 = F 1 4 ∧ N 2 = F 1 5 ∧ N 3 = F 0 10 ∧ N 4 = F 0 11 ∧ N 5 = F 0 12 ∧ N 6 = F 0 14 + w ∧ N 7 = F 0 17 ∧ N 8 = F 0 15 ∧ N 9 = F 0 16 ∧ N 10 = F 0 13 ∧ N 11 = F 8 0 ∧ N 15 = F 0 9 ∧ N 16 = F 15 0 - e ∧ N 17 = F 15 1 ∧ N 18 = F 15 2 + o ∧ N 19 = F 15 3 ∧ N 20 = F 15 4 ∧ N 21 = F 15 5 ∧ N 22 = F 15 6 ∧ N 23 = F 15 7 ∧ N 24 = F 15 8 ∧ N 34 = F 2 2 ∧ N 42 = F 5 2 ∧ F 1 1 = π 1 1 ∧ F 1 2 = π 1 2 ∧ F 1 3 = π 1 3
def RFr (π : xR) (B w : Int) (F : xR) : Prop := (1 ≤ F 1 0 ∧ F 1 0 ≤ 6) ∧ (1 ≤ F 1 4 ∧ F 1 4 ≤ 8) ∧ (0 ≤ F 1 5 ∧ F 1 5 ≤ 30) ∧ (0 ≤ F 0 10 ∧ F 0 10 ≤ π 0 10) ∧ (F 0 11 = 0 ∨ F 0 11 = 1) ∧ (F 0 13 = 0 ∨ F 0 13 = 1) ∧ (0 ≤ F 0 14 ∧ F 0 14 + w ≤ 40) ∧ (0 ≤ F 0 17 ∧ F 0 17 ≤ 99) ∧ (0 ≤ F 0 15 ∧ F 0 15 ≤ 4) ∧ (0 ≤ F 0 16 ∧ F 0 16 ≤ 3) ∧ (F 8 0 = 0 ∨ F 8 0 = 1) ∧ (0 ≤ F 15 0 ∧ F 15 0 ≤ B) ∧ (0 ≤ F 15 1 ∧ F 15 1 ≤ B) ∧ (0 ≤ F 2 2 ∧ F 2 2 ≤ 6 + π 77 61 ∧ F 2 2 ≤ 7) ∧ (0 ≤ F 5 2 ∧ F 5 2 ≤ π 1 2)
def RFb (F : xR) (N : Nat → Int) : Prop := ∀ c : Nat, 1 ≤ c → c ≤ 8 → N (25 + c) = F 16 c
def RFu (F : xR) (N : Nat → Int) : Prop := ∀ j : Nat, (j : Int) < F 2 2 → N (35 + j) = 10 * F 3 j + F 4 j ∧ (0 ≤ F 3 j ∧ F 3 j ≤ 7) ∧ (0 ≤ F 4 j ∧ F 4 j ≤ 9)
def RFq (π : xR) (F : xR) (N : Nat → Int) : Prop := ∀ j : Nat, (j : Int) < F 5 2 → N (43 + j) = F 6 j ∧ N (63 + j) = F 7 j ∧ (0 ≤ F 6 j ∧ F 6 j < π 0 10) ∧ (F 7 j = 0 ∨ F 7 j = 1)
def RFt (π : xR) (F : xR) (N : Nat → Int) : Prop := ∀ k : Nat, (k : Int) < π 0 10 → π 5 k = 9 → N (83 + k) = F 10 k ∧ N (143 + k) = F 19 k ∧ 0 ≤ F 10 k ∧ F 10 k ≤ 99
def RFw (π : xR) (F : xR) : Prop := ∀ k : Nat, k < 60 → (F 19 k = 0 ∨ F 19 k = 1) ∧ ((k : Int) < π 0 10 → π 5 k < 8 → F 19 k = 0)
/-- a place of no region, (77, k), holds what the k-th count is at least: so a cycle is seen to take nothing from it -/
def RFp (π : xR) (F : xR) (N : Nat → Int) : Prop := ∀ k : Nat, k < 60 → N (203 + k) = F 17 k ∧ (0 ≤ F 17 k ∧ π 77 k ≤ F 17 k) ∧ F 17 k ≤ F 15 1 ∧ π 77 60 ≤ F 15 1
def RFg (π : xR) (F : xR) (N : Nat → Int) : Prop := ∀ k : Nat, k < 100 → (k : Int) < F 15 1 → N (263 + k) = F 18 k ∧ 0 ≤ F 18 k ∧ F 18 k < π 0 10
def RFl (π : xR) (F : xR) (N : Nat → Int) : Prop := F 8 0 = 1 → N 12 = F 8 1 ∧ N 13 = F 8 2 ∧ N 14 = F 8 3 ∧ 0 ≤ F 8 1 ∧ F 8 1 ≤ F 8 3 ∧ F 8 3 ≤ F 8 2 + 1 ∧ F 8 1 ≤ F 8 2 ∧ F 8 2 < π 0 10 ∧ 8 ≤ π 5 (F 8 2).toNat ∧ F 8 4 = osm π (F 8 1).toNat (F 8 2 + 1 - F 8 1).toNat
def RFd (π : xR) (F : xR) : Prop := F 11 1 = (plS π (F 15 1).toNat).1 ∧ (∀ k : Nat, k < 60 → F 13 k = (plS π (F 15 1).toNat).2 k) ∧ (0 ≤ F 14 4 ∧ F 14 4 ≤ F 15 1) ∧ ∀ t : Nat, t ≤ 100 → (t : Int) ≤ F 15 1 → ((t : Int) ≤ F 14 4 ↔ ∀ i : Nat, F 15 1 - (t : Int) ≤ (i : Int) → (i : Int) < F 15 1 → F 18 (i % 100) = plV π (plS π i))
def RF (π : xR) (B e w o : Int) (F : xR) (N : Nat → Int) : Prop := RFs π e w o F N ∧ RFr π B w F ∧ RFb F N ∧ RFu F N ∧ RFq π F N ∧ RFt π F N ∧ RFw π F ∧ RFp π F N ∧ RFg π F N ∧ RFl π F N ∧ RFd π F
