/-! ===== flows over nine nodes, 0 the source: what both programs find is the most that can flow ===== -/
def zs (f : Nat → Int) : Nat → Int
  | 0 => 0
  | n + 1 => zs f n + f n
theorem zs_congr {f g : Nat → Int} : ∀ n, (∀ i, i < n → f i = g i) → zs f n = zs g n
  | 0, _ => rfl
  | n + 1, h => by rw [zs, zs, zs_congr n (fun i hi => h i (by omega)), h n (by omega)]
theorem zs_add (f g : Nat → Int) : ∀ n, zs (fun i => f i + g i) n = zs f n + zs g n
  | 0 => rfl
  | n + 1 => by rw [zs, zs, zs, zs_add f g n]; omega
theorem zs_neg (f : Nat → Int) : ∀ n, zs (fun i => - f i) n = - zs f n
  | 0 => rfl
  | n + 1 => by rw [zs, zs, zs_neg f n]; omega
theorem zs_le {f g : Nat → Int} : ∀ n, (∀ i, i < n → f i ≤ g i) → zs f n ≤ zs g n
  | 0, _ => Int.le_refl _
  | n + 1, h => by
    have h1 := zs_le n (fun i hi => h i (by omega))
    have h2 := h n (by omega)
    rw [zs, zs]
    omega
theorem zs_0 : ∀ n, zs (fun _ => 0) n = 0
  | 0 => rfl
  | n + 1 => by rw [zs, zs_0 n]; rfl
theorem zs_swap (f : Nat → Nat → Int) (m : Nat) : ∀ n, zs (fun i => zs (fun j => f i j) m) n = zs (fun j => zs (fun i => f i j) n) m
  | 0 => by
    show 0 = zs (fun j => zs (fun i => f i j) 0) m
    exact (zs_0 m).symm
  | n + 1 => by
    rw [zs, zs_swap f m n, ← zs_add]
    rfl
theorem zs_upd {f g : Nat → Int} {k : Nat} : ∀ n, k < n → (∀ i, i < n → i ≠ k → g i = f i) → zs g n = zs f n + (g k - f k)
  | 0, h, _ => absurd h (Nat.not_lt_zero _)
  | n + 1, hk, h => by
    by_cases e : k = n
    · subst e
      rw [zs, zs, zs_congr k (fun i hi => h i (by omega) (by omega))]
      omega
    · rw [zs, zs, zs_upd n (by omega) (fun i hi hne => h i (by omega) hne), h n (by omega) (fun z => e z.symm)]
      omega
def inflow (N : Nat → Nat → Int) (v : Nat) : Int := zs (fun u => N u v) 9
def anti (N : Nat → Nat → Int) : Prop := ∀ a b, a < 9 → b < 9 → N a b = - N b a
def crossing (S : Nat → Bool) (N : Nat → Nat → Int) : Int := zs (fun v => zs (fun u => if S u = true ∧ S v = false then N u v else 0) 9) 9
theorem zs_anti {g : Nat → Nat → Int} (h : ∀ a b, a < 9 → b < 9 → g a b = - g b a) : zs (fun v => zs (fun u => g u v) 9) 9 = 0 := by
  have h1 : zs (fun v => zs (fun u => g u v) 9) 9 = zs (fun v => zs (fun u => g v u) 9) 9 := zs_swap (fun v u => g u v) 9 9
  have h2 : zs (fun v => zs (fun u => g v u) 9) 9 = zs (fun v => - zs (fun u => g u v) 9) 9 := zs_congr 9 fun v hv => by
    rw [← zs_neg]
    exact zs_congr 9 fun u hu => h v u hv hu
  rw [zs_neg] at h2
  omega
theorem cross_eq {S : Nat → Bool} {N : Nat → Nat → Int} (hN : anti N) : zs (fun v => if S v = true then 0 else inflow N v) 9 = crossing S N := by
  have h1 : ∀ v, v < 9 → (if S v = true then 0 else inflow N v) = zs (fun u => if S u = true ∧ S v = false then N u v else 0) 9 + zs (fun u => if S u = false ∧ S v = false then N u v else 0) 9 := by
    intro v hv
    rw [← zs_add]
    cases hs : S v with
    | true =>
      rw [if_pos rfl]
      refine ((zs_congr 9 fun u hu => ?_).trans (zs_0 9)).symm
      simp
    | false =>
      rw [if_neg (by simp)]
      refine zs_congr 9 fun u hu => ?_
      cases S u <;> simp
  rw [zs_congr 9 h1, zs_add]
  have h2 : zs (fun v => zs (fun u => if S u = false ∧ S v = false then N u v else 0) 9) 9 = 0 := zs_anti (g := fun u v => if S u = false ∧ S v = false then N u v else 0) fun a b ha hb => by
    try dsimp only
    by_cases c : S a = false ∧ S b = false
    · rw [if_pos c, if_pos ⟨c.2, c.1⟩, hN a b ha hb]
    · rw [if_neg c, if_neg (fun z => c ⟨z.2, z.1⟩)]
      rfl
  unfold crossing
  omega
/-- N is a flow within C that brings g to the nodes -/
def Feas (C N : Nat → Nat → Int) (g : Nat → Int) : Prop := anti N ∧ (∀ a b, a < 9 → b < 9 → N a b ≤ C a b) ∧ ∀ v, 0 < v → v < 9 → inflow N v = g v
def addg (g : Nat → Int) (t : Nat) (x : Int) : Nat → Int := fun v => if v = t then g v + x else g v
/-- d more from u to v -/
def nup (N : Nat → Nat → Int) (u v : Nat) (d : Int) : Nat → Nat → Int := fun a b => if a = u ∧ b = v then N a b + d else if a = v ∧ b = u then N a b - d else N a b
theorem nup_anti {N : Nat → Nat → Int} {u v : Nat} {d : Int} (h : anti N) (hne : u ≠ v) : anti (nup N u v d) := by
  intro a b ha hb
  unfold nup
  have := h a b ha hb
  by_cases c1 : a = u ∧ b = v
  · rw [if_pos c1, if_neg (by omega), if_pos ⟨c1.2, c1.1⟩]
    omega
  · by_cases c2 : a = v ∧ b = u
    · rw [if_neg c1, if_pos c2, if_pos ⟨c2.2, c2.1⟩]
      omega
    · rw [if_neg c1, if_neg c2, if_neg (fun z => c2 ⟨z.2, z.1⟩), if_neg (fun z => c1 ⟨z.2, z.1⟩)]
      exact this
theorem nup_in {N : Nat → Nat → Int} {u v w : Nat} {d : Int} (hu : u < 9) (hv : v < 9) (hne : u ≠ v) : inflow (nup N u v d) w = inflow N w + (if w = v then d else 0) - (if w = u then d else 0) := by
  unfold inflow
  by_cases c1 : w = v
  · subst c1
    rw [if_pos rfl, if_neg (fun z => hne z.symm)]
    have := zs_upd (f := fun x => N x w) (g := fun x => nup N u w d x w) (k := u) 9 hu (fun i hi hine => by
      show nup N u w d i w = N i w
      unfold nup
      rw [if_neg (fun z => hine z.1), if_neg (fun z => hne z.2.symm)])
    rw [this]
    show zs (fun x => N x w) 9 + (nup N u w d u w - N u w) = _
    have e : nup N u w d u w = N u w + d := by unfold nup; rw [if_pos ⟨rfl, rfl⟩]
    omega
  · by_cases c2 : w = u
    · subst c2
      rw [if_neg c1, if_pos rfl]
      have := zs_upd (f := fun x => N x w) (g := fun x => nup N w v d x w) (k := v) 9 hv (fun i hi hine => by
        show nup N w v d i w = N i w
        unfold nup
        rw [if_neg (fun z => c1 z.2), if_neg (fun z => hine z.1)])
      rw [this]
      show zs (fun x => N x w) 9 + (nup N w v d v w - N v w) = _
      have e : nup N w v d v w = N v w - d := by unfold nup; rw [if_neg (fun z => c1 z.2), if_pos ⟨rfl, rfl⟩]
      omega
    · rw [if_neg c1, if_neg c2]
      have := zs_congr (f := fun x => nup N u v d x w) (g := fun x => N x w) 9 (fun i hi => by
        show nup N u v d i w = N i w
        unfold nup
        rw [if_neg (fun z => c1 z.2), if_neg (fun z => c2 z.2)])
      omega
/-! pipes -/
def NM (q : Nat) (A B : Nat → Nat) (F : Nat → Int) (a b : Nat) : Int := zs (fun j => (if A j = a ∧ B j = b then F j else 0) - (if A j = b ∧ B j = a then F j else 0)) q
def CM (q : Nat) (A B : Nat → Nat) (K : Nat → Int) (a b : Nat) : Int := zs (fun j => if A j = a ∧ B j = b then K j else 0) q
theorem NM_anti {q : Nat} {A B : Nat → Nat} {F : Nat → Int} : anti (NM q A B F) := by
  intro a b _ _
  unfold NM
  rw [← zs_neg]
  refine zs_congr q fun j _ => ?_
  omega
theorem NM_le {q : Nat} {A B : Nat → Nat} {F K : Nat → Int} (h : ∀ j, j < q → 0 ≤ F j ∧ F j ≤ K j) (a b : Nat) : NM q A B F a b ≤ CM q A B K a b := by
  refine zs_le q fun j hj => ?_
  have := h j hj
  split <;> split <;> omega
theorem NM_upd {q : Nat} {A B : Nat → Nat} {F F' : Nat → Int} {k : Nat} {d : Int} (hk : k < q) (hne : A k ≠ B k) (h : ∀ j, j < q → j ≠ k → F' j = F j) (hd : F' k = F k + d) (a b : Nat) : NM q A B F' a b = nup (NM q A B F) (A k) (B k) d a b := by
  have := zs_upd (f := fun j => (if A j = a ∧ B j = b then F j else 0) - (if A j = b ∧ B j = a then F j else 0)) (g := fun j => (if A j = a ∧ B j = b then F' j else 0) - (if A j = b ∧ B j = a then F' j else 0)) (k := k) q hk (fun j hj hne => by
    try dsimp only
    rw [h j hj hne])
  unfold nup NM
  rw [this]
  try dsimp only
  by_cases c1 : a = A k ∧ b = B k
  · have p1 : A k = a ∧ B k = b := ⟨c1.1.symm, c1.2.symm⟩
    have p2 : ¬ (A k = b ∧ B k = a) := fun z => hne (z.1.trans (c1.2.trans rfl))
    rw [if_pos c1]
    simp only [if_pos p1, if_neg p2]
    omega
  · by_cases c2 : a = B k ∧ b = A k
    · have p1 : ¬ (A k = a ∧ B k = b) := fun z => c1 ⟨z.1.symm, z.2.symm⟩
      have p2 : A k = b ∧ B k = a := ⟨c2.2.symm, c2.1.symm⟩
      rw [if_neg c1, if_pos c2]
      simp only [if_neg p1, if_pos p2]
      omega
    · have p1 : ¬ (A k = a ∧ B k = b) := fun z => c1 ⟨z.1.symm, z.2.symm⟩
      have p2 : ¬ (A k = b ∧ B k = a) := fun z => c2 ⟨z.2.symm, z.1.symm⟩
      rw [if_neg c1, if_neg c2]
      simp only [if_neg p1, if_neg p2]
      omega
theorem NM_cut {q : Nat} {A B : Nat → Nat} {F K : Nat → Int} {S : Nat → Bool} (h : ∀ j, j < q → (S (A j) = true → S (B j) = false → F j = K j) ∧ (S (A j) = false → S (B j) = true → F j = 0)) {a b : Nat} (ha : S a = true) (hb : S b = false) : NM q A B F a b = CM q A B K a b := by
  refine zs_congr q fun j hj => ?_
  obtain ⟨h1, h2⟩ := h j hj
  by_cases c1 : A j = a ∧ B j = b
  · have c2 : ¬ (A j = b ∧ B j = a) := fun z => by
      have e : a = b := c1.1.symm.trans z.1
      rw [e, hb] at ha
      cases ha
    rw [if_pos c1, if_neg c2, if_pos c1, h1 (by rw [c1.1]; exact ha) (by rw [c1.2]; exact hb)]
    omega
  · by_cases c2 : A j = b ∧ B j = a
    · rw [if_neg c1, if_pos c2, if_neg c1, h2 (by rw [c2.1]; exact hb) (by rw [c2.2]; exact ha)]
      rfl
    · rw [if_neg c1, if_neg c2, if_neg c1]
      rfl
theorem Feas.congr {C N N' : Nat → Nat → Int} {g g' : Nat → Int} (h : Feas C N g) (e : ∀ a b, a < 9 → b < 9 → N' a b = N a b) (eg : ∀ v, 0 < v → v < 9 → g' v = g v) : Feas C N' g' := by
  obtain ⟨h1, h2, h3⟩ := h
  refine ⟨fun a b ha hb => by rw [e a b ha hb, e b a hb ha]; exact h1 a b ha hb, fun a b ha hb => by rw [e a b ha hb]; exact h2 a b ha hb, fun v h0 hv => ?_⟩
  rw [eg v h0 hv, ← h3 v h0 hv]
  exact zs_congr 9 fun u hu => e u v hu hv

/-! ===== cuts: what the nodes outside S get ===== -/
def DM (S : Nat → Bool) (g : Nat → Int) : Int := zs (fun v => if S v = true then 0 else g v) 9
theorem DM_congr {S : Nat → Bool} {g g' : Nat → Int} (h0 : S 0 = true) (h : ∀ v, 0 < v → v < 9 → g' v = g v) : DM S g' = DM S g := zs_congr 9 fun v hv => by
  by_cases c : S v = true
  · rw [if_pos c, if_pos c]
  · rw [if_neg c, if_neg c, h v (by rcases Nat.eq_zero_or_pos v with z | z; exact absurd (z ▸ h0) c; exact z) hv]
theorem feas_dm {C N : Nat → Nat → Int} {g : Nat → Int} {S : Nat → Bool} (hF : Feas C N g) (h0 : S 0 = true) : DM S g = crossing S N := by
  rw [← cross_eq hF.1]
  exact (DM_congr h0 (fun v a b => hF.2.2 v a b)).symm
theorem cross_le {C N : Nat → Nat → Int} {S : Nat → Bool} (h : ∀ a b, a < 9 → b < 9 → N a b ≤ C a b) : crossing S N ≤ crossing S C := zs_le 9 fun v hv => zs_le 9 fun u hu => by
  by_cases c : S u = true ∧ S v = false
  · rw [if_pos c, if_pos c]
    exact h u v hu hv
  · rw [if_neg c, if_neg c]
    exact Int.le_refl _
theorem feas_le {C N : Nat → Nat → Int} {g : Nat → Int} {S : Nat → Bool} (hF : Feas C N g) (h0 : S 0 = true) : DM S g ≤ crossing S C := by
  rw [feas_dm hF h0]
  exact cross_le hF.2.1
theorem DM_add {S : Nat → Bool} {g : Nat → Int} {t : Nat} {x : Int} (ht : t < 9) : DM S (addg g t x) = DM S g + (if S t = true then 0 else x) := by
  have := zs_upd (f := fun v => if S v = true then 0 else g v) (g := fun v => if S v = true then 0 else addg g t x v) (k := t) 9 ht (fun v hv hne => by
    show (if S v = true then 0 else addg g t x v) = if S v = true then 0 else g v
    unfold addg
    rw [if_neg hne])
  unfold DM
  rw [this]
  by_cases c : S t = true
  · simp only [c, if_true]
    omega
  · have e : addg g t x t = g t + x := if_pos rfl
    rw [if_neg c, if_neg c, if_neg c, e]
    omega
/-- x is the most that can flow to t, at most cap, on top of g: a full cut says so -/
def Amt (C : Nat → Nat → Int) (g : Nat → Int) (t : Nat) (cap x : Int) : Prop := 0 ≤ x ∧ x ≤ cap ∧ (∃ N, Feas C N (addg g t x)) ∧ (x = cap ∨ (t < 9 ∧ ∃ S : Nat → Bool, S 0 = true ∧ S t = false ∧ DM S (addg g t x) = crossing S C))
theorem Amt.up {C : Nat → Nat → Int} {g : Nat → Int} {t : Nat} {x y : Int} {N : Nat → Nat → Int} (ht : t < 9) {S : Nat → Bool} (h0 : S 0 = true) (hst : S t = false) (hx : DM S (addg g t x) = crossing S C) (hy : Feas C N (addg g t y)) : y ≤ x := by
  have h1 := feas_le hy h0
  rw [← hx, DM_add ht, DM_add ht, if_neg (by rw [hst]; decide), if_neg (by rw [hst]; decide)] at h1
  omega
theorem Amt.uniq {C : Nat → Nat → Int} {g : Nat → Int} {t : Nat} {cap x y : Int} (hx : Amt C g t cap x) (hy : Amt C g t cap y) : x = y := by
  obtain ⟨-, x2, ⟨N, x3⟩, x4⟩ := hx
  obtain ⟨-, y2, ⟨M, y3⟩, y4⟩ := hy
  rcases x4 with x4 | ⟨ht, S, a1, a2, a3⟩ <;> rcases y4 with y4 | ⟨ht', S', b1, b2, b3⟩
  · omega
  · have := Amt.up ht' b1 b2 b3 x3
    omega
  · have := Amt.up ht a1 a2 a3 y3
    omega
  · have h1 := Amt.up ht' b1 b2 b3 x3
    have h2 := Amt.up ht a1 a2 a3 y3
    omega
/-- a full cut makes what flows the most -/
theorem Amt.ofCut {C N : Nat → Nat → Int} {g : Nat → Int} {S : Nat → Bool} {t : Nat} {cap x : Int} (h1 : 0 ≤ x) (h2 : x ≤ cap) (hF : Feas C N (addg g t x)) (h0 : S 0 = true) (ht : t < 9) (hst : S t = false) (hcl : ∀ a b, a < 9 → b < 9 → S a = true → S b = false → N a b = C a b) : Amt C g t cap x := by
  refine ⟨h1, h2, ⟨N, hF⟩, Or.inr ⟨ht, S, h0, hst, ?_⟩⟩
  rw [feas_dm hF h0]
  refine zs_congr 9 fun v hv => zs_congr 9 fun u hu => ?_
  by_cases c : S u = true ∧ S v = false
  · rw [if_pos c, if_pos c, hcl u v hu hv c.1 c.2]
  · rw [if_neg c, if_neg c]
theorem Amt.zero {C N : Nat → Nat → Int} {g : Nat → Int} {t : Nat} {cap : Int} (h : Feas C N g) (hc : cap = 0) : Amt C g t cap 0 :=
  ⟨Int.le_refl _, Int.le_of_eq hc.symm, ⟨N, h.1, h.2.1, fun v a b => by rw [h.2.2 v a b]; unfold addg; split <;> omega⟩, Or.inl hc.symm⟩
def sp_bit (a : Int32) (k : Nat) : Int := if (a >>> (nI k &&& 31)) &&& 1 = 1 then 9999 else 0
