/-! ===== the abstract heap: kinds, lengths, int fields, reference fields, int rows, reference rows, long rows, by address ===== -/
abbrev am_H : Type := (Nat → Nat) × (Nat → Nat) × (Nat → Nat → Int32) × (Nat → Nat → Option Nat) × (Nat → Nat → Int32) × (Nat → Nat → Option Nat) × (Nat → Nat → Int64)
def am_K (h : am_H) : Nat → Nat := h.1
def am_N (h : am_H) : Nat → Nat := h.2.1
def am_I (h : am_H) : Nat → Nat → Int32 := h.2.2.1
def am_R (h : am_H) : Nat → Nat → Option Nat := h.2.2.2.1
def am_A (h : am_H) : Nat → Nat → Int32 := h.2.2.2.2.1
def am_B (h : am_H) : Nat → Nat → Option Nat := h.2.2.2.2.2.1
def am_L (h : am_H) : Nat → Nat → Int64 := h.2.2.2.2.2.2
def am_u2 {α : Type} (f : Nat → Nat → α) (i a : Nat) (v : α) : Nat → Nat → α := fun j b => if j = i ∧ b = a then v else f j b
def am_sI (h : am_H) (f a : Nat) (v : Int32) : am_H := (h.1, h.2.1, am_u2 h.2.2.1 f a v, h.2.2.2.1, h.2.2.2.2.1, h.2.2.2.2.2.1, h.2.2.2.2.2.2)
def am_sR (h : am_H) (f a : Nat) (v : Option Nat) : am_H := (h.1, h.2.1, h.2.2.1, am_u2 h.2.2.2.1 f a v, h.2.2.2.2.1, h.2.2.2.2.2.1, h.2.2.2.2.2.2)
def am_sA (h : am_H) (a i : Nat) (v : Int32) : am_H := (h.1, h.2.1, h.2.2.1, h.2.2.2.1, am_u2 h.2.2.2.2.1 a i v, h.2.2.2.2.2.1, h.2.2.2.2.2.2)
def am_sB (h : am_H) (a i : Nat) (v : Option Nat) : am_H := (h.1, h.2.1, h.2.2.1, h.2.2.2.1, h.2.2.2.2.1, am_u2 h.2.2.2.2.2.1 a i v, h.2.2.2.2.2.2)
def am_sL (h : am_H) (a i : Nat) (v : Int64) : am_H := (h.1, h.2.1, h.2.2.1, h.2.2.2.1, h.2.2.2.2.1, h.2.2.2.2.2.1, am_u2 h.2.2.2.2.2.2 a i v)
/-- a new cell at a, of kind k and length n, all its places 0 or null -/
def am_nw (h : am_H) (a k n : Nat) : am_H := (va_up h.1 a k, va_up h.2.1 a n, fun f b => if b = a then 0 else h.2.2.1 f b, fun f b => if b = a then none else h.2.2.2.1 f b, fun b i => if b = a then 0 else h.2.2.2.2.1 b i, fun b i => if b = a then none else h.2.2.2.2.2.1 b i, fun b i => if b = a then 0 else h.2.2.2.2.2.2 b i)

theorem am_K_sI (h : am_H) (f a : Nat) (v : Int32) : am_K (am_sI h f a v) = am_K h := rfl
theorem am_N_sI (h : am_H) (f a : Nat) (v : Int32) : am_N (am_sI h f a v) = am_N h := rfl
theorem am_I_sI (h : am_H) (f a : Nat) (v : Int32) (j b : Nat) : am_I (am_sI h f a v) j b = if j = f ∧ b = a then v else am_I h j b := rfl
theorem am_R_sI (h : am_H) (f a : Nat) (v : Int32) : am_R (am_sI h f a v) = am_R h := rfl
theorem am_A_sI (h : am_H) (f a : Nat) (v : Int32) : am_A (am_sI h f a v) = am_A h := rfl
theorem am_B_sI (h : am_H) (f a : Nat) (v : Int32) : am_B (am_sI h f a v) = am_B h := rfl
theorem am_L_sI (h : am_H) (f a : Nat) (v : Int32) : am_L (am_sI h f a v) = am_L h := rfl
theorem am_K_sR (h : am_H) (f a : Nat) (v : Option Nat) : am_K (am_sR h f a v) = am_K h := rfl
theorem am_N_sR (h : am_H) (f a : Nat) (v : Option Nat) : am_N (am_sR h f a v) = am_N h := rfl
theorem am_I_sR (h : am_H) (f a : Nat) (v : Option Nat) : am_I (am_sR h f a v) = am_I h := rfl
theorem am_R_sR (h : am_H) (f a : Nat) (v : Option Nat) (j b : Nat) : am_R (am_sR h f a v) j b = if j = f ∧ b = a then v else am_R h j b := rfl
theorem am_A_sR (h : am_H) (f a : Nat) (v : Option Nat) : am_A (am_sR h f a v) = am_A h := rfl
theorem am_B_sR (h : am_H) (f a : Nat) (v : Option Nat) : am_B (am_sR h f a v) = am_B h := rfl
theorem am_L_sR (h : am_H) (f a : Nat) (v : Option Nat) : am_L (am_sR h f a v) = am_L h := rfl
theorem am_K_sA (h : am_H) (a i : Nat) (v : Int32) : am_K (am_sA h a i v) = am_K h := rfl
theorem am_N_sA (h : am_H) (a i : Nat) (v : Int32) : am_N (am_sA h a i v) = am_N h := rfl
theorem am_I_sA (h : am_H) (a i : Nat) (v : Int32) : am_I (am_sA h a i v) = am_I h := rfl
theorem am_R_sA (h : am_H) (a i : Nat) (v : Int32) : am_R (am_sA h a i v) = am_R h := rfl
theorem am_A_sA (h : am_H) (a i : Nat) (v : Int32) (j b : Nat) : am_A (am_sA h a i v) j b = if j = a ∧ b = i then v else am_A h j b := rfl
theorem am_B_sA (h : am_H) (a i : Nat) (v : Int32) : am_B (am_sA h a i v) = am_B h := rfl
theorem am_L_sA (h : am_H) (a i : Nat) (v : Int32) : am_L (am_sA h a i v) = am_L h := rfl
theorem am_K_sB (h : am_H) (a i : Nat) (v : Option Nat) : am_K (am_sB h a i v) = am_K h := rfl
theorem am_N_sB (h : am_H) (a i : Nat) (v : Option Nat) : am_N (am_sB h a i v) = am_N h := rfl
theorem am_I_sB (h : am_H) (a i : Nat) (v : Option Nat) : am_I (am_sB h a i v) = am_I h := rfl
theorem am_R_sB (h : am_H) (a i : Nat) (v : Option Nat) : am_R (am_sB h a i v) = am_R h := rfl
theorem am_A_sB (h : am_H) (a i : Nat) (v : Option Nat) : am_A (am_sB h a i v) = am_A h := rfl
theorem am_B_sB (h : am_H) (a i : Nat) (v : Option Nat) (j b : Nat) : am_B (am_sB h a i v) j b = if j = a ∧ b = i then v else am_B h j b := rfl
theorem am_L_sB (h : am_H) (a i : Nat) (v : Option Nat) : am_L (am_sB h a i v) = am_L h := rfl
theorem am_K_sL (h : am_H) (a i : Nat) (v : Int64) : am_K (am_sL h a i v) = am_K h := rfl
theorem am_N_sL (h : am_H) (a i : Nat) (v : Int64) : am_N (am_sL h a i v) = am_N h := rfl
theorem am_I_sL (h : am_H) (a i : Nat) (v : Int64) : am_I (am_sL h a i v) = am_I h := rfl
theorem am_R_sL (h : am_H) (a i : Nat) (v : Int64) : am_R (am_sL h a i v) = am_R h := rfl
theorem am_A_sL (h : am_H) (a i : Nat) (v : Int64) : am_A (am_sL h a i v) = am_A h := rfl
theorem am_B_sL (h : am_H) (a i : Nat) (v : Int64) : am_B (am_sL h a i v) = am_B h := rfl
theorem am_L_sL (h : am_H) (a i : Nat) (v : Int64) (j b : Nat) : am_L (am_sL h a i v) j b = if j = a ∧ b = i then v else am_L h j b := rfl
theorem am_K_nw (h : am_H) (a k n b : Nat) : am_K (am_nw h a k n) b = if b = a then k else am_K h b := rfl
theorem am_N_nw (h : am_H) (a k n b : Nat) : am_N (am_nw h a k n) b = if b = a then n else am_N h b := rfl
theorem am_I_nw (h : am_H) (a k n f b : Nat) : am_I (am_nw h a k n) f b = if b = a then 0 else am_I h f b := rfl
theorem am_R_nw (h : am_H) (a k n f b : Nat) : am_R (am_nw h a k n) f b = if b = a then none else am_R h f b := rfl
theorem am_A_nw (h : am_H) (a k n b i : Nat) : am_A (am_nw h a k n) b i = if b = a then 0 else am_A h b i := rfl
theorem am_B_nw (h : am_H) (a k n b i : Nat) : am_B (am_nw h a k n) b i = if b = a then none else am_B h b i := rfl
theorem am_L_nw (h : am_H) (a k n b i : Nat) : am_L (am_nw h a k n) b i = if b = a then 0 else am_L h b i := rfl

/-- the words: those of the tables that hold in every warmer state -/
def am_WS : List Cond := lw_tbl.filter goodWord
theorem am_ws {i : Nat} {w : Cond} (h : lw_tbl[i]? = some w) (g : goodWord w = true) : w ∈ am_WS := List.mem_filter.mpr ⟨List.mem_of_getElem? h, g⟩
/-- the classes whose objects are pictured; field k of class ci has the number 100 * ci + k -/
abbrev am_C : List vw_C := [(RX0, TX0, 4), (RX1, TX1, 14), (RX2, TX2, 7), (RX3, TX3, 4), (RX4, TX4, 9), (RJx4a65c, TJx4a65c, 3), (RJx4a65c, TJx4a65c, 3)]
def am_ty : Nat → Nat → FieldType := fun ci => match ci with
  | 0 => tyX0
  | 1 => tyX1
  | 2 => tyX2
  | 3 => tyX3
  | 4 => tyX4
  | 5 => tyJx4a65c
  | _ => tyJx4a65c
def am_isR : FieldType → Bool := fun t => match t with
  | .int => false
  | .boolean => false
  | _ => true
def am_V (h : am_H) (ci a k : Nat) : Value := match am_isR (am_ty ci k) with
  | true => va_rf (am_R h (100 * ci + k) a)
  | false => .int (am_I h (100 * ci + k) a)
abbrev am_tys (ac : Nat → ClassId) : List (ClassId × FieldType) := [(ac 0, .int), (ac 1, .int), (ac 2, .object "java/lang/Object"), (ac 3, .array .int), (ac 4, .int)]
/-- what the machine's heap has at a -/
def am_at (D : va_G) (ac : Nat → ClassId) (zc : Cell × Cell) (h : am_H) (H : Heap) (a : Nat) : Prop :=
  (am_K h a ≠ 0 → a < H.size) ∧
  (∀ (ci : Nat) (q : vw_C), am_K h a = ci + 1 → am_C[ci]? = some q → t_OB a (D.1 ci) q.2.2 (D.2 ci) H (am_V h ci a)) ∧
  (am_K h a = 11 → H[a]? = some (vp_cell (ac 0) (am_N h a, .inl (am_A h a)))) ∧
  (am_K h a = 12 → H[a]? = some (vp_cell (ac 1) (am_N h a, .inl (am_A h a)))) ∧
  (am_K h a = 13 → H[a]? = some (vp_cell (ac 2) (am_N h a, .inr (.inr (.inr (.inr (am_B h a))))))) ∧
  (am_K h a = 14 → H[a]? = some (vp_cell (ac 3) (am_N h a, .inr (.inr (.inr (.inr (am_B h a))))))) ∧
  (am_K h a = 15 → H[a]? = some (vp_cell (ac 4) (am_N h a, .inr (.inl (am_L h a))))) ∧
  (am_K h a = 16 → H[a]? = some zc.1 ∧ zc.1.slots.size.toInt32 = nI (am_N h a)) ∧
  (am_K h a = 17 → H[a]? = some zc.2 ∧ zc.2.slots.size = am_N h a ∧ ∀ j : Nat, j < am_N h a → zc.2.slots[j]? = some (.int (am_A h a j)))
def am_Rep (D : va_G) (ac : Nat → ClassId) (zc : Cell × Cell) (h : am_H) (H : Heap) : Prop := ∀ a : Nat, am_at D ac zc h H a
/-- h and h' say the same of b -/
def am_same (h h' : am_H) (b : Nat) : Prop := am_K h' b = am_K h b ∧ am_N h' b = am_N h b ∧ (∀ f, am_I h' f b = am_I h f b) ∧ (∀ f, am_R h' f b = am_R h f b) ∧ am_A h' b = am_A h b ∧ am_B h' b = am_B h b ∧ am_L h' b = am_L h b
theorem am_at.kept {D : va_G} {ac : Nat → ClassId} {zc : Cell × Cell} {h h' : am_H} {H H' : Heap} {b : Nat} (p : am_at D ac zc h H b) (e : am_same h h' b) (eH : H'[b]? = H[b]?) (z : H.size ≤ H'.size) : am_at D ac zc h' H' b := by
  obtain ⟨e1, e2, e3, e4, e5, e6, e7⟩ := e
  obtain ⟨p0, p1, p2, p3, p4, p5, p6, p7, p8⟩ := p
  unfold am_at
  rw [e1, e2, e5, e6, e7, eH]
  refine ⟨fun q => Nat.lt_of_lt_of_le (p0 q) z, fun ci q hk hq => ?_, p2, p3, p4, p5, p6, p7, p8⟩
  have hv : am_V h' ci b = am_V h ci b := funext fun k => by unfold am_V; rw [e3, e4]
  rw [hv]
  exact (p1 ci q hk hq).kept eH
/-- since h0, kinds and lengths stay, and what is new lies from sz on -/
def am_Ext (h0 h : am_H) (sz : Nat) : Prop := ∀ a : Nat, (am_K h0 a ≠ 0 → am_K h a = am_K h0 a ∧ am_N h a = am_N h0 a) ∧ (am_K h0 a = 0 → am_K h a ≠ 0 → sz ≤ a ∧ am_K h a ≠ 16)
theorem am_Ext.rf {h : am_H} {sz : Nat} : am_Ext h h sz := fun _ => ⟨fun _ => ⟨rfl, rfl⟩, fun h1 h2 => absurd h1 h2⟩
theorem am_Ext.tr {h0 h1 h2 : am_H} {sz sz1 : Nat} (p : am_Ext h0 h1 sz) (q : am_Ext h1 h2 sz1) (hz : sz ≤ sz1) : am_Ext h0 h2 sz := by
  intro a
  obtain ⟨p1, p2⟩ := p a
  obtain ⟨q1, q2⟩ := q a
  refine ⟨fun z => ?_, fun z y => ?_⟩
  · obtain ⟨a1, a2⟩ := p1 z
    obtain ⟨b1, b2⟩ := q1 (by rw [a1]; exact z)
    exact ⟨b1.trans a1, b2.trans a2⟩
  · by_cases x : am_K h1 a = 0
    · exact ⟨Nat.le_trans hz (q2 x y).1, (q2 x y).2⟩
    · exact ⟨(p2 z x).1, by rw [(q1 x).1]; exact (p2 z x).2⟩
/-- the cells that a method may write -/
def am_W (h0 : am_H) (sz : Nat) : Nat → Prop := fun q => (am_K h0 q ≠ 0 ∧ am_K h0 q < 16) ∨ sz ≤ q
theorem am_Ext.in {h0 h : am_H} {sz a : Nat} (p : am_Ext h0 h sz) (hk : am_K h a ≠ 0 ∧ am_K h a < 16) : am_W h0 sz a := by
  by_cases x : am_K h0 a = 0
  · exact Or.inr ((p a).2 x hk.1).1
  · exact Or.inl ⟨x, by rw [← ((p a).1 x).1]; exact hk.2⟩
-- what else must stay for throws: two statics of Throwable
/-- the static empty Object[] of ArrayList -/
def am_Zs (h : am_H) (A : Nat → Prop) (U : State) (H : Heap) : Prop := ∃ z, am_K h z = 16 ∧ (∀ y, am_K h y = 16 → y = z) ∧ va_Z "java/util/ArrayList" "DEFAULTCAPACITY_EMPTY_ELEMENTDATA" "[Ljava/lang/Object;" (.ref z) A U H
def am_Z (h : am_H) (A : Nat → Prop) (U : State) (H : Heap) : Prop := vx_Zq Bundle.tN "UNASSIGNED_STACK" Bundle.steD A U H ∧ vx_Zq Bundle.tN "SUPPRESSED_SENTINEL" Bundle.listD A U H ∧ am_Zs h A U H
/-- words that hold in every warmer state, but aren't among those of calls: castable, declares .. -/
def am_WF : List Cond := lw_tbl.filter (fun w => w.onTables && w.keepsFace)
theorem am_wf {i : Nat} {w : Cond} (h : lw_tbl[i]? = some w) (g : (w.onTables && w.keepsFace) = true) : w ∈ am_WF := List.mem_filter.mpr ⟨List.mem_of_getElem? h, g⟩
def am_nN : Cond := .methodLinkNest RX4 18 yX2_init "PipewrightExchange"
def am_nB : Cond := .methodLinkNest RX1 15 yX0_init "PipewrightExchange"
/-- the text constants of the class -/
def am_strs : List (Nat × String) := [(94, "units is out of range"), (96, "all is FLOWING"), (52, "tank or need is out of range"), (63, "there are 8 districts"), (81, "no such district"), (84, "a pipe to where it comes from, or limit is out of range"), (89, "there are 24 pipes, or all is FLOWING"), (196, "what is out of range"), (110, "price or units is out of range"), (124, "no BIDDING, or the price is below that of the bid that stands"), (132, "no BIDDING"), (146, "no such pipe"), (151, "it has burst"), (156, "it has not burst, or all is FLOWING"), (158, "there is BIDDING, or the hour would be above 1000"), (206, "set is below 0, or has a district that there is not"), (101, "need is out of range")]
def am_T (U : State) : Prop := (∀ w ∈ am_WF, va_Nw w U) ∧ va_Nw am_nN U ∧ va_Nw am_nB U ∧ (∀ q ∈ am_strs, ∃ sa, vk_R RX4 q.1 q.2 sa U) ∧ va_AO "java/lang/Object" U ∧ va_AOA .int U ∧ (∃ mi, va_Mi "[Ljava/lang/Object;" mi U) ∧ va_Dc U ∧ va_Nc "java/lang/IllegalStateException" "java/lang/IllegalArgumentException" U ∧ va_Nc "java/lang/IllegalArgumentException" "java/lang/IndexOutOfBoundsException" U ∧ va_Nc "java/lang/IllegalStateException" "java/lang/IndexOutOfBoundsException" U
abbrev am_X : Type := Program × Launch × Env × Room × State × MethodId × Array Value × List Frame × Method × Code × am_H × va_G × (Nat → ClassId) × Cell × Cell
/-- what doesn't change in a method -/
def am_Cx (p : Program) (l : Launch) (s : State) (m : MethodId) (args : Array Value) (meth : Method) (c : Code) (own nm : String) (cc : ByteArray) (nL : Nat) (ret : Option FieldType) (h0 : am_H) (D : va_G) (ac : Nat → ClassId) (zc : Cell × Cell) : Prop :=
  p.tables.exec = Jvm.exec ∧ c.code = cc ∧ c.maxLocals = nL ∧ meth.sig.returnType = ret ∧ meth.locks = false ∧ s.vm.findClass own = some m.cls ∧ (∀ w ∈ am_WS, w.before args s = true) ∧ va_K D am_C (am_tys ac) s ∧ l.stackTraces = false ∧ am_Z h0 (am_W h0 s.heap.size) s s.heap ∧ meth.name = nm ∧ am_T s ∧ s.isArrayOf zc.1 (.object "java/lang/Object") ∧ s.isArrayOf zc.2 .int ∧ zc.1.vm ≠ .unknown ∧ zc.2.vm ≠ .unknown
def am_G (k : am_X) (own nm : String) (cc : ByteArray) (nL : Nat) (ret : Option FieldType) (cells slots : Nat) (Q : State → Prop) (pc : Nat) (ls : List (Nat × Value)) (st : List Value) (h : am_H) : Prop :=
  match k with
  | (p, l, e, R, s, m, args, below, meth, c, h0, D, ac, zc) => am_Cx p l s m args meth c own nm cc nL ret h0 D ac zc →
    ∀ (H : Heap) (locs : List Loc) (la : Array Slot), am_Rep D ac zc h H → am_Ext h0 h s.heap.size → va_S (am_W h0 s.heap.size) s.heap H locs → lv_has la nL ls →
      W p l e R s m args below meth c H locs cells slots Q (F0 m pc la st)
def am_lk : List (Nat × Value) → Nat → Option Value
  | [], _ => none
  | q :: r, i => bif Nat.beq q.1 i then some q.2 else am_lk r i
theorem am_lk_mem : ∀ {ls : List (Nat × Value)} {i : Nat} {v : Value}, am_lk ls i = some v → (i, v) ∈ ls
  | [], _, _, h => by cases h
  | q :: r, i, v, h => by
    unfold am_lk at h
    cases hb : Nat.beq q.1 i with
    | true =>
      rw [hb] at h
      obtain ⟨a, b⟩ := q
      have h1 : a = i := Nat.eq_of_beq_eq_true hb
      have h2 : b = v := Option.some.inj h
      rw [← h1, ← h2]
      exact List.mem_cons_self
    | false =>
      rw [hb] at h
      exact List.mem_cons_of_mem _ (am_lk_mem h)
theorem am_lv {la : Array Slot} {nL : Nat} {ls : List (Nat × Value)} (h : lv_has la nL ls) {i : Nat} {v : Value} (hv : am_lk ls i = some v) : la[i]? = some (.val v) := h.2.2 _ (am_lk_mem hv)
def am_dl (i : Nat) : List (Nat × Value) → List (Nat × Value)
  | [] => []
  | q :: r => bif Nat.beq q.1 i then am_dl i r else q :: am_dl i r
theorem am_dl_mem : ∀ {ls : List (Nat × Value)} {i : Nat} {q : Nat × Value}, q ∈ am_dl i ls → q ∈ ls ∧ q.1 ≠ i
  | [], _, _, h => by cases h
  | x :: r, i, q, h => by
    unfold am_dl at h
    cases hb : Nat.beq x.1 i with
    | true =>
      rw [hb] at h
      exact ⟨List.mem_cons_of_mem _ (am_dl_mem h).1, (am_dl_mem h).2⟩
    | false =>
      rw [hb] at h
      rcases List.mem_cons.mp h with h1 | h1
      · subst h1
        exact ⟨List.mem_cons_self, fun z => by rw [z, Nat.beq_refl] at hb; cases hb⟩
      · exact ⟨List.mem_cons_of_mem _ (am_dl_mem h1).1, (am_dl_mem h1).2⟩
/-- no value of two slots lies in these locals -/
def am_1 (ls : List (Nat × Value)) : Prop := (ls.all fun q => Nat.beq q.2.category 1) = true
theorem am_1.at {ls : List (Nat × Value)} (h : am_1 ls) (q : Nat × Value) (hq : q ∈ ls) : q.2.category = 1 := Nat.eq_of_beq_eq_true (List.all_eq_true.mp h q hq)
def am_ok : List (Nat × Value) → List (Nat × Value) → Prop
  | [], _ => True
  | q :: r, ls => am_lk ls q.1 = some q.2 ∧ am_ok r ls
theorem am_sub {la : Array Slot} {nL : Nat} {ls : List (Nat × Value)} (h : lv_has la nL ls) : ∀ {ls' : List (Nat × Value)}, am_ok ls' ls → lv_has la nL ls'
  | [], _ => ⟨h.1, h.2.1, fun _ hq => by cases hq⟩
  | q :: r, hk => ⟨h.1, h.2.1, fun x hx => by
    rcases List.mem_cons.mp hx with h1 | h1
    · subst h1
      exact am_lv h hk.1
    · exact (am_sub h hk.2).2.2 x h1⟩
section AMR
variable {k : am_X} {own nm : String} {cc : ByteArray} {nL : Nat} {ret : Option FieldType} {cells slots : Nat} {Q : State → Prop} {pc : Nat} {ls : List (Nat × Value)} {st : List Value} {h : am_H}
/-- fewer locals -/
theorem g_ls (ls' : List (Nat × Value)) (ho : am_ok ls' ls) (kk : am_G k own nm cc nL ret cells slots Q pc ls' st h) : am_G k own nm cc nL ret cells slots Q pc ls st h := by
  obtain ⟨p, l, e, R, s, m, args, below, meth, c, h0, D, ac, zc⟩ := k
  intro hC H locs la hR hE hS hl
  exact kk hC H locs la hR hE hS (am_sub hl ho)
theorem g_widen (c' s' : Nat) (h1 : cells ≤ c') (h2 : slots ≤ s') (kk : am_G k own nm cc nL ret c' s' Q pc ls st h) : am_G k own nm cc nL ret cells slots Q pc ls st h := by
  obtain ⟨p, l, e, R, s, m, args, below, meth, c, h0, D, ac, zc⟩ := k
  intro hC H locs la hR hE hS hl
  exact W.widen h1 h2 (kk hC H locs la hR hE hS hl)

theorem g_iconst {n : Int} {v : Int32} (hd : decode cc pc = .ok (.iconst n, 1)) (hv : Int32.ofInt n = v) (kk : am_G k own nm cc nL ret cells slots Q (pc + 1) ls (.int v :: st) h) : am_G k own nm cc nL ret cells slots Q pc ls st h := by
  obtain ⟨p, l, e, R, s, m, args, below, meth, c, h0, D, ac, zc⟩ := k
  intro hC H locs la hR hE hS hl
  exact lv_iconst hC.1 hC.2.1 hd hv (kk hC H locs la hR hE hS hl)
theorem g_bipush {n : Int} {v : Int32} (hd : decode cc pc = .ok (.bipush n, 2)) (hv : (Int8.ofInt n).toInt32 = v) (kk : am_G k own nm cc nL ret cells slots Q (pc + 2) ls (.int v :: st) h) : am_G k own nm cc nL ret cells slots Q pc ls st h := by
  obtain ⟨p, l, e, R, s, m, args, below, meth, c, h0, D, ac, zc⟩ := k
  intro hC H locs la hR hE hS hl
  exact lv_bipush hC.1 hC.2.1 hd hv (kk hC H locs la hR hE hS hl)
theorem g_sipush {n : Int} {v : Int32} (hd : decode cc pc = .ok (.sipush n, 3)) (hv : (Int16.ofInt n).toInt32 = v) (kk : am_G k own nm cc nL ret cells slots Q (pc + 3) ls (.int v :: st) h) : am_G k own nm cc nL ret cells slots Q pc ls st h := by
  obtain ⟨p, l, e, R, s, m, args, below, meth, c, h0, D, ac, zc⟩ := k
  intro hC H locs la hR hE hS hl
  exact lv_sipush hC.1 hC.2.1 hd hv (kk hC H locs la hR hE hS hl)
theorem g_ldc {index : Nat} {v : Int32} (hd : decode cc pc = .ok (.ldc index, 2)) (hc : Cond.constant own index v ∈ am_WS) (kk : am_G k own nm cc nL ret cells slots Q (pc + 2) ls (.int v :: st) h) : am_G k own nm cc nL ret cells slots Q pc ls st h := by
  obtain ⟨p, l, e, R, s, m, args, below, meth, c, h0, D, ac, zc⟩ := k
  intro hC H locs la hR hE hS hl
  exact lv_ldc hC.1 hC.2.1 hC.2.2.2.2.2.1 (hC.2.2.2.2.2.2.1 _ hc) hd (kk hC H locs la hR hE hS hl)
theorem g_lconst {n : Fin 2} {v : Int64} (hd : decode cc pc = .ok (.lconst n, 1)) (hv : Int64.ofNat (n : Nat) = v) (kk : am_G k own nm cc nL ret cells slots Q (pc + 1) ls (.long v :: st) h) : am_G k own nm cc nL ret cells slots Q pc ls st h := by
  obtain ⟨p, l, e, R, s, m, args, below, meth, c, h0, D, ac, zc⟩ := k
  intro hC H locs la hR hE hS hl
  exact lv_lconst hC.1 hC.2.1 hd hv (kk hC H locs la hR hE hS hl)
theorem g_iload_n {i : Fin 4} {x : Int32} (hd : decode cc pc = .ok (.iload_n i, 1)) (hv : am_lk ls i.val = some (.int x)) (kk : am_G k own nm cc nL ret cells slots Q (pc + 1) ls (.int x :: st) h) : am_G k own nm cc nL ret cells slots Q pc ls st h := by
  obtain ⟨p, l, e, R, s, m, args, below, meth, c, h0, D, ac, zc⟩ := k
  intro hC H locs la hR hE hS hl
  exact lv_iload_n hC.1 hC.2.1 hd rfl (am_lv hl hv) (kk hC H locs la hR hE hS hl)
theorem g_iload {i : Nat} {x : Int32} (hd : decode cc pc = .ok (.iload i, 2)) (hv : am_lk ls i = some (.int x)) (kk : am_G k own nm cc nL ret cells slots Q (pc + 2) ls (.int x :: st) h) : am_G k own nm cc nL ret cells slots Q pc ls st h := by
  obtain ⟨p, l, e, R, s, m, args, below, meth, c, h0, D, ac, zc⟩ := k
  intro hC H locs la hR hE hS hl
  exact lv_iload hC.1 hC.2.1 hd (am_lv hl hv) (kk hC H locs la hR hE hS hl)
theorem g_aload_n {i : Fin 4} {x : Nat} (hd : decode cc pc = .ok (.aload_n i, 1)) (hv : am_lk ls i.val = some (.ref x)) (kk : am_G k own nm cc nL ret cells slots Q (pc + 1) ls (.ref x :: st) h) : am_G k own nm cc nL ret cells slots Q pc ls st h := by
  obtain ⟨p, l, e, R, s, m, args, below, meth, c, h0, D, ac, zc⟩ := k
  intro hC H locs la hR hE hS hl
  exact lv_aload_n hC.1 hC.2.1 hd rfl (am_lv hl hv) (kk hC H locs la hR hE hS hl)
theorem g_aload {i : Nat} {x : Nat} (hd : decode cc pc = .ok (.aload i, 2)) (hv : am_lk ls i = some (.ref x)) (kk : am_G k own nm cc nL ret cells slots Q (pc + 2) ls (.ref x :: st) h) : am_G k own nm cc nL ret cells slots Q pc ls st h := by
  obtain ⟨p, l, e, R, s, m, args, below, meth, c, h0, D, ac, zc⟩ := k
  intro hC H locs la hR hE hS hl
  exact lv_aload hC.1 hC.2.1 hd (am_lv hl hv) (kk hC H locs la hR hE hS hl)
theorem am_stv {la : Array Slot} {ls : List (Nat × Value)} {nL i : Nat} {v : Value} (h : lv_has la nL ls) (hi : i < nL) (hc : v.category = 1) : ∃ lv : List (Nat × Value), lv_has la nL lv ∧ (i, v) :: lv.filter (fun q => !(q.1 == i) && !(q.1 + 1 == i && q.2.category == 2)) = (i, v) :: lv ∧ lv = (am_dl i ls).filter (fun q => !(q.1 + 1 == i && q.2.category == 2)) := by
  refine ⟨_, ⟨h.1, h.2.1, fun q hq => h.2.2 q (am_dl_mem (List.mem_filter.mp hq).1).1⟩, ?_, rfl⟩
  congr 1
  rw [List.filter_eq_self]
  intro q hq
  obtain ⟨h1, h2⟩ := List.mem_filter.mp hq
  have h3 := (am_dl_mem h1).2
  rw [Bool.and_eq_true]
  exact ⟨by simp [h3], h2⟩
theorem am_dl1 {i : Nat} {ls : List (Nat × Value)} (h1 : am_1 ls) : (am_dl i ls).filter (fun q => !(q.1 + 1 == i && q.2.category == 2)) = am_dl i ls := by
  rw [List.filter_eq_self]
  intro q hq
  have := h1.at q (am_dl_mem hq).1
  simp [this]
theorem g_istore_n {i : Fin 4} {x : Int32} (hd : decode cc pc = .ok (.istore_n i, 1)) (hi : i.val < nL) (h1 : am_1 ls) (kk : am_G k own nm cc nL ret cells slots Q (pc + 1) ((i.val, .int x) :: am_dl i.val ls) st h) : am_G k own nm cc nL ret cells slots Q pc ls (.int x :: st) h := by
  obtain ⟨p, l, e, R, s, m, args, below, meth, c, h0, D, ac, zc⟩ := k
  intro hC H locs la hR hE hS hl
  obtain ⟨lv, q1, q2, q3⟩ := am_stv (v := .int x) hl hi rfl
  refine lv_istore_n hC.1 hC.2.1 hd rfl q1 hi q2 (fun la' hl' => kk hC H locs la' hR hE hS ?_)
  rw [q3, am_dl1 h1] at hl'
  exact hl'
theorem g_istore {i : Nat} {x : Int32} (hd : decode cc pc = .ok (.istore i, 2)) (hi : i < nL) (h1 : am_1 ls) (kk : am_G k own nm cc nL ret cells slots Q (pc + 2) ((i, .int x) :: am_dl i ls) st h) : am_G k own nm cc nL ret cells slots Q pc ls (.int x :: st) h := by
  obtain ⟨p, l, e, R, s, m, args, below, meth, c, h0, D, ac, zc⟩ := k
  intro hC H locs la hR hE hS hl
  obtain ⟨lv, q1, q2, q3⟩ := am_stv (v := .int x) hl hi rfl
  refine lv_istore hC.1 hC.2.1 hd q1 hi q2 (fun la' hl' => kk hC H locs la' hR hE hS ?_)
  rw [q3, am_dl1 h1] at hl'
  exact hl'
theorem g_astore_n {i : Fin 4} {x : Nat} (hd : decode cc pc = .ok (.astore_n i, 1)) (hi : i.val < nL) (h1 : am_1 ls) (kk : am_G k own nm cc nL ret cells slots Q (pc + 1) ((i.val, .ref x) :: am_dl i.val ls) st h) : am_G k own nm cc nL ret cells slots Q pc ls (.ref x :: st) h := by
  obtain ⟨p, l, e, R, s, m, args, below, meth, c, h0, D, ac, zc⟩ := k
  intro hC H locs la hR hE hS hl
  obtain ⟨lv, q1, q2, q3⟩ := am_stv (v := .ref x) hl hi rfl
  refine lv_astore_n hC.1 hC.2.1 hd rfl q1 hi q2 (fun la' hl' => kk hC H locs la' hR hE hS ?_)
  rw [q3, am_dl1 h1] at hl'
  exact hl'
theorem g_astore {i : Nat} {x : Nat} (hd : decode cc pc = .ok (.astore i, 2)) (hi : i < nL) (h1 : am_1 ls) (kk : am_G k own nm cc nL ret cells slots Q (pc + 2) ((i, .ref x) :: am_dl i ls) st h) : am_G k own nm cc nL ret cells slots Q pc ls (.ref x :: st) h := by
  obtain ⟨p, l, e, R, s, m, args, below, meth, c, h0, D, ac, zc⟩ := k
  intro hC H locs la hR hE hS hl
  obtain ⟨lv, q1, q2, q3⟩ := am_stv (v := .ref x) hl hi rfl
  refine lv_astore hC.1 hC.2.1 hd q1 hi q2 (fun la' hl' => kk hC H locs la' hR hE hS ?_)
  rw [q3, am_dl1 h1] at hl'
  exact hl'
theorem g_iinc {i : Nat} {n : Int} {x v : Int32} (hd : decode cc pc = .ok (.iinc i n, 3)) (hx : am_lk ls i = some (.int x)) (hv : x + Int32.ofInt n = v) (hi : i < nL) (h1 : am_1 ls) (kk : am_G k own nm cc nL ret cells slots Q (pc + 3) ((i, .int v) :: am_dl i ls) st h) : am_G k own nm cc nL ret cells slots Q pc ls st h := by
  obtain ⟨p, l, e, R, s, m, args, below, meth, c, h0, D, ac, zc⟩ := k
  intro hC H locs la hR hE hS hl
  have hq : lv_has la nL ((i, .int x) :: am_dl i ls) := ⟨hl.1, hl.2.1, fun q hq => by
    rcases List.mem_cons.mp hq with z | z
    · subst z
      exact am_lv hl hx
    · exact hl.2.2 q (am_dl_mem z).1⟩
  refine lv_iinc (k := 0) (lv' := (i, .int v) :: am_dl i ls) hC.1 hC.2.1 hd hq rfl hv hi ?_ (fun la' hl' => kk hC H locs la' hR hE hS hl')
  congr 1
  rw [List.filter_cons_of_neg (by simp), List.filter_eq_self]
  intro q hq
  obtain ⟨z1, z2⟩ := am_dl_mem hq
  simp [z2, h1.at q z1]
theorem g_iadd {x y : Int32} (hd : decode cc pc = .ok (.iadd, 1)) (kk : am_G k own nm cc nL ret cells slots Q (pc + 1) ls (.int (x + y) :: st) h) : am_G k own nm cc nL ret cells slots Q pc ls (.int y :: .int x :: st) h := by
  obtain ⟨p, l, e, R, s, m, args, below, meth, c, h0, D, ac, zc⟩ := k
  intro hC H locs la hR hE hS hl
  exact lv_iadd hC.1 hC.2.1 hd (kk hC H locs la hR hE hS hl)
theorem g_isub {x y : Int32} (hd : decode cc pc = .ok (.isub, 1)) (kk : am_G k own nm cc nL ret cells slots Q (pc + 1) ls (.int (x - y) :: st) h) : am_G k own nm cc nL ret cells slots Q pc ls (.int y :: .int x :: st) h := by
  obtain ⟨p, l, e, R, s, m, args, below, meth, c, h0, D, ac, zc⟩ := k
  intro hC H locs la hR hE hS hl
  exact lv_isub hC.1 hC.2.1 hd (kk hC H locs la hR hE hS hl)
theorem g_imul {x y : Int32} (hd : decode cc pc = .ok (.imul, 1)) (kk : am_G k own nm cc nL ret cells slots Q (pc + 1) ls (.int (x * y) :: st) h) : am_G k own nm cc nL ret cells slots Q pc ls (.int y :: .int x :: st) h := by
  obtain ⟨p, l, e, R, s, m, args, below, meth, c, h0, D, ac, zc⟩ := k
  intro hC H locs la hR hE hS hl
  exact lv_imul hC.1 hC.2.1 hd (kk hC H locs la hR hE hS hl)
theorem g_iand {x y : Int32} (hd : decode cc pc = .ok (.iand, 1)) (kk : am_G k own nm cc nL ret cells slots Q (pc + 1) ls (.int (x &&& y) :: st) h) : am_G k own nm cc nL ret cells slots Q pc ls (.int y :: .int x :: st) h := by
  obtain ⟨p, l, e, R, s, m, args, below, meth, c, h0, D, ac, zc⟩ := k
  intro hC H locs la hR hE hS hl
  exact lv_iand hC.1 hC.2.1 hd (kk hC H locs la hR hE hS hl)
theorem g_ior {x y : Int32} (hd : decode cc pc = .ok (.ior, 1)) (kk : am_G k own nm cc nL ret cells slots Q (pc + 1) ls (.int (x ||| y) :: st) h) : am_G k own nm cc nL ret cells slots Q pc ls (.int y :: .int x :: st) h := by
  obtain ⟨p, l, e, R, s, m, args, below, meth, c, h0, D, ac, zc⟩ := k
  intro hC H locs la hR hE hS hl
  exact lv_ior hC.1 hC.2.1 hd (kk hC H locs la hR hE hS hl)
theorem g_ishl {x y : Int32} (hd : decode cc pc = .ok (.ishl, 1)) (kk : am_G k own nm cc nL ret cells slots Q (pc + 1) ls (.int (x <<< (y &&& 31)) :: st) h) : am_G k own nm cc nL ret cells slots Q pc ls (.int y :: .int x :: st) h := by
  obtain ⟨p, l, e, R, s, m, args, below, meth, c, h0, D, ac, zc⟩ := k
  intro hC H locs la hR hE hS hl
  exact lv_ishl hC.1 hC.2.1 hd (kk hC H locs la hR hE hS hl)
theorem g_ishr {x y : Int32} (hd : decode cc pc = .ok (.ishr, 1)) (kk : am_G k own nm cc nL ret cells slots Q (pc + 1) ls (.int (x >>> (y &&& 31)) :: st) h) : am_G k own nm cc nL ret cells slots Q pc ls (.int y :: .int x :: st) h := by
  obtain ⟨p, l, e, R, s, m, args, below, meth, c, h0, D, ac, zc⟩ := k
  intro hC H locs la hR hE hS hl
  exact lv_ishr hC.1 hC.2.1 hd (kk hC H locs la hR hE hS hl)
theorem g_idiv {x y : Int32} (hd : decode cc pc = .ok (.idiv, 1)) (hne : ¬ y = 0) (kk : am_G k own nm cc nL ret cells slots Q (pc + 1) ls (.int (x / y) :: st) h) : am_G k own nm cc nL ret cells slots Q pc ls (.int y :: .int x :: st) h := by
  obtain ⟨p, l, e, R, s, m, args, below, meth, c, h0, D, ac, zc⟩ := k
  intro hC H locs la hR hE hS hl
  exact lv_idiv hC.1 hC.2.1 hd hne (kk hC H locs la hR hE hS hl)
theorem g_irem {x y : Int32} (hd : decode cc pc = .ok (.irem, 1)) (hne : ¬ y = 0) (kk : am_G k own nm cc nL ret cells slots Q (pc + 1) ls (.int (x - x / y * y) :: st) h) : am_G k own nm cc nL ret cells slots Q pc ls (.int y :: .int x :: st) h := by
  obtain ⟨p, l, e, R, s, m, args, below, meth, c, h0, D, ac, zc⟩ := k
  intro hC H locs la hR hE hS hl
  exact lv_irem hC.1 hC.2.1 hd hne (kk hC H locs la hR hE hS hl)
theorem g_ineg {x : Int32} (hd : decode cc pc = .ok (.ineg, 1)) (kk : am_G k own nm cc nL ret cells slots Q (pc + 1) ls (.int (-x) :: st) h) : am_G k own nm cc nL ret cells slots Q pc ls (.int x :: st) h := by
  obtain ⟨p, l, e, R, s, m, args, below, meth, c, h0, D, ac, zc⟩ := k
  intro hC H locs la hR hE hS hl
  exact lv_ineg hC.1 hC.2.1 hd (kk hC H locs la hR hE hS hl)
theorem g_i2l {x : Int32} {v : Int64} (hd : decode cc pc = .ok (.i2l, 1)) (hv : x.toInt64 = v) (kk : am_G k own nm cc nL ret cells slots Q (pc + 1) ls (.long v :: st) h) : am_G k own nm cc nL ret cells slots Q pc ls (.int x :: st) h := by
  obtain ⟨p, l, e, R, s, m, args, below, meth, c, h0, D, ac, zc⟩ := k
  intro hC H locs la hR hE hS hl
  exact lv_i2l hC.1 hC.2.1 hd hv (kk hC H locs la hR hE hS hl)
theorem g_lcmp {x y : Int64} (hd : decode cc pc = .ok (.lcmp, 1)) (kk : am_G k own nm cc nL ret cells slots Q (pc + 1) ls (.int (lg_cmp x y) :: st) h) : am_G k own nm cc nL ret cells slots Q pc ls (.long y :: .long x :: st) h := by
  obtain ⟨p, l, e, R, s, m, args, below, meth, c, h0, D, ac, zc⟩ := k
  intro hC H locs la hR hE hS hl
  exact W.lcmp hC.1 hC.2.1 hd (kk hC H locs la hR hE hS hl)
theorem g_dup {v : Value} (hd : decode cc pc = .ok (.dup, 1)) (hc : v.category = 1) (kk : am_G k own nm cc nL ret cells slots Q (pc + 1) ls (v :: v :: st) h) : am_G k own nm cc nL ret cells slots Q pc ls (v :: st) h := by
  obtain ⟨p, l, e, R, s, m, args, below, meth, c, h0, D, ac, zc⟩ := k
  intro hC H locs la hR hE hS hl
  exact lv_dup hC.1 hC.2.1 hd hc (kk hC H locs la hR hE hS hl)
theorem g_pop {v : Value} (hd : decode cc pc = .ok (.pop, 1)) (hc : v.category = 1) (kk : am_G k own nm cc nL ret cells slots Q (pc + 1) ls st h) : am_G k own nm cc nL ret cells slots Q pc ls (v :: st) h := by
  obtain ⟨p, l, e, R, s, m, args, below, meth, c, h0, D, ac, zc⟩ := k
  intro hC H locs la hR hE hS hl
  exact lv_pop hC.1 hC.2.1 hd hc (kk hC H locs la hR hE hS hl)
theorem g_dup2 {v u : Value} (hd : decode cc pc = .ok (.dup2, 1)) (hc : v.category = 1) (hc2 : u.category = 1) (kk : am_G k own nm cc nL ret cells slots Q (pc + 1) ls (v :: u :: v :: u :: st) h) : am_G k own nm cc nL ret cells slots Q pc ls (v :: u :: st) h := by
  obtain ⟨p, l, e, R, s, m, args, below, meth, c, h0, D, ac, zc⟩ := k
  intro hC H locs la hR hE hS hl
  exact lv_dup2_11 hC.1 hC.2.1 hd hc hc2 (kk hC H locs la hR hE hS hl)
theorem g_dup_x1 {v u : Value} (hd : decode cc pc = .ok (.dup_x1, 1)) (hc : v.category = 1) (hc2 : u.category = 1) (kk : am_G k own nm cc nL ret cells slots Q (pc + 1) ls (v :: u :: v :: st) h) : am_G k own nm cc nL ret cells slots Q pc ls (v :: u :: st) h := by
  obtain ⟨p, l, e, R, s, m, args, below, meth, c, h0, D, ac, zc⟩ := k
  intro hC H locs la hR hE hS hl
  exact lv_dup_x1 hC.1 hC.2.1 hd hc hc2 (kk hC H locs la hR hE hS hl)
theorem g_goto {off : Int} (tgt : Nat) (hd : decode cc pc = .ok (.goto off, 3)) (ht : (pc : Int) + off = (tgt : Int)) (kk : am_G k own nm cc nL ret cells slots Q tgt ls st h) : am_G k own nm cc nL ret cells slots Q pc ls st h := by
  obtain ⟨p, l, e, R, s, m, args, below, meth, c, h0, D, ac, zc⟩ := k
  intro hC H locs la hR hE hS hl
  exact lv_goto hC.1 hC.2.1 hd ht (kk hC H locs la hR hE hS hl)
theorem g_if_eq {x : Int32} {off : Int} (tgt : Nat) (hd : decode cc pc = .ok (.ifCond .eq off, 3)) (ht : (pc : Int) + off = (tgt : Int)) (kt : x = 0 → am_G k own nm cc nL ret cells slots Q tgt ls st h) (kf : ¬ x = 0 → am_G k own nm cc nL ret cells slots Q (pc + 3) ls st h) : am_G k own nm cc nL ret cells slots Q pc ls (.int x :: st) h := by
  obtain ⟨p, l, e, R, s, m, args, below, meth, c, h0, D, ac, zc⟩ := k
  intro hC H locs la hR hE hS hl
  exact lv_if_eq hC.1 hC.2.1 hd ht (fun z => kt z hC H locs la hR hE hS hl) (fun z => kf z hC H locs la hR hE hS hl)
theorem g_icmp_eq {x y : Int32} {off : Int} (tgt : Nat) (hd : decode cc pc = .ok (.if_icmp .eq off, 3)) (ht : (pc : Int) + off = (tgt : Int)) (kt : x = y → am_G k own nm cc nL ret cells slots Q tgt ls st h) (kf : ¬ x = y → am_G k own nm cc nL ret cells slots Q (pc + 3) ls st h) : am_G k own nm cc nL ret cells slots Q pc ls (.int y :: .int x :: st) h := by
  obtain ⟨p, l, e, R, s, m, args, below, meth, c, h0, D, ac, zc⟩ := k
  intro hC H locs la hR hE hS hl
  exact lv_icmp_eq hC.1 hC.2.1 hd ht (fun z => kt z hC H locs la hR hE hS hl) (fun z => kf z hC H locs la hR hE hS hl)
theorem g_if_ne {x : Int32} {off : Int} (tgt : Nat) (hd : decode cc pc = .ok (.ifCond .ne off, 3)) (ht : (pc : Int) + off = (tgt : Int)) (kt : ¬ x = 0 → am_G k own nm cc nL ret cells slots Q tgt ls st h) (kf : x = 0 → am_G k own nm cc nL ret cells slots Q (pc + 3) ls st h) : am_G k own nm cc nL ret cells slots Q pc ls (.int x :: st) h := by
  obtain ⟨p, l, e, R, s, m, args, below, meth, c, h0, D, ac, zc⟩ := k
  intro hC H locs la hR hE hS hl
  exact lv_if_ne hC.1 hC.2.1 hd ht (fun z => kt z hC H locs la hR hE hS hl) (fun z => kf z hC H locs la hR hE hS hl)
theorem g_icmp_ne {x y : Int32} {off : Int} (tgt : Nat) (hd : decode cc pc = .ok (.if_icmp .ne off, 3)) (ht : (pc : Int) + off = (tgt : Int)) (kt : ¬ x = y → am_G k own nm cc nL ret cells slots Q tgt ls st h) (kf : x = y → am_G k own nm cc nL ret cells slots Q (pc + 3) ls st h) : am_G k own nm cc nL ret cells slots Q pc ls (.int y :: .int x :: st) h := by
  obtain ⟨p, l, e, R, s, m, args, below, meth, c, h0, D, ac, zc⟩ := k
  intro hC H locs la hR hE hS hl
  exact lv_icmp_ne hC.1 hC.2.1 hd ht (fun z => kt z hC H locs la hR hE hS hl) (fun z => kf z hC H locs la hR hE hS hl)
theorem g_if_lt {x : Int32} {off : Int} (tgt : Nat) (hd : decode cc pc = .ok (.ifCond .lt off, 3)) (ht : (pc : Int) + off = (tgt : Int)) (kt : x < 0 → am_G k own nm cc nL ret cells slots Q tgt ls st h) (kf : ¬ x < 0 → am_G k own nm cc nL ret cells slots Q (pc + 3) ls st h) : am_G k own nm cc nL ret cells slots Q pc ls (.int x :: st) h := by
  obtain ⟨p, l, e, R, s, m, args, below, meth, c, h0, D, ac, zc⟩ := k
  intro hC H locs la hR hE hS hl
  exact lv_if_lt hC.1 hC.2.1 hd ht (fun z => kt z hC H locs la hR hE hS hl) (fun z => kf z hC H locs la hR hE hS hl)
theorem g_icmp_lt {x y : Int32} {off : Int} (tgt : Nat) (hd : decode cc pc = .ok (.if_icmp .lt off, 3)) (ht : (pc : Int) + off = (tgt : Int)) (kt : x < y → am_G k own nm cc nL ret cells slots Q tgt ls st h) (kf : ¬ x < y → am_G k own nm cc nL ret cells slots Q (pc + 3) ls st h) : am_G k own nm cc nL ret cells slots Q pc ls (.int y :: .int x :: st) h := by
  obtain ⟨p, l, e, R, s, m, args, below, meth, c, h0, D, ac, zc⟩ := k
  intro hC H locs la hR hE hS hl
  exact lv_icmp_lt hC.1 hC.2.1 hd ht (fun z => kt z hC H locs la hR hE hS hl) (fun z => kf z hC H locs la hR hE hS hl)
theorem g_if_ge {x : Int32} {off : Int} (tgt : Nat) (hd : decode cc pc = .ok (.ifCond .ge off, 3)) (ht : (pc : Int) + off = (tgt : Int)) (kt : 0 ≤ x → am_G k own nm cc nL ret cells slots Q tgt ls st h) (kf : ¬ 0 ≤ x → am_G k own nm cc nL ret cells slots Q (pc + 3) ls st h) : am_G k own nm cc nL ret cells slots Q pc ls (.int x :: st) h := by
  obtain ⟨p, l, e, R, s, m, args, below, meth, c, h0, D, ac, zc⟩ := k
  intro hC H locs la hR hE hS hl
  exact lv_if_ge hC.1 hC.2.1 hd ht (fun z => kt z hC H locs la hR hE hS hl) (fun z => kf z hC H locs la hR hE hS hl)
theorem g_icmp_ge {x y : Int32} {off : Int} (tgt : Nat) (hd : decode cc pc = .ok (.if_icmp .ge off, 3)) (ht : (pc : Int) + off = (tgt : Int)) (kt : y ≤ x → am_G k own nm cc nL ret cells slots Q tgt ls st h) (kf : ¬ y ≤ x → am_G k own nm cc nL ret cells slots Q (pc + 3) ls st h) : am_G k own nm cc nL ret cells slots Q pc ls (.int y :: .int x :: st) h := by
  obtain ⟨p, l, e, R, s, m, args, below, meth, c, h0, D, ac, zc⟩ := k
  intro hC H locs la hR hE hS hl
  exact lv_icmp_ge hC.1 hC.2.1 hd ht (fun z => kt z hC H locs la hR hE hS hl) (fun z => kf z hC H locs la hR hE hS hl)
theorem g_if_gt {x : Int32} {off : Int} (tgt : Nat) (hd : decode cc pc = .ok (.ifCond .gt off, 3)) (ht : (pc : Int) + off = (tgt : Int)) (kt : 0 < x → am_G k own nm cc nL ret cells slots Q tgt ls st h) (kf : ¬ 0 < x → am_G k own nm cc nL ret cells slots Q (pc + 3) ls st h) : am_G k own nm cc nL ret cells slots Q pc ls (.int x :: st) h := by
  obtain ⟨p, l, e, R, s, m, args, below, meth, c, h0, D, ac, zc⟩ := k
  intro hC H locs la hR hE hS hl
  exact lv_if_gt hC.1 hC.2.1 hd ht (fun z => kt z hC H locs la hR hE hS hl) (fun z => kf z hC H locs la hR hE hS hl)
theorem g_icmp_gt {x y : Int32} {off : Int} (tgt : Nat) (hd : decode cc pc = .ok (.if_icmp .gt off, 3)) (ht : (pc : Int) + off = (tgt : Int)) (kt : y < x → am_G k own nm cc nL ret cells slots Q tgt ls st h) (kf : ¬ y < x → am_G k own nm cc nL ret cells slots Q (pc + 3) ls st h) : am_G k own nm cc nL ret cells slots Q pc ls (.int y :: .int x :: st) h := by
  obtain ⟨p, l, e, R, s, m, args, below, meth, c, h0, D, ac, zc⟩ := k
  intro hC H locs la hR hE hS hl
  exact lv_icmp_gt hC.1 hC.2.1 hd ht (fun z => kt z hC H locs la hR hE hS hl) (fun z => kf z hC H locs la hR hE hS hl)
theorem g_if_le {x : Int32} {off : Int} (tgt : Nat) (hd : decode cc pc = .ok (.ifCond .le off, 3)) (ht : (pc : Int) + off = (tgt : Int)) (kt : x ≤ 0 → am_G k own nm cc nL ret cells slots Q tgt ls st h) (kf : ¬ x ≤ 0 → am_G k own nm cc nL ret cells slots Q (pc + 3) ls st h) : am_G k own nm cc nL ret cells slots Q pc ls (.int x :: st) h := by
  obtain ⟨p, l, e, R, s, m, args, below, meth, c, h0, D, ac, zc⟩ := k
  intro hC H locs la hR hE hS hl
  exact lv_if_le hC.1 hC.2.1 hd ht (fun z => kt z hC H locs la hR hE hS hl) (fun z => kf z hC H locs la hR hE hS hl)
theorem g_icmp_le {x y : Int32} {off : Int} (tgt : Nat) (hd : decode cc pc = .ok (.if_icmp .le off, 3)) (ht : (pc : Int) + off = (tgt : Int)) (kt : x ≤ y → am_G k own nm cc nL ret cells slots Q tgt ls st h) (kf : ¬ x ≤ y → am_G k own nm cc nL ret cells slots Q (pc + 3) ls st h) : am_G k own nm cc nL ret cells slots Q pc ls (.int y :: .int x :: st) h := by
  obtain ⟨p, l, e, R, s, m, args, below, meth, c, h0, D, ac, zc⟩ := k
  intro hC H locs la hR hE hS hl
  exact lv_icmp_le hC.1 hC.2.1 hd ht (fun z => kt z hC H locs la hR hE hS hl) (fun z => kf z hC H locs la hR hE hS hl)
theorem g_acmp_ne {x y : Option Nat} {off : Int} (tgt : Nat) (hd : decode cc pc = .ok (.if_acmp .ne off, 3)) (ht : (pc : Int) + off = (tgt : Int)) (kt : ¬ x = y → am_G k own nm cc nL ret cells slots Q tgt ls st h) (kf : x = y → am_G k own nm cc nL ret cells slots Q (pc + 3) ls st h) : am_G k own nm cc nL ret cells slots Q pc ls (va_rf y :: va_rf x :: st) h := by
  obtain ⟨p, l, e, R, s, m, args, below, meth, c, h0, D, ac, zc⟩ := k
  intro hC H locs la hR hE hS hl
  exact lv_acmp_ne hC.1 hC.2.1 hd ht (fun z => kt z hC H locs la hR hE hS hl) (fun z => kf z hC H locs la hR hE hS hl)
theorem g_tableOut {dflt lo hi : Int} {offs : Array Int} {len : Nat} {x : Int32} (tgt : Nat) (hd : decode cc pc = .ok (.tableswitch dflt lo hi offs, len)) (hx : x.toInt < lo ∨ hi < x.toInt) (ht : (pc : Int) + dflt = (tgt : Int)) (kk : am_G k own nm cc nL ret cells slots Q tgt ls st h) : am_G k own nm cc nL ret cells slots Q pc ls (.int x :: st) h := by
  obtain ⟨p, l, e, R, s, m, args, below, meth, c, h0, D, ac, zc⟩ := k
  intro hC H locs la hR hE hS hl
  exact lv_tableOut hC.1 hC.2.1 hd hx ht (kk hC H locs la hR hE hS hl)
theorem g_tableIn {dflt lo hi : Int} {offs : Array Int} {len : Nat} {x : Int32} {off : Int} (tgt : Nat) (hd : decode cc pc = .ok (.tableswitch dflt lo hi offs, len)) (h1 : ¬ x.toInt < lo) (h2 : ¬ hi < x.toInt) (ho : offs[(x.toInt - lo).toNat]? = some off) (ht : (pc : Int) + off = (tgt : Int)) (kk : am_G k own nm cc nL ret cells slots Q tgt ls st h) : am_G k own nm cc nL ret cells slots Q pc ls (.int x :: st) h := by
  obtain ⟨p, l, e, R, s, m, args, below, meth, c, h0, D, ac, zc⟩ := k
  intro hC H locs la hR hE hS hl
  exact lv_tableIn hC.1 hC.2.1 hd h1 h2 ho ht (kk hC H locs la hR hE hS hl)
end AMR
