/-! the class's own state: what lies at each address. Tags: 1 ArrayList, 2 to 13 the class's own (their number in vwCl + 1), 20 int[], 21 long[], 22 Object[]; 0: nothing of ours -/
abbrev kx_S : Type := (Nat → Nat) × (Nat → Nat → Int32) × (Nat → Nat → Option Nat) × (Nat → Nat → Int64) × (Nat → Nat) × (Nat → Nat → Int32) × (Nat → Nat → Int64) × (Nat → Nat → Option Nat) × Nat × Nat
def xt (σ : kx_S) (a : Nat) : Nat := σ.1 a
def xi (σ : kx_S) (f a : Nat) : Int32 := σ.2.1 f a
def xr (σ : kx_S) (f a : Nat) : Option Nat := σ.2.2.1 f a
def xl (σ : kx_S) (f a : Nat) : Int64 := σ.2.2.2.1 f a
def xn (σ : kx_S) (a : Nat) : Nat := σ.2.2.2.2.1 a
def xai (σ : kx_S) (a i : Nat) : Int32 := σ.2.2.2.2.2.1 a i
def xal (σ : kx_S) (a i : Nat) : Int64 := σ.2.2.2.2.2.2.1 a i
def xar (σ : kx_S) (a i : Nat) : Option Nat := σ.2.2.2.2.2.2.2.1 a i
/-- how many cells have been made; where ArrayList's empty array lies -/
def xc (σ : kx_S) : Nat := σ.2.2.2.2.2.2.2.2.1
def xz (σ : kx_S) : Nat := σ.2.2.2.2.2.2.2.2.2
def xsi (σ : kx_S) (f a : Nat) (v : Int32) : kx_S := (σ.1, fun g => if g = f then va_up (σ.2.1 f) a v else σ.2.1 g, σ.2.2)
def xsr (σ : kx_S) (f a : Nat) (v : Option Nat) : kx_S := (σ.1, σ.2.1, fun g => if g = f then va_up (σ.2.2.1 f) a v else σ.2.2.1 g, σ.2.2.2)
def xsl (σ : kx_S) (f a : Nat) (v : Int64) : kx_S := (σ.1, σ.2.1, σ.2.2.1, fun g => if g = f then va_up (σ.2.2.2.1 f) a v else σ.2.2.2.1 g, σ.2.2.2.2)
def xsai (σ : kx_S) (a i : Nat) (v : Int32) : kx_S := (σ.1, σ.2.1, σ.2.2.1, σ.2.2.2.1, σ.2.2.2.2.1, va_up σ.2.2.2.2.2.1 a (upd (σ.2.2.2.2.2.1 a) i v), σ.2.2.2.2.2.2)
def xsal (σ : kx_S) (a i : Nat) (v : Int64) : kx_S := (σ.1, σ.2.1, σ.2.2.1, σ.2.2.2.1, σ.2.2.2.2.1, σ.2.2.2.2.2.1, va_up σ.2.2.2.2.2.2.1 a (vp_updL (σ.2.2.2.2.2.2.1 a) i v), σ.2.2.2.2.2.2.2)
/-- an array's contents as a whole: of ints, of references -/
def xsAI (σ : kx_S) (a : Nat) (f : Nat → Int32) : kx_S := (σ.1, σ.2.1, σ.2.2.1, σ.2.2.2.1, σ.2.2.2.2.1, va_up σ.2.2.2.2.2.1 a f, σ.2.2.2.2.2.2)
def xsAR (σ : kx_S) (a : Nat) (f : Nat → Option Nat) : kx_S := (σ.1, σ.2.1, σ.2.2.1, σ.2.2.2.1, σ.2.2.2.2.1, σ.2.2.2.2.2.1, σ.2.2.2.2.2.2.1, va_up σ.2.2.2.2.2.2.2.1 a f, σ.2.2.2.2.2.2.2.2)
def xsar (σ : kx_S) (a i : Nat) (v : Option Nat) : kx_S := xsAR σ a (va_up (xar σ a) i v)
/-- a new object, its fields as they are born; a new array of a length -/
def xnew (σ : kx_S) (a tag : Nat) : kx_S := (va_up σ.1 a tag, fun f => va_up (σ.2.1 f) a 0, fun f => va_up (σ.2.2.1 f) a none, fun f => va_up (σ.2.2.2.1 f) a 0, σ.2.2.2.2.1, σ.2.2.2.2.2.1, σ.2.2.2.2.2.2.1, σ.2.2.2.2.2.2.2.1, σ.2.2.2.2.2.2.2.2.1 + 1, σ.2.2.2.2.2.2.2.2.2)
def xnewA (σ : kx_S) (a tag n : Nat) : kx_S := (va_up σ.1 a tag, σ.2.1, σ.2.2.1, σ.2.2.2.1, va_up σ.2.2.2.2.1 a n, va_up σ.2.2.2.2.2.1 a (fun _ => 0), va_up σ.2.2.2.2.2.2.1 a (fun _ => 0), va_up σ.2.2.2.2.2.2.2.1 a (fun _ => none), σ.2.2.2.2.2.2.2.2.1 + 1, σ.2.2.2.2.2.2.2.2.2)
/-- a cell that is none of ours (an exception) -/
def xbump (σ : kx_S) : kx_S := (σ.1, σ.2.1, σ.2.2.1, σ.2.2.2.1, σ.2.2.2.2.1, σ.2.2.2.2.2.1, σ.2.2.2.2.2.2.1, σ.2.2.2.2.2.2.2.1, σ.2.2.2.2.2.2.2.2.1 + 1, σ.2.2.2.2.2.2.2.2.2)
/-- where things lie: the classes' numbers, the three array classes, what is ours to change, the words' strings and their bytes, ArrayList's empty array, the class object of Object[] -/
abbrev kx_G : Type := va_G × ClassId × ClassId × ClassId × (Nat → Prop) × (Nat → Nat) × (Nat → Nat) × Nat × Nat
abbrev kx_z (G : kx_G) : Nat := G.2.2.2.2.2.2.2.1
abbrev kx_mi (G : kx_G) : Nat := G.2.2.2.2.2.2.2.2
abbrev kx_A (G : kx_G) : Nat → Prop := G.2.2.2.2.1

/-- what lies at an address -/
def kx_e (G : kx_G) (σ : kx_S) (a : Nat) : va_E := match xt σ a with
  | 1 => .inr (0, [.int (xi σ 16 a), va_rf (xr σ 17 a), .int (xi σ 18 a)])
  | 2 => .inr (1, [va_rf (xr σ 32 a), va_rf (xr σ 33 a), .int (xi σ 34 a), .int (xi σ 35 a)])
  | 3 => .inr (2, [.int (xi σ 48 a), va_rf (xr σ 49 a), .int (xi σ 50 a), .int (xi σ 51 a)])
  | 4 => .inr (3, [va_rf (xr σ 64 a), .int (xi σ 65 a)])
  | 5 => .inr (4, [va_rf (xr σ 80 a), va_rf (xr σ 81 a), .int (xi σ 82 a), .int (xi σ 83 a), .long (xl σ 84 a)])
  | 6 => .inr (5, [.int (xi σ 96 a), va_rf (xr σ 97 a)])
  | 7 => .inr (6, [va_rf (xr σ 112 a), va_rf (xr σ 113 a), .int (xi σ 114 a), .int (xi σ 115 a), .int (xi σ 116 a)])
  | 8 => .inr (7, [.int (xi σ 128 a), .int (xi σ 129 a), .int (xi σ 130 a), .int (xi σ 131 a), .int (xi σ 132 a), .int (xi σ 133 a), .int (xi σ 134 a), .int (xi σ 135 a), .int (xi σ 136 a)])
  | 9 => .inr (8, [.int (xi σ 144 a), .int (xi σ 145 a), .int (xi σ 146 a)])
  | 10 => .inr (9, [.int (xi σ 160 a), va_rf (xr σ 161 a), .int (xi σ 162 a), va_rf (xr σ 163 a), .int (xi σ 164 a), .int (xi σ 165 a), .int (xi σ 166 a), .int (xi σ 167 a), .int (xi σ 168 a), .int (xi σ 169 a), .int (xi σ 170 a), .int (xi σ 171 a), va_rf (xr σ 172 a)])
  | 11 => .inr (10, [va_rf (xr σ 176 a), .int (xi σ 177 a)])
  | 12 => .inr (11, [va_rf (xr σ 192 a), .int (xi σ 193 a), .int (xi σ 194 a), .int (xi σ 195 a), .int (xi σ 196 a)])
  | 13 => .inr (12, [va_rf (xr σ 208 a), va_rf (xr σ 209 a), va_rf (xr σ 210 a), va_rf (xr σ 211 a), va_rf (xr σ 212 a), va_rf (xr σ 213 a), va_rf (xr σ 214 a), va_rf (xr σ 215 a), va_rf (xr σ 216 a), .int (xi σ 217 a), .int (xi σ 218 a), .int (xi σ 219 a), .long (xl σ 220 a), .long (xl σ 221 a)])
  | 20 => .inl (G.2.1, xn σ a, .inl (xai σ a))
  | 21 => .inl (G.2.2.1, xn σ a, .inr (.inl (xal σ a)))
  | 22 => .inl (G.2.2.2.1, xn σ a, .inr (.inr (.inr (.inr (xar σ a)))))
  | _ => .inr (0, [])
theorem kx_e1 {G : kx_G} {σ : kx_S} {a : Nat} (h : xt σ a = 1) : kx_e G σ a = .inr (0, [.int (xi σ 16 a), va_rf (xr σ 17 a), .int (xi σ 18 a)]) := by unfold kx_e; simp only [h]
theorem kx_e2 {G : kx_G} {σ : kx_S} {a : Nat} (h : xt σ a = 2) : kx_e G σ a = .inr (1, [va_rf (xr σ 32 a), va_rf (xr σ 33 a), .int (xi σ 34 a), .int (xi σ 35 a)]) := by unfold kx_e; simp only [h]
theorem kx_e3 {G : kx_G} {σ : kx_S} {a : Nat} (h : xt σ a = 3) : kx_e G σ a = .inr (2, [.int (xi σ 48 a), va_rf (xr σ 49 a), .int (xi σ 50 a), .int (xi σ 51 a)]) := by unfold kx_e; simp only [h]
theorem kx_e4 {G : kx_G} {σ : kx_S} {a : Nat} (h : xt σ a = 4) : kx_e G σ a = .inr (3, [va_rf (xr σ 64 a), .int (xi σ 65 a)]) := by unfold kx_e; simp only [h]
theorem kx_e5 {G : kx_G} {σ : kx_S} {a : Nat} (h : xt σ a = 5) : kx_e G σ a = .inr (4, [va_rf (xr σ 80 a), va_rf (xr σ 81 a), .int (xi σ 82 a), .int (xi σ 83 a), .long (xl σ 84 a)]) := by unfold kx_e; simp only [h]
theorem kx_e6 {G : kx_G} {σ : kx_S} {a : Nat} (h : xt σ a = 6) : kx_e G σ a = .inr (5, [.int (xi σ 96 a), va_rf (xr σ 97 a)]) := by unfold kx_e; simp only [h]
theorem kx_e7 {G : kx_G} {σ : kx_S} {a : Nat} (h : xt σ a = 7) : kx_e G σ a = .inr (6, [va_rf (xr σ 112 a), va_rf (xr σ 113 a), .int (xi σ 114 a), .int (xi σ 115 a), .int (xi σ 116 a)]) := by unfold kx_e; simp only [h]
theorem kx_e8 {G : kx_G} {σ : kx_S} {a : Nat} (h : xt σ a = 8) : kx_e G σ a = .inr (7, [.int (xi σ 128 a), .int (xi σ 129 a), .int (xi σ 130 a), .int (xi σ 131 a), .int (xi σ 132 a), .int (xi σ 133 a), .int (xi σ 134 a), .int (xi σ 135 a), .int (xi σ 136 a)]) := by unfold kx_e; simp only [h]
theorem kx_e9 {G : kx_G} {σ : kx_S} {a : Nat} (h : xt σ a = 9) : kx_e G σ a = .inr (8, [.int (xi σ 144 a), .int (xi σ 145 a), .int (xi σ 146 a)]) := by unfold kx_e; simp only [h]
theorem kx_e10 {G : kx_G} {σ : kx_S} {a : Nat} (h : xt σ a = 10) : kx_e G σ a = .inr (9, [.int (xi σ 160 a), va_rf (xr σ 161 a), .int (xi σ 162 a), va_rf (xr σ 163 a), .int (xi σ 164 a), .int (xi σ 165 a), .int (xi σ 166 a), .int (xi σ 167 a), .int (xi σ 168 a), .int (xi σ 169 a), .int (xi σ 170 a), .int (xi σ 171 a), va_rf (xr σ 172 a)]) := by unfold kx_e; simp only [h]
theorem kx_e11 {G : kx_G} {σ : kx_S} {a : Nat} (h : xt σ a = 11) : kx_e G σ a = .inr (10, [va_rf (xr σ 176 a), .int (xi σ 177 a)]) := by unfold kx_e; simp only [h]
theorem kx_e12 {G : kx_G} {σ : kx_S} {a : Nat} (h : xt σ a = 12) : kx_e G σ a = .inr (11, [va_rf (xr σ 192 a), .int (xi σ 193 a), .int (xi σ 194 a), .int (xi σ 195 a), .int (xi σ 196 a)]) := by unfold kx_e; simp only [h]
theorem kx_e13 {G : kx_G} {σ : kx_S} {a : Nat} (h : xt σ a = 13) : kx_e G σ a = .inr (12, [va_rf (xr σ 208 a), va_rf (xr σ 209 a), va_rf (xr σ 210 a), va_rf (xr σ 211 a), va_rf (xr σ 212 a), va_rf (xr σ 213 a), va_rf (xr σ 214 a), va_rf (xr σ 215 a), va_rf (xr σ 216 a), .int (xi σ 217 a), .int (xi σ 218 a), .int (xi σ 219 a), .long (xl σ 220 a), .long (xl σ 221 a)]) := by unfold kx_e; simp only [h]
theorem kx_e20 {G : kx_G} {σ : kx_S} {a : Nat} (h : xt σ a = 20) : kx_e G σ a = .inl (G.2.1, xn σ a, .inl (xai σ a)) := by unfold kx_e; simp only [h]
theorem kx_e21 {G : kx_G} {σ : kx_S} {a : Nat} (h : xt σ a = 21) : kx_e G σ a = .inl (G.2.2.1, xn σ a, .inr (.inl (xal σ a))) := by unfold kx_e; simp only [h]
theorem kx_e22 {G : kx_G} {σ : kx_S} {a : Nat} (h : xt σ a = 22) : kx_e G σ a = .inl (G.2.2.2.1, xn σ a, .inr (.inr (.inr (.inr (xar σ a))))) := by unfold kx_e; simp only [h]
/-- what lies at b is told by what the state says of b alone -/
theorem kx_ec {G : kx_G} {σ τ : kx_S} {b : Nat} (h1 : xt τ b = xt σ b) (h2 : ∀ f, xi τ f b = xi σ f b) (h3 : ∀ f, xr τ f b = xr σ f b) (h4 : ∀ f, xl τ f b = xl σ f b) (h5 : xn τ b = xn σ b) (h6 : xai τ b = xai σ b) (h7 : xal τ b = xal σ b) (h8 : xar τ b = xar σ b) : kx_e G τ b = kx_e G σ b := by
  unfold kx_e
  rw [h1]
  simp only [h2, h3, h4, h5, h6, h7, h8]
theorem xup_ne {α : Type} {f g a b : Nat} {v : α} (F : Nat → Nat → α) (h : b ≠ a) : (if g = f then va_up (F f) a v else F g) b = F g b := by
  by_cases hg : g = f
  · rw [if_pos hg, va_up_ne _ _ h, hg]
  · rw [if_neg hg]
theorem kx_nsi {G : kx_G} {σ : kx_S} {f a b : Nat} {v : Int32} (h : b ≠ a) : kx_e G (xsi σ f a v) b = kx_e G σ b := kx_ec rfl (fun g => xup_ne σ.2.1 h) (fun _ => rfl) (fun _ => rfl) rfl rfl rfl rfl
theorem kx_nsr {G : kx_G} {σ : kx_S} {f a b : Nat} {v : Option Nat} (h : b ≠ a) : kx_e G (xsr σ f a v) b = kx_e G σ b := kx_ec rfl (fun _ => rfl) (fun g => xup_ne σ.2.2.1 h) (fun _ => rfl) rfl rfl rfl rfl
theorem kx_nsl {G : kx_G} {σ : kx_S} {f a b : Nat} {v : Int64} (h : b ≠ a) : kx_e G (xsl σ f a v) b = kx_e G σ b := kx_ec rfl (fun _ => rfl) (fun _ => rfl) (fun g => xup_ne σ.2.2.2.1 h) rfl rfl rfl rfl
theorem kx_nsAI {G : kx_G} {σ : kx_S} {a b : Nat} {F : Nat → Int32} (h : b ≠ a) : kx_e G (xsAI σ a F) b = kx_e G σ b := kx_ec rfl (fun _ => rfl) (fun _ => rfl) (fun _ => rfl) rfl (va_up_ne _ _ h) rfl rfl
theorem kx_nsai {G : kx_G} {σ : kx_S} {a b i : Nat} {v : Int32} (h : b ≠ a) : kx_e G (xsai σ a i v) b = kx_e G σ b := kx_ec rfl (fun _ => rfl) (fun _ => rfl) (fun _ => rfl) rfl (va_up_ne _ _ h) rfl rfl
theorem kx_nsal {G : kx_G} {σ : kx_S} {a b i : Nat} {v : Int64} (h : b ≠ a) : kx_e G (xsal σ a i v) b = kx_e G σ b := kx_ec rfl (fun _ => rfl) (fun _ => rfl) (fun _ => rfl) rfl rfl (va_up_ne _ _ h) rfl
theorem kx_nsAR {G : kx_G} {σ : kx_S} {a b : Nat} {F : Nat → Option Nat} (h : b ≠ a) : kx_e G (xsAR σ a F) b = kx_e G σ b := kx_ec rfl (fun _ => rfl) (fun _ => rfl) (fun _ => rfl) rfl rfl rfl (va_up_ne _ _ h)
theorem kx_nnew {G : kx_G} {σ : kx_S} {a b tag : Nat} (h : b ≠ a) : kx_e G (xnew σ a tag) b = kx_e G σ b := kx_ec (va_up_ne _ _ h) (fun _ => va_up_ne _ _ h) (fun _ => va_up_ne _ _ h) (fun _ => va_up_ne _ _ h) rfl rfl rfl rfl
theorem kx_nnewA {G : kx_G} {σ : kx_S} {a b tag n : Nat} (h : b ≠ a) : kx_e G (xnewA σ a tag n) b = kx_e G σ b := kx_ec (va_up_ne _ _ h) (fun _ => rfl) (fun _ => rfl) (fun _ => rfl) (va_up_ne _ _ h) (va_up_ne _ _ h) (va_up_ne _ _ h) (va_up_ne _ _ h)
theorem kx_nbump {G : kx_G} {σ : kx_S} {b : Nat} : kx_e G (xbump σ) b = kx_e G σ b := kx_ec rfl (fun _ => rfl) (fun _ => rfl) (fun _ => rfl) rfl rfl rfl rfl
/-- the pool -/
def kx_P (G : kx_G) (σ : kx_S) (H : Heap) : Prop := ∃ L : List Nat, (∀ a, xt σ a ≠ 0 → a ∈ L) ∧ va_P G.1 vwCl (va_pl L (kx_e G σ)) H ∧ va_D (kx_A G) (va_pl L (kx_e G σ))
def kx_ty (G : kx_G) : List (ClassId × FieldType) := [(G.2.1, .int), (G.2.2.1, .long), (G.2.2.2.1, .object "java/lang/Object")]
/-- at most so many cells, of at most 600 slots in the mean -/
abbrev kx_N : Nat := 10000
def kx_tot (H : Heap) : Nat := H.foldl (fun n c => n + c.slots.size) 0
def kx_gr (k : Nat) (H0 H : Heap) : Prop := H.size ≤ H0.size + k ∧ kx_tot H ≤ kx_tot H0 + 600 * k
theorem kx_gr.trans {j k : Nat} {H0 H1 H2 : Heap} (h : kx_gr j H0 H1) (h' : kx_gr k H1 H2) : kx_gr (j + k) H0 H2 := ⟨by have := h.1; have := h'.1; omega, by have := h.2; have := h'.2; omega⟩
section
variable {p : Program} {l : Launch} {e : Env} {R : Room} {s : State} {m : MethodId} {args : Array Value} {below : List Frame} {meth : Method} {c : Code} {H : Heap} {locs : List Loc} {cells slots : Nat} {Q : State → Prop} {g : JFrame}
theorem kx_book {T : State} (h : T.slotsTrue = true) : T.slotsUsed = kx_tot T.heap := by
  unfold State.slotsTrue at h
  exact eq_of_beq h
theorem kx_stand {T : State} (X : Stand p l e R s m args below meth c T locs cells slots) : T.heap.size ≤ s.heap.size + cells ∧ kx_tot T.heap ≤ kx_tot s.heap + slots := by
  have h0 : s.slotsTrue = true := by
    have h := X.room
    simp only [State.hasRoom, Bool.and_eq_true] at h
    exact h.2
  refine ⟨X.heapSize, ?_⟩
  rw [← kx_book X.book, ← kx_book h0]
  exact X.used
theorem kx_standT {T : State} (X : Stand p l e R s m args below meth c T locs cells slots) {c' s' : Nat} (h1 : T.heap.size ≤ s.heap.size + c') (h2 : kx_tot T.heap ≤ kx_tot s.heap + s') : Stand p l e R s m args below meth c T locs c' s' := by
  have h0 : s.slotsTrue = true := by
    have h := X.room
    simp only [State.hasRoom, Bool.and_eq_true] at h
    exact h.2
  rw [← kx_book X.book, ← kx_book h0] at h2
  obtain ⟨e1, e2, -, e4, -, e6⟩ := X.same
  have e4' : T.slotsUsed = s.slotsUsed + (((T.setVm s.vm).heap.toList.drop s.heap.size).map (·.slots.size)).sum := e4
  exact { X with same := ⟨e1, e2, h1, e4, by omega, e6⟩ }
/-- what the room says of the heap -/
theorem kx_learn (k : kx_gr cells s.heap H → W p l e R s m args below meth c H locs cells (600 * cells) Q g) : W p l e R s m args below meth c H locs cells (600 * cells) Q g := by
  intro T hT X
  have h := kx_stand X
  rw [hT] at h
  exact k h T hT X
theorem kx_tight {c' : Nat} (h : kx_gr c' s.heap H) (k : W p l e R s m args below meth c H locs c' (600 * c') Q g) : W p l e R s m args below meth c H locs cells slots Q g := by
  intro T hT X
  rw [← hT] at h
  exact k T hT (kx_standT X h.1 h.2)
end

