/-! a stretch of a method's code is decoded as the whole is -/
def ds_S (c d : ByteArray) (k : Nat) {α : Type} (r r' : Jvm.ClassFile.Decoder α) : Prop := ∀ (q : Nat) (a : α) (q' : Nat), Jvm.ClassFile.Reader.runAt r' d q = .ok (a, q') → Jvm.ClassFile.Reader.runAt r c (k + q) = .ok (a, k + q')
def ds_V (c d : ByteArray) (k : Nat) : Prop := ∀ (j : Nat) (h : j < d.size), ∃ h' : k + j < c.size, c[k + j]'h' = d[j]'h
theorem ds_bind {α β : Type} (r : Jvm.ClassFile.Decoder α) (f : α → Jvm.ClassFile.Decoder β) (d : ByteArray) (q : Nat) : Jvm.ClassFile.Reader.runAt (r >>= f) d q = (Jvm.ClassFile.Reader.runAt r d q).bind (fun p => Jvm.ClassFile.Reader.runAt (f p.1) d p.2) := rfl
theorem ds_map {α β : Type} (r : Jvm.ClassFile.Decoder α) (f : α → β) (d : ByteArray) (q : Nat) : Jvm.ClassFile.Reader.runAt (f <$> r) d q = (Jvm.ClassFile.Reader.runAt r d q).bind (fun p => .ok (f p.1, p.2)) := rfl
theorem ds_u1e (d : ByteArray) (q : Nat) : Jvm.ClassFile.Reader.runAt (Jvm.ClassFile.Reader.u1 : Jvm.ClassFile.Decoder Nat) d q = (if h : q < d.size then (do set (q + 1); pure (d[q]'h).toNat : Jvm.ClassFile.Decoder Nat) else throw (Jvm.ClassFile.HasTruncated.truncated q)) d q := rfl
theorem ds_u1 {d : ByteArray} {q : Nat} (h : q < d.size) : Jvm.ClassFile.Reader.runAt (Jvm.ClassFile.Reader.u1 : Jvm.ClassFile.Decoder Nat) d q = .ok ((d[q]'h).toNat, q + 1) := by
  rw [ds_u1e, dif_pos h]
  rfl
theorem ds_u1n {d : ByteArray} {q : Nat} (h : ¬ q < d.size) : Jvm.ClassFile.Reader.runAt (Jvm.ClassFile.Reader.u1 : Jvm.ClassFile.Decoder Nat) d q = .error (Jvm.ClassFile.HasTruncated.truncated q) := by
  rw [ds_u1e, dif_neg h]
  rfl
theorem ds_S.pure {c d : ByteArray} {k : Nat} {α : Type} (x : α) : ds_S c d k (Pure.pure x) (Pure.pure x) := fun q a q' h => by
  have h : (Except.ok (x, q) : Except Jvm.ClassFile.DecodeError (α × Nat)) = .ok (a, q') := h
  obtain ⟨rfl, rfl⟩ := Prod.mk.inj (Except.ok.inj h)
  rfl
theorem ds_S.bind {c d : ByteArray} {k : Nat} {α β : Type} {r r' : Jvm.ClassFile.Decoder α} {f f' : α → Jvm.ClassFile.Decoder β} (h1 : ds_S c d k r r') (h2 : ∀ x : α, ds_S c d k (f x) (f' x)) : ds_S c d k (r >>= f) (r' >>= f') := fun q b q' h => by
  rw [ds_bind] at h ⊢
  cases e : Jvm.ClassFile.Reader.runAt r' d q with
  | error x => rw [e] at h; cases h
  | ok p =>
    obtain ⟨x, q1⟩ := p
    rw [e] at h
    rw [h1 q x q1 e]
    exact h2 x q1 b q' h
theorem ds_S.map {c d : ByteArray} {k : Nat} {α β : Type} {r r' : Jvm.ClassFile.Decoder α} (f : α → β) (h1 : ds_S c d k r r') : ds_S c d k (f <$> r) (f <$> r') := fun q b q' h => by
  rw [ds_map] at h ⊢
  cases e : Jvm.ClassFile.Reader.runAt r' d q with
  | error x => rw [e] at h; cases h
  | ok p =>
    obtain ⟨x, q1⟩ := p
    rw [e] at h
    rw [h1 q x q1 e]
    have h : (Except.ok (f x, q1) : Except Jvm.ClassFile.DecodeError (β × Nat)) = .ok (b, q') := h
    obtain ⟨rfl, rfl⟩ := Prod.mk.inj (Except.ok.inj h)
    rfl
section DSH
variable {c d : ByteArray} {k : Nat}
theorem ds_S.u1 (v : ds_V c d k) : ds_S c d k (Jvm.ClassFile.Reader.u1 : Jvm.ClassFile.Decoder Nat) Jvm.ClassFile.Reader.u1 := fun q a q' h => by
  by_cases hq : q < d.size
  · rw [ds_u1 hq] at h
    obtain ⟨h', e⟩ := v q hq
    rw [ds_u1 h', e]
    obtain ⟨rfl, rfl⟩ := Prod.mk.inj (Except.ok.inj h)
    rfl
  · rw [ds_u1n hq] at h; cases h
theorem ds_S.u2 (v : ds_V c d k) : ds_S c d k (Jvm.ClassFile.Reader.u2 : Jvm.ClassFile.Decoder Nat) Jvm.ClassFile.Reader.u2 := ds_S.bind (ds_S.u1 v) (fun _ => ds_S.bind (ds_S.u1 v) (fun _ => ds_S.pure _))
theorem ds_S.s1 (v : ds_V c d k) : ds_S c d k (Jvm.ClassFile.Reader.s1 : Jvm.ClassFile.Decoder Int) Jvm.ClassFile.Reader.s1 := ds_S.map _ (ds_S.u1 v)
theorem ds_S.s2 (v : ds_V c d k) : ds_S c d k (Jvm.ClassFile.Reader.s2 : Jvm.ClassFile.Decoder Int) Jvm.ClassFile.Reader.s2 := ds_S.map _ (ds_S.u2 v)
end DSH
theorem ds_at (c : ByteArray) (k : Nat) (B : List UInt8) (hB : (c.data.toList.drop k).take B.length = B) : ds_V c (.mk B.toArray) k := by
  intro j h
  have hj : j < B.length := by
    have z : (ByteArray.mk B.toArray).size = B.length := by show B.toArray.size = _; simp
    omega
  have e0 := congrArg (fun l : List UInt8 => l[j]?) hB
  have e : c.data.toList[k + j]? = some B[j] := by
    have e1 : ((c.data.toList.drop k).take B.length)[j]? = B[j]? := e0
    rw [List.getElem?_take_of_lt hj, List.getElem?_drop] at e1
    rw [e1, List.getElem?_eq_getElem hj]
  obtain ⟨h1, h2⟩ := List.getElem?_eq_some_iff.mp e
  refine ⟨by show k + j < c.data.size; simpa using h1, ?_⟩
  show c.data[k + j] = B.toArray[j]
  rw [← Array.getElem_toList, h2]
  simp
abbrev ds_ops : List Nat := [42, 182, 28, 180, 167, 43, 21, 3, 4, 27, 29, 87, 16, 7, 1, 2, 5, 6, 8, 9, 10, 17, 18, 19, 20, 22, 25, 26, 30, 31, 32, 33, 44, 45, 46, 47, 50, 51, 54, 55, 58, 59, 60, 61, 62, 63, 64, 65, 66, 75, 76, 77, 78, 79, 80, 83, 84, 88, 89, 90, 92, 96, 97, 100, 101, 104, 105, 108, 109, 112, 113, 116, 117, 120, 122, 124, 126, 128, 130, 132, 133, 136, 145, 146, 147, 148, 153, 154, 155, 156, 157, 158, 159, 160, 161, 162, 163, 164, 165, 166, 172, 173, 176, 177, 178, 179, 181, 183, 184, 187, 189, 190, 191, 192, 193, 198, 199]
theorem ds_first {α β : Type} {c d : ByteArray} {k : Nat} (v : ds_V c d k) {f f' : Nat → Jvm.ClassFile.Decoder β} {q : Nat} (hq : q < d.size) (hf : ds_S c d k (f (d[q]'hq).toNat) (f' (d[q]'hq).toNat)) {a : β} {q' : Nat} (h : Jvm.ClassFile.Reader.runAt (Jvm.ClassFile.Reader.u1 >>= f') d q = .ok (a, q')) : Jvm.ClassFile.Reader.runAt (Jvm.ClassFile.Reader.u1 >>= f) c (k + q) = .ok (a, k + q') := by
  obtain ⟨h', e⟩ := v q hq
  rw [ds_bind, ds_u1 hq] at h
  rw [ds_bind, ds_u1 h', e]
  exact hf (q + 1) a q' h
set_option maxHeartbeats 4000000 in
set_option maxRecDepth 100000 in
theorem ds_instr {c d : ByteArray} {k : Nat} (v : ds_V c d k) {q : Nat} (hq : q < d.size) (ho : (d[q]'hq).toNat ∈ ds_ops) (i : Jvm.ClassFile.Instr) (q' : Nat) (hh : Jvm.ClassFile.Reader.runAt (Jvm.ClassFile.Decoder.instr q) d q = .ok (i, q')) : Jvm.ClassFile.Reader.runAt (Jvm.ClassFile.Decoder.instr (k + q)) c (k + q) = .ok (i, k + q') := by
  refine ds_first (α := Nat) v hq ?_ hh
  generalize (d[q]'hq).toNat = x at ho
  simp only [ds_ops, List.mem_cons, List.not_mem_nil, or_false] at ho
  rcases ho with rfl | rfl | rfl | rfl | rfl | rfl | rfl | rfl | rfl | rfl | rfl | rfl | rfl | rfl | rfl | rfl | rfl | rfl | rfl | rfl | rfl | rfl | rfl | rfl | rfl | rfl | rfl | rfl | rfl | rfl | rfl | rfl | rfl | rfl | rfl | rfl | rfl | rfl | rfl | rfl | rfl | rfl | rfl | rfl | rfl | rfl | rfl | rfl | rfl | rfl | rfl | rfl | rfl | rfl | rfl | rfl | rfl | rfl | rfl | rfl | rfl | rfl | rfl | rfl | rfl | rfl | rfl | rfl | rfl | rfl | rfl | rfl | rfl | rfl | rfl | rfl | rfl | rfl | rfl | rfl | rfl | rfl | rfl | rfl | rfl | rfl | rfl | rfl | rfl | rfl | rfl | rfl | rfl | rfl | rfl | rfl | rfl | rfl | rfl | rfl | rfl | rfl | rfl | rfl | rfl | rfl | rfl | rfl | rfl | rfl | rfl | rfl | rfl | rfl | rfl | rfl | rfl
  · exact ds_S.pure _
  · exact ds_S.bind (ds_S.u2 v) (fun _ => ds_S.pure _)
  · exact ds_S.pure _
  · exact ds_S.bind (ds_S.u2 v) (fun _ => ds_S.pure _)
  · exact ds_S.bind (ds_S.s2 v) (fun _ => ds_S.pure _)
  · exact ds_S.pure _
  · exact ds_S.bind (ds_S.u1 v) (fun _ => ds_S.pure _)
  · exact ds_S.pure _
  · exact ds_S.pure _
  · exact ds_S.pure _
  · exact ds_S.pure _
  · exact ds_S.pure _
  · exact ds_S.bind (ds_S.s1 v) (fun _ => ds_S.pure _)
  · exact ds_S.pure _
  · exact ds_S.pure _
  · exact ds_S.pure _
  · exact ds_S.pure _
  · exact ds_S.pure _
  · exact ds_S.pure _
  · exact ds_S.pure _
  · exact ds_S.pure _
  · exact ds_S.bind (ds_S.s2 v) (fun _ => ds_S.pure _)
  · exact ds_S.bind (ds_S.u1 v) (fun _ => ds_S.pure _)
  · exact ds_S.bind (ds_S.u2 v) (fun _ => ds_S.pure _)
  · exact ds_S.bind (ds_S.u2 v) (fun _ => ds_S.pure _)
  · exact ds_S.bind (ds_S.u1 v) (fun _ => ds_S.pure _)
  · exact ds_S.bind (ds_S.u1 v) (fun _ => ds_S.pure _)
  · exact ds_S.pure _
  · exact ds_S.pure _
  · exact ds_S.pure _
  · exact ds_S.pure _
  · exact ds_S.pure _
  · exact ds_S.pure _
  · exact ds_S.pure _
  · exact ds_S.pure _
  · exact ds_S.pure _
  · exact ds_S.pure _
  · exact ds_S.pure _
  · exact ds_S.bind (ds_S.u1 v) (fun _ => ds_S.pure _)
  · exact ds_S.bind (ds_S.u1 v) (fun _ => ds_S.pure _)
  · exact ds_S.bind (ds_S.u1 v) (fun _ => ds_S.pure _)
  · exact ds_S.pure _
  · exact ds_S.pure _
  · exact ds_S.pure _
  · exact ds_S.pure _
  · exact ds_S.pure _
  · exact ds_S.pure _
  · exact ds_S.pure _
  · exact ds_S.pure _
  · exact ds_S.pure _
  · exact ds_S.pure _
  · exact ds_S.pure _
  · exact ds_S.pure _
  · exact ds_S.pure _
  · exact ds_S.pure _
  · exact ds_S.pure _
  · exact ds_S.pure _
  · exact ds_S.pure _
  · exact ds_S.pure _
  · exact ds_S.pure _
  · exact ds_S.pure _
  · exact ds_S.pure _
  · exact ds_S.pure _
  · exact ds_S.pure _
  · exact ds_S.pure _
  · exact ds_S.pure _
  · exact ds_S.pure _
  · exact ds_S.pure _
  · exact ds_S.pure _
  · exact ds_S.pure _
  · exact ds_S.pure _
  · exact ds_S.pure _
  · exact ds_S.pure _
  · exact ds_S.pure _
  · exact ds_S.pure _
  · exact ds_S.pure _
  · exact ds_S.pure _
  · exact ds_S.pure _
  · exact ds_S.pure _
  · exact ds_S.bind (ds_S.u1 v) (fun _ => ds_S.bind (ds_S.s1 v) (fun _ => ds_S.pure _))
  · exact ds_S.pure _
  · exact ds_S.pure _
  · exact ds_S.pure _
  · exact ds_S.pure _
  · exact ds_S.pure _
  · exact ds_S.pure _
  · exact ds_S.bind (ds_S.s2 v) (fun _ => ds_S.pure _)
  · exact ds_S.bind (ds_S.s2 v) (fun _ => ds_S.pure _)
  · exact ds_S.bind (ds_S.s2 v) (fun _ => ds_S.pure _)
  · exact ds_S.bind (ds_S.s2 v) (fun _ => ds_S.pure _)
  · exact ds_S.bind (ds_S.s2 v) (fun _ => ds_S.pure _)
  · exact ds_S.bind (ds_S.s2 v) (fun _ => ds_S.pure _)
  · exact ds_S.bind (ds_S.s2 v) (fun _ => ds_S.pure _)
  · exact ds_S.bind (ds_S.s2 v) (fun _ => ds_S.pure _)
  · exact ds_S.bind (ds_S.s2 v) (fun _ => ds_S.pure _)
  · exact ds_S.bind (ds_S.s2 v) (fun _ => ds_S.pure _)
  · exact ds_S.bind (ds_S.s2 v) (fun _ => ds_S.pure _)
  · exact ds_S.bind (ds_S.s2 v) (fun _ => ds_S.pure _)
  · exact ds_S.bind (ds_S.s2 v) (fun _ => ds_S.pure _)
  · exact ds_S.bind (ds_S.s2 v) (fun _ => ds_S.pure _)
  · exact ds_S.pure _
  · exact ds_S.pure _
  · exact ds_S.pure _
  · exact ds_S.pure _
  · exact ds_S.bind (ds_S.u2 v) (fun _ => ds_S.pure _)
  · exact ds_S.bind (ds_S.u2 v) (fun _ => ds_S.pure _)
  · exact ds_S.bind (ds_S.u2 v) (fun _ => ds_S.pure _)
  · exact ds_S.bind (ds_S.u2 v) (fun _ => ds_S.pure _)
  · exact ds_S.bind (ds_S.u2 v) (fun _ => ds_S.pure _)
  · exact ds_S.bind (ds_S.u2 v) (fun _ => ds_S.pure _)
  · exact ds_S.bind (ds_S.u2 v) (fun _ => ds_S.pure _)
  · exact ds_S.pure _
  · exact ds_S.pure _
  · exact ds_S.bind (ds_S.u2 v) (fun _ => ds_S.pure _)
  · exact ds_S.bind (ds_S.u2 v) (fun _ => ds_S.pure _)
  · exact ds_S.bind (ds_S.s2 v) (fun _ => ds_S.pure _)
  · exact ds_S.bind (ds_S.s2 v) (fun _ => ds_S.pure _)
theorem ds_dec {c d : ByteArray} {k : Nat} (v : ds_V c d k) {q : Nat} (hq : q < d.size) (ho : (d[q]'hq).toNat ∈ ds_ops) {i : Jvm.ClassFile.Instr} {n : Nat} (h : decode d q = .ok (i, n)) : decode c (k + q) = .ok (i, n) := by
  have e1 : decode d q = (Jvm.ClassFile.Reader.runAt (Jvm.ClassFile.Decoder.instr q) d q).bind (fun p => .ok (p.1, p.2 - q)) := rfl
  have e2 : decode c (k + q) = (Jvm.ClassFile.Reader.runAt (Jvm.ClassFile.Decoder.instr (k + q)) c (k + q)).bind (fun p => .ok (p.1, p.2 - (k + q))) := rfl
  rw [e1] at h
  rw [e2]
  cases e : Jvm.ClassFile.Reader.runAt (Jvm.ClassFile.Decoder.instr q) d q with
  | error x => rw [e] at h; cases h
  | ok p =>
    obtain ⟨x, q1⟩ := p
    rw [e] at h
    have h : (Except.ok (x, q1 - q) : Except Jvm.ClassFile.DecodeError (Jvm.ClassFile.Instr × Nat)) = .ok (i, n) := h
    obtain ⟨rfl, rfl⟩ := Prod.mk.inj (Except.ok.inj h)
    rw [ds_instr v hq ho x q1 e]
    show (Except.ok (x, k + q1 - (k + q)) : Except Jvm.ClassFile.DecodeError (Jvm.ClassFile.Instr × Nat)) = _
    rw [Nat.add_sub_add_left]
def ds_all (d : ByteArray) : List (Nat × Jvm.ClassFile.Instr × Nat) → Bool
  | [] => true
  | r :: rs => decide (decode d r.1 = .ok (r.2.1, r.2.2)) && (match d.data.toList[r.1]? with | some b => decide (b.toNat ∈ ds_ops) | none => false) && ds_all d rs
theorem ds_get {d : ByteArray} : ∀ {rows : List (Nat × Jvm.ClassFile.Instr × Nat)} (j : Nat) {r : Nat × Jvm.ClassFile.Instr × Nat}, ds_all d rows = true → rows[j]? = some r → decide (decode d r.1 = .ok (r.2.1, r.2.2)) = true ∧ (match d.data.toList[r.1]? with | some b => decide (b.toNat ∈ ds_ops) | none => false) = true := by
  intro rows
  induction rows with
  | nil => intro j r _ h; cases h
  | cons a rs ih =>
    intro j r ha h
    unfold ds_all at ha
    rw [Bool.and_eq_true, Bool.and_eq_true] at ha
    cases j with
    | zero =>
      have e : a = r := Option.some.inj h
      rw [← e]
      exact ha.1
    | succ j => exact ih j ha.2 h
theorem ds_row {c : ByteArray} {B : List UInt8} {k : Nat} {rows : List (Nat × Jvm.ClassFile.Instr × Nat)} (v : ds_V c (.mk B.toArray) k) (h : ds_all (.mk B.toArray) rows = true) (j : Nat) {q n : Nat} {i : Jvm.ClassFile.Instr} (e : rows[j]? = some (q, i, n)) : decode c (k + q) = .ok (i, n) := by
  obtain ⟨h1, h2⟩ := ds_get j h e
  have hl : (ByteArray.mk B.toArray).data.toList = B := rfl
  rw [hl] at h2
  by_cases hq : q < B.length
  · rw [List.getElem?_eq_getElem hq] at h2
    have hs : q < (ByteArray.mk B.toArray).size := by show q < B.toArray.size; simpa using hq
    have hb : (ByteArray.mk B.toArray)[q]'hs = B[q] := by show B.toArray[q] = B[q]; simp
    exact ds_dec v hs (by rw [hb]; exact of_decide_eq_true h2) (of_decide_eq_true h1)
  · rw [List.getElem?_eq_none (by omega)] at h2
    exact absurd h2 (by decide)
