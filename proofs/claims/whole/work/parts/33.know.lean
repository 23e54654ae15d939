/-! WHAT THE TABLES SAY AT THE LAW'S ENTRY -/
theorem kK_ex {s : State} {args : Array Value} (hts : ∀ w ∈ lw_tbl, w.before args s = true) : ∃ (D : va_G) (G : Nat → ClassId), va_K D vwCl (kty G) s := by
  obtain ⟨c0, i0, h0⟩ := u_known hts inX0 (hts _ tn_X0)
  obtain ⟨c1, i1, h1⟩ := u_known hts inX1 (hts _ tn_X1)
  obtain ⟨c2, i2, h2⟩ := u_known hts inX2 (hts _ tn_X2)
  obtain ⟨c3, i3, h3⟩ := u_known hts inX3 (hts _ tn_X3)
  obtain ⟨c4, i4, h4⟩ := u_known hts inX4 (hts _ tn_X4)
  obtain ⟨aI, kI, qI, fI, gI, eI⟩ := Cond.arrayClass_spec (hts _ ta_int)
  obtain ⟨aB, kB', qB, fB, gB, eB⟩ := Cond.arrayClass_spec (hts _ ta_boolean)
  obtain ⟨p0, a0, k0', x0, -, y0, z0, w0⟩ := Cond.arrayOver_spec (hts _ to_X0)
  obtain ⟨p1, a1, k1', x1, -, y1, z1, w1⟩ := Cond.arrayOver_spec (hts _ to_X1)
  obtain ⟨p2, a2, k2', x2, -, y2, z2, w2⟩ := Cond.arrayOver_spec (hts _ to_X2)
  refine ⟨(fun c => match c with | 0 => c0 | 1 => c1 | 2 => c2 | 3 => c3 | _ => c4, fun c => match c with | 0 => i0 | 1 => i1 | 2 => i2 | 3 => i3 | _ => i4), (fun c => match c with | 0 => aI | 1 => aB | 2 => a0 | 3 => a1 | _ => a2), fun c q hq => ?_, fun k q hq => ?_⟩
  · match c, hq with
    | 0, hq => cases hq; exact h0
    | 1, hq => cases hq; exact h1
    | 2, hq => cases hq; exact h2
    | 3, hq => cases hq; exact h3
    | 4, hq => cases hq; exact h4
    | c + 5, hq => cases hq
  · match k, hq with
    | 0, hq => cases hq; exact ⟨fun N z => ⟨(fun k h => by cases h), kI, gI, qI, eI⟩, fI⟩
    | 1, hq => cases hq; exact ⟨fun N z => ⟨(fun k h => by cases h), kB', gB, qB, eB⟩, fB⟩
    | 2, hq => cases hq; exact ⟨fun N z => ⟨(fun k h => by cases h), k0', y0, p0, z0⟩, ⟨k0', p0, y0, z0, x0, w0⟩⟩
    | 3, hq => cases hq; exact ⟨fun N z => ⟨(fun k h => by cases h), k1', y1, p1, z1⟩, ⟨k1', p1, y1, z1, x1, w1⟩⟩
    | 4, hq => cases hq; exact ⟨fun N z => ⟨(fun k h => by cases h), k2', y2, p2, z2⟩, ⟨k2', p2, y2, z2, x2, w2⟩⟩
    | k + 5, hq => cases hq
theorem kNs_of {s : State} {args : Array Value} (hts : ∀ w ∈ lw_tbl, w.before args s = true) : kNs s := fun w hw h => va_Nw.of (by unfold kIsN at h; cases w <;> simp_all [Cond.onTables]) (hts w hw)
