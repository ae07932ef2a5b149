/-! the class covers an open absence -/
theorem x_coverOpen_75 {S : ST} {a p w : Nat} (ha : a < 30) (hp : p < 8) (hw8 : w < 8) (hw : ST_absentees S a = z32 w) : ∃ B', f_X1_coverOpen_75 S (z32 a) (z32 p) = some (z32 1, sST_bids (sST_meters (sST_covering (sST_coverers S (upd (ST_coverers S) a (z32 p))) (vp_updL (ST_covering S) p (ST_covering S p ||| ((1 : Int64) <<< ((ST_shifts S a).toInt64 &&& 63))))) (upd (upd (ST_meters S) p (ST_meters S p + ST_points S a)) w (upd (ST_meters S) p (ST_meters S p + ST_points S a) w - ST_points S a))) B') ∧ ∀ i, B' i = if 8 * a ≤ i ∧ i < 8 * a + 8 then z32 (-1) else ST_bids S i := by
  obtain ⟨B', h1, h2⟩ := x_dropBids (S := sST_meters (sST_covering (sST_coverers S (upd (ST_coverers S) a (z32 p))) (vp_updL (ST_covering S) p (ST_covering S p ||| ((1 : Int64) <<< ((ST_shifts S a).toInt64 &&& 63))))) (upd (upd (ST_meters S) p (ST_meters S p + ST_points S a)) w (upd (ST_meters S) p (ST_meters S p + ST_points S a) w - ST_points S a))) ha
  refine ⟨B', ?_, h2⟩
  have e1 : ∀ (T : ST) (v : Nat → Int32), ST_absentees (sST_meters T v) = ST_absentees T := fun _ _ => rfl
  have e2 : ∀ (T : ST) (v : Nat → Int64), ST_absentees (sST_covering T v) = ST_absentees T := fun _ _ => rfl
  have e3 : ∀ (T : ST) (v : Nat → Int32), ST_absentees (sST_coverers T v) = ST_absentees T := fun _ _ => rfl
  unfold f_X1_coverOpen_75
  simp (disch := omega) only [z_in, if_true, z_lets, z32_clamp, Int.toNat_natCast, e1, e2, e3, hw]
  exact (congrArg (fun o : Option ST => o.bind fun r => some ((1 : Int32), r)) h1 : _)
