/-! a field behind the writing of another one -/
theorem kc_settings_handedOver (T : ST) (v : Int32) : ST_settings (sST_handedOver T v) = ST_settings T := rfl
theorem kc_settings_persons (T : ST) (v : Int32) : ST_settings (sST_persons T v) = ST_settings T := rfl
theorem kc_settings_rosters (T : ST) (v : Nat → Int64) : ST_settings (sST_rosters T v) = ST_settings T := rfl
theorem kc_settings_away (T : ST) (v : Nat → Int64) : ST_settings (sST_away T v) = ST_settings T := rfl
theorem kc_settings_covering (T : ST) (v : Nat → Int64) : ST_settings (sST_covering T v) = ST_settings T := rfl
theorem kc_settings_meters (T : ST) (v : Nat → Int32) : ST_settings (sST_meters T v) = ST_settings T := rfl
theorem kc_settings_turns (T : ST) (v : Nat → Int32) : ST_settings (sST_turns T v) = ST_settings T := rfl
theorem kc_settings_absences (T : ST) (v : Int32) : ST_settings (sST_absences T v) = ST_settings T := rfl
theorem kc_settings_absentees (T : ST) (v : Nat → Int32) : ST_settings (sST_absentees T v) = ST_settings T := rfl
theorem kc_settings_shifts (T : ST) (v : Nat → Int32) : ST_settings (sST_shifts T v) = ST_settings T := rfl
theorem kc_settings_statuses (T : ST) (v : Nat → Int32) : ST_settings (sST_statuses T v) = ST_settings T := rfl
theorem kc_settings_coverers (T : ST) (v : Nat → Int32) : ST_settings (sST_coverers T v) = ST_settings T := rfl
theorem kc_settings_points (T : ST) (v : Nat → Int32) : ST_settings (sST_points T v) = ST_settings T := rfl
theorem kc_settings_bids (T : ST) (v : Nat → Int32) : ST_settings (sST_bids T v) = ST_settings T := rfl
theorem kc_handedOver_settings (T : ST) (v : Nat → Int32) : ST_handedOver (sST_settings T v) = ST_handedOver T := rfl
theorem kc_handedOver_persons (T : ST) (v : Int32) : ST_handedOver (sST_persons T v) = ST_handedOver T := rfl
theorem kc_handedOver_rosters (T : ST) (v : Nat → Int64) : ST_handedOver (sST_rosters T v) = ST_handedOver T := rfl
theorem kc_handedOver_away (T : ST) (v : Nat → Int64) : ST_handedOver (sST_away T v) = ST_handedOver T := rfl
theorem kc_handedOver_covering (T : ST) (v : Nat → Int64) : ST_handedOver (sST_covering T v) = ST_handedOver T := rfl
theorem kc_handedOver_meters (T : ST) (v : Nat → Int32) : ST_handedOver (sST_meters T v) = ST_handedOver T := rfl
theorem kc_handedOver_turns (T : ST) (v : Nat → Int32) : ST_handedOver (sST_turns T v) = ST_handedOver T := rfl
theorem kc_handedOver_absences (T : ST) (v : Int32) : ST_handedOver (sST_absences T v) = ST_handedOver T := rfl
theorem kc_handedOver_absentees (T : ST) (v : Nat → Int32) : ST_handedOver (sST_absentees T v) = ST_handedOver T := rfl
theorem kc_handedOver_shifts (T : ST) (v : Nat → Int32) : ST_handedOver (sST_shifts T v) = ST_handedOver T := rfl
theorem kc_handedOver_statuses (T : ST) (v : Nat → Int32) : ST_handedOver (sST_statuses T v) = ST_handedOver T := rfl
theorem kc_handedOver_coverers (T : ST) (v : Nat → Int32) : ST_handedOver (sST_coverers T v) = ST_handedOver T := rfl
theorem kc_handedOver_points (T : ST) (v : Nat → Int32) : ST_handedOver (sST_points T v) = ST_handedOver T := rfl
theorem kc_handedOver_bids (T : ST) (v : Nat → Int32) : ST_handedOver (sST_bids T v) = ST_handedOver T := rfl
theorem kc_persons_settings (T : ST) (v : Nat → Int32) : ST_persons (sST_settings T v) = ST_persons T := rfl
theorem kc_persons_handedOver (T : ST) (v : Int32) : ST_persons (sST_handedOver T v) = ST_persons T := rfl
theorem kc_persons_rosters (T : ST) (v : Nat → Int64) : ST_persons (sST_rosters T v) = ST_persons T := rfl
theorem kc_persons_away (T : ST) (v : Nat → Int64) : ST_persons (sST_away T v) = ST_persons T := rfl
theorem kc_persons_covering (T : ST) (v : Nat → Int64) : ST_persons (sST_covering T v) = ST_persons T := rfl
theorem kc_persons_meters (T : ST) (v : Nat → Int32) : ST_persons (sST_meters T v) = ST_persons T := rfl
theorem kc_persons_turns (T : ST) (v : Nat → Int32) : ST_persons (sST_turns T v) = ST_persons T := rfl
theorem kc_persons_absences (T : ST) (v : Int32) : ST_persons (sST_absences T v) = ST_persons T := rfl
theorem kc_persons_absentees (T : ST) (v : Nat → Int32) : ST_persons (sST_absentees T v) = ST_persons T := rfl
theorem kc_persons_shifts (T : ST) (v : Nat → Int32) : ST_persons (sST_shifts T v) = ST_persons T := rfl
theorem kc_persons_statuses (T : ST) (v : Nat → Int32) : ST_persons (sST_statuses T v) = ST_persons T := rfl
theorem kc_persons_coverers (T : ST) (v : Nat → Int32) : ST_persons (sST_coverers T v) = ST_persons T := rfl
theorem kc_persons_points (T : ST) (v : Nat → Int32) : ST_persons (sST_points T v) = ST_persons T := rfl
theorem kc_persons_bids (T : ST) (v : Nat → Int32) : ST_persons (sST_bids T v) = ST_persons T := rfl
theorem kc_rosters_settings (T : ST) (v : Nat → Int32) : ST_rosters (sST_settings T v) = ST_rosters T := rfl
theorem kc_rosters_handedOver (T : ST) (v : Int32) : ST_rosters (sST_handedOver T v) = ST_rosters T := rfl
theorem kc_rosters_persons (T : ST) (v : Int32) : ST_rosters (sST_persons T v) = ST_rosters T := rfl
theorem kc_rosters_away (T : ST) (v : Nat → Int64) : ST_rosters (sST_away T v) = ST_rosters T := rfl
theorem kc_rosters_covering (T : ST) (v : Nat → Int64) : ST_rosters (sST_covering T v) = ST_rosters T := rfl
theorem kc_rosters_meters (T : ST) (v : Nat → Int32) : ST_rosters (sST_meters T v) = ST_rosters T := rfl
theorem kc_rosters_turns (T : ST) (v : Nat → Int32) : ST_rosters (sST_turns T v) = ST_rosters T := rfl
theorem kc_rosters_absences (T : ST) (v : Int32) : ST_rosters (sST_absences T v) = ST_rosters T := rfl
theorem kc_rosters_absentees (T : ST) (v : Nat → Int32) : ST_rosters (sST_absentees T v) = ST_rosters T := rfl
theorem kc_rosters_shifts (T : ST) (v : Nat → Int32) : ST_rosters (sST_shifts T v) = ST_rosters T := rfl
theorem kc_rosters_statuses (T : ST) (v : Nat → Int32) : ST_rosters (sST_statuses T v) = ST_rosters T := rfl
theorem kc_rosters_coverers (T : ST) (v : Nat → Int32) : ST_rosters (sST_coverers T v) = ST_rosters T := rfl
theorem kc_rosters_points (T : ST) (v : Nat → Int32) : ST_rosters (sST_points T v) = ST_rosters T := rfl
theorem kc_rosters_bids (T : ST) (v : Nat → Int32) : ST_rosters (sST_bids T v) = ST_rosters T := rfl
theorem kc_away_settings (T : ST) (v : Nat → Int32) : ST_away (sST_settings T v) = ST_away T := rfl
theorem kc_away_handedOver (T : ST) (v : Int32) : ST_away (sST_handedOver T v) = ST_away T := rfl
theorem kc_away_persons (T : ST) (v : Int32) : ST_away (sST_persons T v) = ST_away T := rfl
theorem kc_away_rosters (T : ST) (v : Nat → Int64) : ST_away (sST_rosters T v) = ST_away T := rfl
theorem kc_away_covering (T : ST) (v : Nat → Int64) : ST_away (sST_covering T v) = ST_away T := rfl
theorem kc_away_meters (T : ST) (v : Nat → Int32) : ST_away (sST_meters T v) = ST_away T := rfl
theorem kc_away_turns (T : ST) (v : Nat → Int32) : ST_away (sST_turns T v) = ST_away T := rfl
theorem kc_away_absences (T : ST) (v : Int32) : ST_away (sST_absences T v) = ST_away T := rfl
theorem kc_away_absentees (T : ST) (v : Nat → Int32) : ST_away (sST_absentees T v) = ST_away T := rfl
theorem kc_away_shifts (T : ST) (v : Nat → Int32) : ST_away (sST_shifts T v) = ST_away T := rfl
theorem kc_away_statuses (T : ST) (v : Nat → Int32) : ST_away (sST_statuses T v) = ST_away T := rfl
theorem kc_away_coverers (T : ST) (v : Nat → Int32) : ST_away (sST_coverers T v) = ST_away T := rfl
theorem kc_away_points (T : ST) (v : Nat → Int32) : ST_away (sST_points T v) = ST_away T := rfl
theorem kc_away_bids (T : ST) (v : Nat → Int32) : ST_away (sST_bids T v) = ST_away T := rfl
theorem kc_covering_settings (T : ST) (v : Nat → Int32) : ST_covering (sST_settings T v) = ST_covering T := rfl
theorem kc_covering_handedOver (T : ST) (v : Int32) : ST_covering (sST_handedOver T v) = ST_covering T := rfl
theorem kc_covering_persons (T : ST) (v : Int32) : ST_covering (sST_persons T v) = ST_covering T := rfl
theorem kc_covering_rosters (T : ST) (v : Nat → Int64) : ST_covering (sST_rosters T v) = ST_covering T := rfl
theorem kc_covering_away (T : ST) (v : Nat → Int64) : ST_covering (sST_away T v) = ST_covering T := rfl
theorem kc_covering_meters (T : ST) (v : Nat → Int32) : ST_covering (sST_meters T v) = ST_covering T := rfl
theorem kc_covering_turns (T : ST) (v : Nat → Int32) : ST_covering (sST_turns T v) = ST_covering T := rfl
theorem kc_covering_absences (T : ST) (v : Int32) : ST_covering (sST_absences T v) = ST_covering T := rfl
theorem kc_covering_absentees (T : ST) (v : Nat → Int32) : ST_covering (sST_absentees T v) = ST_covering T := rfl
theorem kc_covering_shifts (T : ST) (v : Nat → Int32) : ST_covering (sST_shifts T v) = ST_covering T := rfl
theorem kc_covering_statuses (T : ST) (v : Nat → Int32) : ST_covering (sST_statuses T v) = ST_covering T := rfl
theorem kc_covering_coverers (T : ST) (v : Nat → Int32) : ST_covering (sST_coverers T v) = ST_covering T := rfl
theorem kc_covering_points (T : ST) (v : Nat → Int32) : ST_covering (sST_points T v) = ST_covering T := rfl
theorem kc_covering_bids (T : ST) (v : Nat → Int32) : ST_covering (sST_bids T v) = ST_covering T := rfl
theorem kc_meters_settings (T : ST) (v : Nat → Int32) : ST_meters (sST_settings T v) = ST_meters T := rfl
theorem kc_meters_handedOver (T : ST) (v : Int32) : ST_meters (sST_handedOver T v) = ST_meters T := rfl
theorem kc_meters_persons (T : ST) (v : Int32) : ST_meters (sST_persons T v) = ST_meters T := rfl
theorem kc_meters_rosters (T : ST) (v : Nat → Int64) : ST_meters (sST_rosters T v) = ST_meters T := rfl
theorem kc_meters_away (T : ST) (v : Nat → Int64) : ST_meters (sST_away T v) = ST_meters T := rfl
theorem kc_meters_covering (T : ST) (v : Nat → Int64) : ST_meters (sST_covering T v) = ST_meters T := rfl
theorem kc_meters_turns (T : ST) (v : Nat → Int32) : ST_meters (sST_turns T v) = ST_meters T := rfl
theorem kc_meters_absences (T : ST) (v : Int32) : ST_meters (sST_absences T v) = ST_meters T := rfl
theorem kc_meters_absentees (T : ST) (v : Nat → Int32) : ST_meters (sST_absentees T v) = ST_meters T := rfl
theorem kc_meters_shifts (T : ST) (v : Nat → Int32) : ST_meters (sST_shifts T v) = ST_meters T := rfl
theorem kc_meters_statuses (T : ST) (v : Nat → Int32) : ST_meters (sST_statuses T v) = ST_meters T := rfl
theorem kc_meters_coverers (T : ST) (v : Nat → Int32) : ST_meters (sST_coverers T v) = ST_meters T := rfl
theorem kc_meters_points (T : ST) (v : Nat → Int32) : ST_meters (sST_points T v) = ST_meters T := rfl
theorem kc_meters_bids (T : ST) (v : Nat → Int32) : ST_meters (sST_bids T v) = ST_meters T := rfl
theorem kc_turns_settings (T : ST) (v : Nat → Int32) : ST_turns (sST_settings T v) = ST_turns T := rfl
theorem kc_turns_handedOver (T : ST) (v : Int32) : ST_turns (sST_handedOver T v) = ST_turns T := rfl
theorem kc_turns_persons (T : ST) (v : Int32) : ST_turns (sST_persons T v) = ST_turns T := rfl
theorem kc_turns_rosters (T : ST) (v : Nat → Int64) : ST_turns (sST_rosters T v) = ST_turns T := rfl
theorem kc_turns_away (T : ST) (v : Nat → Int64) : ST_turns (sST_away T v) = ST_turns T := rfl
theorem kc_turns_covering (T : ST) (v : Nat → Int64) : ST_turns (sST_covering T v) = ST_turns T := rfl
theorem kc_turns_meters (T : ST) (v : Nat → Int32) : ST_turns (sST_meters T v) = ST_turns T := rfl
theorem kc_turns_absences (T : ST) (v : Int32) : ST_turns (sST_absences T v) = ST_turns T := rfl
theorem kc_turns_absentees (T : ST) (v : Nat → Int32) : ST_turns (sST_absentees T v) = ST_turns T := rfl
theorem kc_turns_shifts (T : ST) (v : Nat → Int32) : ST_turns (sST_shifts T v) = ST_turns T := rfl
theorem kc_turns_statuses (T : ST) (v : Nat → Int32) : ST_turns (sST_statuses T v) = ST_turns T := rfl
theorem kc_turns_coverers (T : ST) (v : Nat → Int32) : ST_turns (sST_coverers T v) = ST_turns T := rfl
theorem kc_turns_points (T : ST) (v : Nat → Int32) : ST_turns (sST_points T v) = ST_turns T := rfl
theorem kc_turns_bids (T : ST) (v : Nat → Int32) : ST_turns (sST_bids T v) = ST_turns T := rfl
theorem kc_absences_settings (T : ST) (v : Nat → Int32) : ST_absences (sST_settings T v) = ST_absences T := rfl
theorem kc_absences_handedOver (T : ST) (v : Int32) : ST_absences (sST_handedOver T v) = ST_absences T := rfl
theorem kc_absences_persons (T : ST) (v : Int32) : ST_absences (sST_persons T v) = ST_absences T := rfl
theorem kc_absences_rosters (T : ST) (v : Nat → Int64) : ST_absences (sST_rosters T v) = ST_absences T := rfl
theorem kc_absences_away (T : ST) (v : Nat → Int64) : ST_absences (sST_away T v) = ST_absences T := rfl
theorem kc_absences_covering (T : ST) (v : Nat → Int64) : ST_absences (sST_covering T v) = ST_absences T := rfl
theorem kc_absences_meters (T : ST) (v : Nat → Int32) : ST_absences (sST_meters T v) = ST_absences T := rfl
theorem kc_absences_turns (T : ST) (v : Nat → Int32) : ST_absences (sST_turns T v) = ST_absences T := rfl
theorem kc_absences_absentees (T : ST) (v : Nat → Int32) : ST_absences (sST_absentees T v) = ST_absences T := rfl
theorem kc_absences_shifts (T : ST) (v : Nat → Int32) : ST_absences (sST_shifts T v) = ST_absences T := rfl
theorem kc_absences_statuses (T : ST) (v : Nat → Int32) : ST_absences (sST_statuses T v) = ST_absences T := rfl
theorem kc_absences_coverers (T : ST) (v : Nat → Int32) : ST_absences (sST_coverers T v) = ST_absences T := rfl
theorem kc_absences_points (T : ST) (v : Nat → Int32) : ST_absences (sST_points T v) = ST_absences T := rfl
theorem kc_absences_bids (T : ST) (v : Nat → Int32) : ST_absences (sST_bids T v) = ST_absences T := rfl
theorem kc_absentees_settings (T : ST) (v : Nat → Int32) : ST_absentees (sST_settings T v) = ST_absentees T := rfl
theorem kc_absentees_handedOver (T : ST) (v : Int32) : ST_absentees (sST_handedOver T v) = ST_absentees T := rfl
theorem kc_absentees_persons (T : ST) (v : Int32) : ST_absentees (sST_persons T v) = ST_absentees T := rfl
theorem kc_absentees_rosters (T : ST) (v : Nat → Int64) : ST_absentees (sST_rosters T v) = ST_absentees T := rfl
theorem kc_absentees_away (T : ST) (v : Nat → Int64) : ST_absentees (sST_away T v) = ST_absentees T := rfl
theorem kc_absentees_covering (T : ST) (v : Nat → Int64) : ST_absentees (sST_covering T v) = ST_absentees T := rfl
theorem kc_absentees_meters (T : ST) (v : Nat → Int32) : ST_absentees (sST_meters T v) = ST_absentees T := rfl
theorem kc_absentees_turns (T : ST) (v : Nat → Int32) : ST_absentees (sST_turns T v) = ST_absentees T := rfl
theorem kc_absentees_absences (T : ST) (v : Int32) : ST_absentees (sST_absences T v) = ST_absentees T := rfl
theorem kc_absentees_shifts (T : ST) (v : Nat → Int32) : ST_absentees (sST_shifts T v) = ST_absentees T := rfl
theorem kc_absentees_statuses (T : ST) (v : Nat → Int32) : ST_absentees (sST_statuses T v) = ST_absentees T := rfl
theorem kc_absentees_coverers (T : ST) (v : Nat → Int32) : ST_absentees (sST_coverers T v) = ST_absentees T := rfl
theorem kc_absentees_points (T : ST) (v : Nat → Int32) : ST_absentees (sST_points T v) = ST_absentees T := rfl
theorem kc_absentees_bids (T : ST) (v : Nat → Int32) : ST_absentees (sST_bids T v) = ST_absentees T := rfl
theorem kc_shifts_settings (T : ST) (v : Nat → Int32) : ST_shifts (sST_settings T v) = ST_shifts T := rfl
theorem kc_shifts_handedOver (T : ST) (v : Int32) : ST_shifts (sST_handedOver T v) = ST_shifts T := rfl
theorem kc_shifts_persons (T : ST) (v : Int32) : ST_shifts (sST_persons T v) = ST_shifts T := rfl
theorem kc_shifts_rosters (T : ST) (v : Nat → Int64) : ST_shifts (sST_rosters T v) = ST_shifts T := rfl
theorem kc_shifts_away (T : ST) (v : Nat → Int64) : ST_shifts (sST_away T v) = ST_shifts T := rfl
theorem kc_shifts_covering (T : ST) (v : Nat → Int64) : ST_shifts (sST_covering T v) = ST_shifts T := rfl
theorem kc_shifts_meters (T : ST) (v : Nat → Int32) : ST_shifts (sST_meters T v) = ST_shifts T := rfl
theorem kc_shifts_turns (T : ST) (v : Nat → Int32) : ST_shifts (sST_turns T v) = ST_shifts T := rfl
theorem kc_shifts_absences (T : ST) (v : Int32) : ST_shifts (sST_absences T v) = ST_shifts T := rfl
theorem kc_shifts_absentees (T : ST) (v : Nat → Int32) : ST_shifts (sST_absentees T v) = ST_shifts T := rfl
theorem kc_shifts_statuses (T : ST) (v : Nat → Int32) : ST_shifts (sST_statuses T v) = ST_shifts T := rfl
theorem kc_shifts_coverers (T : ST) (v : Nat → Int32) : ST_shifts (sST_coverers T v) = ST_shifts T := rfl
theorem kc_shifts_points (T : ST) (v : Nat → Int32) : ST_shifts (sST_points T v) = ST_shifts T := rfl
theorem kc_shifts_bids (T : ST) (v : Nat → Int32) : ST_shifts (sST_bids T v) = ST_shifts T := rfl
theorem kc_statuses_settings (T : ST) (v : Nat → Int32) : ST_statuses (sST_settings T v) = ST_statuses T := rfl
theorem kc_statuses_handedOver (T : ST) (v : Int32) : ST_statuses (sST_handedOver T v) = ST_statuses T := rfl
theorem kc_statuses_persons (T : ST) (v : Int32) : ST_statuses (sST_persons T v) = ST_statuses T := rfl
theorem kc_statuses_rosters (T : ST) (v : Nat → Int64) : ST_statuses (sST_rosters T v) = ST_statuses T := rfl
theorem kc_statuses_away (T : ST) (v : Nat → Int64) : ST_statuses (sST_away T v) = ST_statuses T := rfl
theorem kc_statuses_covering (T : ST) (v : Nat → Int64) : ST_statuses (sST_covering T v) = ST_statuses T := rfl
theorem kc_statuses_meters (T : ST) (v : Nat → Int32) : ST_statuses (sST_meters T v) = ST_statuses T := rfl
theorem kc_statuses_turns (T : ST) (v : Nat → Int32) : ST_statuses (sST_turns T v) = ST_statuses T := rfl
theorem kc_statuses_absences (T : ST) (v : Int32) : ST_statuses (sST_absences T v) = ST_statuses T := rfl
theorem kc_statuses_absentees (T : ST) (v : Nat → Int32) : ST_statuses (sST_absentees T v) = ST_statuses T := rfl
theorem kc_statuses_shifts (T : ST) (v : Nat → Int32) : ST_statuses (sST_shifts T v) = ST_statuses T := rfl
theorem kc_statuses_coverers (T : ST) (v : Nat → Int32) : ST_statuses (sST_coverers T v) = ST_statuses T := rfl
theorem kc_statuses_points (T : ST) (v : Nat → Int32) : ST_statuses (sST_points T v) = ST_statuses T := rfl
theorem kc_statuses_bids (T : ST) (v : Nat → Int32) : ST_statuses (sST_bids T v) = ST_statuses T := rfl
theorem kc_coverers_settings (T : ST) (v : Nat → Int32) : ST_coverers (sST_settings T v) = ST_coverers T := rfl
theorem kc_coverers_handedOver (T : ST) (v : Int32) : ST_coverers (sST_handedOver T v) = ST_coverers T := rfl
theorem kc_coverers_persons (T : ST) (v : Int32) : ST_coverers (sST_persons T v) = ST_coverers T := rfl
theorem kc_coverers_rosters (T : ST) (v : Nat → Int64) : ST_coverers (sST_rosters T v) = ST_coverers T := rfl
theorem kc_coverers_away (T : ST) (v : Nat → Int64) : ST_coverers (sST_away T v) = ST_coverers T := rfl
theorem kc_coverers_covering (T : ST) (v : Nat → Int64) : ST_coverers (sST_covering T v) = ST_coverers T := rfl
theorem kc_coverers_meters (T : ST) (v : Nat → Int32) : ST_coverers (sST_meters T v) = ST_coverers T := rfl
theorem kc_coverers_turns (T : ST) (v : Nat → Int32) : ST_coverers (sST_turns T v) = ST_coverers T := rfl
theorem kc_coverers_absences (T : ST) (v : Int32) : ST_coverers (sST_absences T v) = ST_coverers T := rfl
theorem kc_coverers_absentees (T : ST) (v : Nat → Int32) : ST_coverers (sST_absentees T v) = ST_coverers T := rfl
theorem kc_coverers_shifts (T : ST) (v : Nat → Int32) : ST_coverers (sST_shifts T v) = ST_coverers T := rfl
theorem kc_coverers_statuses (T : ST) (v : Nat → Int32) : ST_coverers (sST_statuses T v) = ST_coverers T := rfl
theorem kc_coverers_points (T : ST) (v : Nat → Int32) : ST_coverers (sST_points T v) = ST_coverers T := rfl
theorem kc_coverers_bids (T : ST) (v : Nat → Int32) : ST_coverers (sST_bids T v) = ST_coverers T := rfl
theorem kc_points_settings (T : ST) (v : Nat → Int32) : ST_points (sST_settings T v) = ST_points T := rfl
theorem kc_points_handedOver (T : ST) (v : Int32) : ST_points (sST_handedOver T v) = ST_points T := rfl
theorem kc_points_persons (T : ST) (v : Int32) : ST_points (sST_persons T v) = ST_points T := rfl
theorem kc_points_rosters (T : ST) (v : Nat → Int64) : ST_points (sST_rosters T v) = ST_points T := rfl
theorem kc_points_away (T : ST) (v : Nat → Int64) : ST_points (sST_away T v) = ST_points T := rfl
theorem kc_points_covering (T : ST) (v : Nat → Int64) : ST_points (sST_covering T v) = ST_points T := rfl
theorem kc_points_meters (T : ST) (v : Nat → Int32) : ST_points (sST_meters T v) = ST_points T := rfl
theorem kc_points_turns (T : ST) (v : Nat → Int32) : ST_points (sST_turns T v) = ST_points T := rfl
theorem kc_points_absences (T : ST) (v : Int32) : ST_points (sST_absences T v) = ST_points T := rfl
theorem kc_points_absentees (T : ST) (v : Nat → Int32) : ST_points (sST_absentees T v) = ST_points T := rfl
theorem kc_points_shifts (T : ST) (v : Nat → Int32) : ST_points (sST_shifts T v) = ST_points T := rfl
theorem kc_points_statuses (T : ST) (v : Nat → Int32) : ST_points (sST_statuses T v) = ST_points T := rfl
theorem kc_points_coverers (T : ST) (v : Nat → Int32) : ST_points (sST_coverers T v) = ST_points T := rfl
theorem kc_points_bids (T : ST) (v : Nat → Int32) : ST_points (sST_bids T v) = ST_points T := rfl
theorem kc_bids_settings (T : ST) (v : Nat → Int32) : ST_bids (sST_settings T v) = ST_bids T := rfl
theorem kc_bids_handedOver (T : ST) (v : Int32) : ST_bids (sST_handedOver T v) = ST_bids T := rfl
theorem kc_bids_persons (T : ST) (v : Int32) : ST_bids (sST_persons T v) = ST_bids T := rfl
theorem kc_bids_rosters (T : ST) (v : Nat → Int64) : ST_bids (sST_rosters T v) = ST_bids T := rfl
theorem kc_bids_away (T : ST) (v : Nat → Int64) : ST_bids (sST_away T v) = ST_bids T := rfl
theorem kc_bids_covering (T : ST) (v : Nat → Int64) : ST_bids (sST_covering T v) = ST_bids T := rfl
theorem kc_bids_meters (T : ST) (v : Nat → Int32) : ST_bids (sST_meters T v) = ST_bids T := rfl
theorem kc_bids_turns (T : ST) (v : Nat → Int32) : ST_bids (sST_turns T v) = ST_bids T := rfl
theorem kc_bids_absences (T : ST) (v : Int32) : ST_bids (sST_absences T v) = ST_bids T := rfl
theorem kc_bids_absentees (T : ST) (v : Nat → Int32) : ST_bids (sST_absentees T v) = ST_bids T := rfl
theorem kc_bids_shifts (T : ST) (v : Nat → Int32) : ST_bids (sST_shifts T v) = ST_bids T := rfl
theorem kc_bids_statuses (T : ST) (v : Nat → Int32) : ST_bids (sST_statuses T v) = ST_bids T := rfl
theorem kc_bids_coverers (T : ST) (v : Nat → Int32) : ST_bids (sST_coverers T v) = ST_bids T := rfl
theorem kc_bids_points (T : ST) (v : Nat → Int32) : ST_bids (sST_points T v) = ST_bids T := rfl
