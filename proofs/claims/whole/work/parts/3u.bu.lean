/-! BU: what is kept of the weather is a truth value -/
theorem gIn_get {α : Type} {i : Int32} {n : Nat} {x : Option α} {y : α} (h : gIn i n x = some y) : x = some y := by
  unfold gIn at h
  split at h
  · cases h
  · exact h
theorem w_keep {no_dead : Int32} {no_wet : Int32} {no_drawn : Int32} {no_strong : Nat → Int32} {no_at : Nat → Int32} {no_wounds : Nat → Int32} {pa_latest : Int32} {pa_acts : Int32} {pa_kept : Nat → Option Nat} {ks_dead : Int32} {ks_wet : Int32} {ks_drawn : Int32} {ks_strong : Nat → Int32} {ks_at : Nat → Int32} {ks_wounds : Nat → Int32} {x1 x2 x3 x4 x5 : Int32} {x6 x7 x8 : Nat → Int32} (h : f_X5_keep no_dead no_wet no_drawn no_strong no_at no_wounds pa_latest pa_acts pa_kept ks_dead ks_wet ks_drawn ks_strong ks_at ks_wounds = some (x1, x2, x3, x4, x5, x6, x7, x8)) : x4 = no_wet := by
  unfold f_X5_keep f_X8_copyOf at h
  rw [bd6_s, bd6_s] at h
  split at h
  · have h := gIn_get h; cases h; rfl
  · have h := gIn_get h; cases h; rfl
theorem w_move {el_refusal : Int32} {la_lanes : Int32} {la_beasts : Int32} {no_dead : Int32} {no_wet : Int32} {no_drawn : Int32} {no_strong : Nat → Int32} {no_at : Nat → Int32} {no_wounds : Nat → Int32} {pa_latest : Int32} {pa_acts : Int32} {pa_kept : Nat → Option Nat} {ks_dead : Int32} {ks_wet : Int32} {ks_drawn : Int32} {ks_strong : Nat → Int32} {ks_at : Nat → Int32} {ks_wounds : Nat → Int32} {p1 : Int32} {p2 : Int32} {res : Int32} {el_refusal' : Int32} {no_at' : Nat → Int32} {pa_latest' : Int32} {pa_acts' : Int32} {ks_dead' : Int32} {ks_wet' : Int32} {ks_drawn' : Int32} {ks_strong' : Nat → Int32} {ks_at' : Nat → Int32} {ks_wounds' : Nat → Int32} (h : f_X11_move el_refusal la_lanes la_beasts no_dead no_wet no_drawn no_strong no_at no_wounds pa_latest pa_acts pa_kept ks_dead ks_wet ks_drawn ks_strong ks_at ks_wounds p1 p2 = some (res, el_refusal', no_at', pa_latest', pa_acts', ks_dead', ks_wet', ks_drawn', ks_strong', ks_at', ks_wounds')) (hn : nbv no_wet) (hk : nbv ks_wet) : nbv ks_wet' := by
  unfold f_X11_move at h
  obtain ⟨r1, e1, h⟩ := bd1_some h
  obtain ⟨r2, r3, e2, h⟩ := bd2_some h
  split at h
  · obtain ⟨x1, x2, x3, x4, x5, x6, x7, x8, e3, h⟩ := bd8_some h
    have h := gIn_get h
    cases h
    rw [w_keep e3]; exact hn
  · cases h; exact hk
theorem w_hammer {el_refusal : Int32} {la_beasts : Int32} {no_dead : Int32} {no_wet : Int32} {no_drawn : Int32} {no_strong : Nat → Int32} {no_at : Nat → Int32} {no_wounds : Nat → Int32} {pa_latest : Int32} {pa_acts : Int32} {pa_kept : Nat → Option Nat} {ks_dead : Int32} {ks_wet : Int32} {ks_drawn : Int32} {ks_strong : Nat → Int32} {ks_at : Nat → Int32} {ks_wounds : Nat → Int32} {p1 : Int32} {res : Int32} {el_refusal' : Int32} {no_dead' : Int32} {pa_latest' : Int32} {pa_acts' : Int32} {ks_dead' : Int32} {ks_wet' : Int32} {ks_drawn' : Int32} {ks_strong' : Nat → Int32} {ks_at' : Nat → Int32} {ks_wounds' : Nat → Int32} (h : f_X11_hammer el_refusal la_beasts no_dead no_wet no_drawn no_strong no_at no_wounds pa_latest pa_acts pa_kept ks_dead ks_wet ks_drawn ks_strong ks_at ks_wounds p1 = some (res, el_refusal', no_dead', pa_latest', pa_acts', ks_dead', ks_wet', ks_drawn', ks_strong', ks_at', ks_wounds')) (hn : nbv no_wet) (hk : nbv ks_wet) : nbv ks_wet' := by
  unfold f_X11_hammer at h
  obtain ⟨r1, e1, h⟩ := bd1_some h
  obtain ⟨r2, r3, e2, h⟩ := bd2_some h
  split at h
  · obtain ⟨x1, x2, x3, x4, x5, x6, x7, x8, e3, h⟩ := bd8_some h
    cases h
    rw [w_keep e3]; exact hn
  · cases h; exact hk
theorem w_battle {el_refusal : Int32} {la_lanes : Int32} {la_deep : Int32} {la_beasts : Int32} {la_who : Nat → Int32} {la_kind : Nat → Int32} {la_mood : Nat → Int32} {no_dead : Int32} {no_wet : Int32} {no_drawn : Int32} {no_strong : Nat → Int32} {no_at : Nat → Int32} {no_wounds : Nat → Int32} {pa_latest : Int32} {pa_acts : Int32} {pa_kept : Nat → Option Nat} {ks_dead : Int32} {ks_wet : Int32} {ks_drawn : Int32} {ks_strong : Nat → Int32} {ks_at : Nat → Int32} {ks_wounds : Nat → Int32} {fi_drawn : Int32} {fi_foeHarm : Int32} {fi_ownHarm : Int32} {fi_gotAcross : Int32} {fi_left : Nat → Int32} {res : Int32} {el_refusal' : Int32} {no_drawn' : Int32} {no_strong' : Nat → Int32} {pa_latest' : Int32} {pa_acts' : Int32} {ks_dead' : Int32} {ks_wet' : Int32} {ks_drawn' : Int32} {ks_strong' : Nat → Int32} {ks_at' : Nat → Int32} {ks_wounds' : Nat → Int32} {fi_drawn' : Int32} {fi_foeHarm' : Int32} {fi_ownHarm' : Int32} {fi_gotAcross' : Int32} {fi_left' : Nat → Int32} (h : f_X11_battle el_refusal la_lanes la_deep la_beasts la_who la_kind la_mood no_dead no_wet no_drawn no_strong no_at no_wounds pa_latest pa_acts pa_kept ks_dead ks_wet ks_drawn ks_strong ks_at ks_wounds fi_drawn fi_foeHarm fi_ownHarm fi_gotAcross fi_left = some (res, el_refusal', no_drawn', no_strong', pa_latest', pa_acts', ks_dead', ks_wet', ks_drawn', ks_strong', ks_at', ks_wounds', fi_drawn', fi_foeHarm', fi_ownHarm', fi_gotAcross', fi_left')) (hn : nbv no_wet) (hk : nbv ks_wet) : nbv ks_wet' := by
  unfold f_X11_battle at h
  obtain ⟨r1, e1, h⟩ := bd1_some h
  obtain ⟨r2, r3, e2, h⟩ := bd2_some h
  split at h
  · obtain ⟨x1, x2, x3, x4, x5, x6, x7, x8, e3, h⟩ := bd8_some h
    obtain ⟨y1, y2, y3, y4, y5, e4, h⟩ := bd5_some h
    obtain ⟨z1, z2, e5, h⟩ := bd2_some h
    cases h
    rw [w_keep e3]; exact hn
  · cases h; exact hk
theorem w_wound {el_refusal : Int32} {la_beasts : Int32} {la_kind : Nat → Int32} {no_dead : Int32} {no_wet : Int32} {no_drawn : Int32} {no_strong : Nat → Int32} {no_at : Nat → Int32} {no_wounds : Nat → Int32} {pa_latest : Int32} {pa_acts : Int32} {pa_kept : Nat → Option Nat} {ks_dead : Int32} {ks_wet : Int32} {ks_drawn : Int32} {ks_strong : Nat → Int32} {ks_at : Nat → Int32} {ks_wounds : Nat → Int32} {p1 : Int32} {p2 : Int32} {res : Int32} {el_refusal' : Int32} {no_wounds' : Nat → Int32} {pa_latest' : Int32} {pa_acts' : Int32} {ks_dead' : Int32} {ks_wet' : Int32} {ks_drawn' : Int32} {ks_strong' : Nat → Int32} {ks_at' : Nat → Int32} {ks_wounds' : Nat → Int32} (h : f_X11_wound el_refusal la_beasts la_kind no_dead no_wet no_drawn no_strong no_at no_wounds pa_latest pa_acts pa_kept ks_dead ks_wet ks_drawn ks_strong ks_at ks_wounds p1 p2 = some (res, el_refusal', no_wounds', pa_latest', pa_acts', ks_dead', ks_wet', ks_drawn', ks_strong', ks_at', ks_wounds')) (hn : nbv no_wet) (hk : nbv ks_wet) : nbv ks_wet' := by
  have key : ∀ t, f_X11_wound_B18 la_beasts la_kind no_dead no_wet no_drawn no_strong no_at pa_kept p1 p2 p1 t el_refusal no_wounds pa_latest pa_acts ks_dead ks_wet ks_drawn ks_strong ks_at ks_wounds = some (res, el_refusal', no_wounds', pa_latest', pa_acts', ks_dead', ks_wet', ks_drawn', ks_strong', ks_at', ks_wounds') → nbv ks_wet' := by
    intro t h
    unfold f_X11_wound_B18 at h
    obtain ⟨r1, e1, h⟩ := bd1_some h
    obtain ⟨r2, r3, e2, h⟩ := bd2_some h
    split at h
    · obtain ⟨x1, x2, x3, x4, x5, x6, x7, x8, e3, h⟩ := bd8_some h
      have h := gIn_get (gIn_get h)
      obtain ⟨y1, e4, h⟩ := bd1_some h
      cases h
      rw [w_keep e3]; exact hn
    · cases h; exact hk
  unfold f_X11_wound at h
  obtain ⟨r0, e0, h⟩ := bd1_some h
  split at h
  · exact key _ h
  · exact key _ h
theorem w_teach {el_refusal : Int32} {la_lanes : Int32} {la_who : Nat → Int32} {no_dead : Int32} {no_wet : Int32} {no_drawn : Int32} {no_strong : Nat → Int32} {no_at : Nat → Int32} {no_wounds : Nat → Int32} {pa_latest : Int32} {pa_acts : Int32} {pa_kept : Nat → Option Nat} {ks_dead : Int32} {ks_wet : Int32} {ks_drawn : Int32} {ks_strong : Nat → Int32} {ks_at : Nat → Int32} {ks_wounds : Nat → Int32} {p1 : Int32} {p2 : Int32} {res : Int32} {el_refusal' : Int32} {no_strong' : Nat → Int32} {pa_latest' : Int32} {pa_acts' : Int32} {ks_dead' : Int32} {ks_wet' : Int32} {ks_drawn' : Int32} {ks_strong' : Nat → Int32} {ks_at' : Nat → Int32} {ks_wounds' : Nat → Int32} (h : f_X11_teach el_refusal la_lanes la_who no_dead no_wet no_drawn no_strong no_at no_wounds pa_latest pa_acts pa_kept ks_dead ks_wet ks_drawn ks_strong ks_at ks_wounds p1 p2 = some (res, el_refusal', no_strong', pa_latest', pa_acts', ks_dead', ks_wet', ks_drawn', ks_strong', ks_at', ks_wounds')) (hn : nbv no_wet) (hk : nbv ks_wet) : nbv ks_wet' := by
  have key : ∀ t, f_X11_teach_B18 la_lanes la_who no_dead no_wet no_drawn no_at no_wounds pa_kept p1 p2 p1 t el_refusal no_strong pa_latest pa_acts ks_dead ks_wet ks_drawn ks_strong ks_at ks_wounds = some (res, el_refusal', no_strong', pa_latest', pa_acts', ks_dead', ks_wet', ks_drawn', ks_strong', ks_at', ks_wounds') → nbv ks_wet' := by
    intro t h
    unfold f_X11_teach_B18 at h
    obtain ⟨r1, e1, h⟩ := bd1_some h
    obtain ⟨r2, r3, e2, h⟩ := bd2_some h
    split at h
    · obtain ⟨x1, x2, x3, x4, x5, x6, x7, x8, e3, h⟩ := bd8_some h
      have h := gIn_get (gIn_get (gIn_get h))
      cases h
      rw [w_keep e3]; exact hn
    · cases h; exact hk
  unfold f_X11_teach at h
  obtain ⟨r0, e0, h⟩ := bd1_some h
  split at h
  · exact key _ h
  · exact key _ h
theorem w_rain {el_refusal : Int32} {la_lanes : Int32} {no_dead : Int32} {no_wet : Int32} {no_drawn : Int32} {no_strong : Nat → Int32} {no_at : Nat → Int32} {no_wounds : Nat → Int32} {pa_latest : Int32} {pa_acts : Int32} {pa_kept : Nat → Option Nat} {ks_dead : Int32} {ks_wet : Int32} {ks_drawn : Int32} {ks_strong : Nat → Int32} {ks_at : Nat → Int32} {ks_wounds : Nat → Int32} {p1 : Int32} {res : Int32} {el_refusal' : Int32} {no_wet' : Int32} {pa_latest' : Int32} {pa_acts' : Int32} {ks_dead' : Int32} {ks_wet' : Int32} {ks_drawn' : Int32} {ks_strong' : Nat → Int32} {ks_at' : Nat → Int32} {ks_wounds' : Nat → Int32} (h : f_X11_rain el_refusal la_lanes no_dead no_wet no_drawn no_strong no_at no_wounds pa_latest pa_acts pa_kept ks_dead ks_wet ks_drawn ks_strong ks_at ks_wounds p1 = some (res, el_refusal', no_wet', pa_latest', pa_acts', ks_dead', ks_wet', ks_drawn', ks_strong', ks_at', ks_wounds')) (hn : nbv no_wet) (hk : nbv ks_wet) : nbv ks_wet' := by
  have key : ∀ t, f_X11_rain_B31 la_lanes no_dead no_drawn no_strong no_at no_wounds pa_kept p1 t el_refusal no_wet pa_latest pa_acts ks_dead ks_wet ks_drawn ks_strong ks_at ks_wounds = some (res, el_refusal', no_wet', pa_latest', pa_acts', ks_dead', ks_wet', ks_drawn', ks_strong', ks_at', ks_wounds') → nbv ks_wet' := by
    intro t h
    unfold f_X11_rain_B31 at h
    obtain ⟨r2, r3, e2, h⟩ := bd2_some h
    split at h
    · obtain ⟨x1, x2, x3, x4, x5, x6, x7, x8, e3, h⟩ := bd8_some h
      cases h
      rw [w_keep e3]; exact hn
    · cases h; exact hk
  unfold f_X11_rain at h
  obtain ⟨r0, e0, h⟩ := bd1_some h
  split at h
  · exact key _ h
  · split at h
    · exact key _ h
    · exact key _ h
theorem w_mark {el_refusal : Int32} {la_lanes : Int32} {no_dead : Int32} {no_wet : Int32} {no_drawn : Int32} {no_strong : Nat → Int32} {no_at : Nat → Int32} {no_wounds : Nat → Int32} {pa_marks : Int32} {pa_marked : Nat → Option Nat} {mk_dead : Int32} {mk_wet : Int32} {mk_drawn : Int32} {mk_strong : Nat → Int32} {mk_at : Nat → Int32} {mk_wounds : Nat → Int32} {res : Int32} {el_refusal' : Int32} {pa_marks' : Int32} {mk_dead' : Int32} {mk_wet' : Int32} {mk_drawn' : Int32} {mk_strong' : Nat → Int32} {mk_at' : Nat → Int32} {mk_wounds' : Nat → Int32} (h : f_X11_mark el_refusal la_lanes no_dead no_wet no_drawn no_strong no_at no_wounds pa_marks pa_marked mk_dead mk_wet mk_drawn mk_strong mk_at mk_wounds = some (res, el_refusal', pa_marks', mk_dead', mk_wet', mk_drawn', mk_strong', mk_at', mk_wounds')) (hn : nbv no_wet) (hk : nbv mk_wet) : nbv mk_wet' := by
  have key : ∀ t, f_X11_mark_B31 la_lanes no_dead no_wet no_drawn no_strong no_at no_wounds pa_marked t el_refusal pa_marks mk_dead mk_wet mk_drawn mk_strong mk_at mk_wounds = some (res, el_refusal', pa_marks', mk_dead', mk_wet', mk_drawn', mk_strong', mk_at', mk_wounds') → nbv mk_wet' := by
    intro t h
    unfold f_X11_mark_B31 at h
    obtain ⟨r2, r3, e2, h⟩ := bd2_some h
    split at h
    · obtain ⟨x1, x2, x3, x4, x5, x6, x7, x8, e3, h⟩ := bd8_some h
      cases h
      unfold f_X5_addMark f_X8_copyOf at e3
      rw [bd6_s] at e3
      split at e3
      · have e3 := gIn_get e3; cases e3; exact hn
      · cases e3; exact hk
    · cases h; exact hk
  unfold f_X11_mark at h
  obtain ⟨r0, e0, h⟩ := bd1_some h
  split at h
  · exact key _ h
  · split at h
    · exact key _ h
    · exact key _ h
