theorem sj_buffered (S : MS)  (h : JJ S) : Tot (fr_buffered S ) (fun r => JJ r.2) := by
  rcases h with ⟨P, hP, h⟩ | h
  · exact tot_w (sf_buffered hP S  h) (fun r q => .inl ⟨P, hP, q.1⟩)
  · exact tot_w (nf_buffered trivial S  h) (fun r q => .inr (q.1))
theorem sj_parseError (S : MS)  (h : JJ S) : Tot (fr_parseError S ) (fun r => JJ r.2) := by
  rcases h with ⟨P, hP, h⟩ | h
  · exact tot_w (sf_parseError hP S  h) (fun r q => .inl ⟨P, hP, q.1⟩)
  · exact tot_w (nf_parseError trivial S  h) (fun r q => .inr (q.1))
theorem sj_errorPosition (S : MS)  (h : JJ S) : Tot (fr_errorPosition S ) (fun r => JJ r.2) := by
  rcases h with ⟨P, hP, h⟩ | h
  · exact tot_w (sf_errorPosition hP S  h) (fun r q => .inl ⟨P, hP, q.1⟩)
  · exact tot_w (nf_errorPosition trivial S  h) (fun r q => .inr (q.1))
theorem sj_mics (S : MS)  (h : JJ S) : Tot (fr_mics S ) (fun r => JJ r.2) := by
  rcases h with ⟨P, hP, h⟩ | h
  · exact tot_w (sf_mics hP S  h) (fun r q => .inl ⟨P, hP, q.1⟩)
  · exact tot_w (nf_mics trivial S  h) (fun r q => .inr (q.1))
theorem sj_micAt (S : MS) (a0 : Int32) (a1 : Int32) (h : JJ S) : Tot (fr_micAt S a0 a1) (fun r => JJ r.2) := by
  rcases h with ⟨P, hP, h⟩ | h
  · exact tot_w (sf_micAt hP S a0 a1 h) (fun r q => .inl ⟨P, hP, q.1⟩)
  · exact tot_w (nf_micAt trivial S a0 a1 h) (fun r q => .inr (q.1))
theorem sj_isMuted (S : MS) (a0 : Int32) (h : JJ S) : Tot (fr_isMuted S a0) (fun r => JJ r.2) := by
  rcases h with ⟨P, hP, h⟩ | h
  · exact tot_w (sf_isMuted hP S a0 h) (fun r q => .inl ⟨P, hP, q.1⟩)
  · exact tot_w (nf_isMuted trivial S a0 h) (fun r q => .inr (q.1))
theorem sj_columns (S : MS)  (h : JJ S) : Tot (fr_columns S ) (fun r => JJ r.2) := by
  rcases h with ⟨P, hP, h⟩ | h
  · exact tot_w (sf_columns hP S  h) (fun r q => .inl ⟨P, hP, q.1⟩)
  · exact tot_w (nf_columns trivial S  h) (fun r q => .inr (q.1))
theorem sj_rows (S : MS)  (h : JJ S) : Tot (fr_rows S ) (fun r => JJ r.2) := by
  rcases h with ⟨P, hP, h⟩ | h
  · exact tot_w (sf_rows hP S  h) (fun r q => .inl ⟨P, hP, q.1⟩)
  · exact tot_w (nf_rows trivial S  h) (fun r q => .inr (q.1))
theorem sj_cellAt (S : MS) (a0 : Int32) (a1 : Int32) (h : JJ S) : Tot (fr_cellAt S a0 a1) (fun r => JJ r.2) := by
  rcases h with ⟨P, hP, h⟩ | h
  · exact tot_w (sf_cellAt hP S a0 a1 h) (fun r q => .inl ⟨P, hP, q.1⟩)
  · exact tot_w (nf_cellAt trivial S a0 a1 h) (fun r q => .inr (q.1))
theorem sj_sources (S : MS)  (h : JJ S) : Tot (fr_sources S ) (fun r => JJ r.2) := by
  rcases h with ⟨P, hP, h⟩ | h
  · exact tot_w (sf_sources hP S  h) (fun r q => .inl ⟨P, hP, q.1⟩)
  · exact tot_w (nf_sources trivial S  h) (fun r q => .inr (q.1))
theorem sj_sourceAt (S : MS) (a0 : Int32) (a1 : Int32) (a2 : Int32) (h : JJ S) : Tot (fr_sourceAt S a0 a1 a2) (fun r => JJ r.2) := by
  rcases h with ⟨P, hP, h⟩ | h
  · exact tot_w (sf_sourceAt hP S a0 a1 a2 h) (fun r q => .inl ⟨P, hP, q.1⟩)
  · exact tot_w (nf_sourceAt trivial S a0 a1 a2 h) (fun r q => .inr (q.1))
theorem sj_isOn (S : MS) (a0 : Int32) (h : JJ S) : Tot (fr_isOn S a0) (fun r => JJ r.2) := by
  rcases h with ⟨P, hP, h⟩ | h
  · exact tot_w (sf_isOn hP S a0 h) (fun r q => .inl ⟨P, hP, q.1⟩)
  · exact tot_w (nf_isOn trivial S a0 h) (fun r q => .inr (q.1))
theorem sj_waveAt (S : MS) (a0 : Int32) (a1 : Int32) (h : JJ S) : Tot (fr_waveAt S a0 a1) (fun r => JJ r.2) := by
  rcases h with ⟨P, hP, h⟩ | h
  · exact tot_w (sf_waveAt hP S a0 a1 h) (fun r q => .inl ⟨P, hP, q.1⟩)
  · exact tot_w (nf_waveAt trivial S a0 a1 h) (fun r q => .inr (q.1))
theorem sj_samples (S : MS)  (h : JJ S) : Tot (fr_samples S ) (fun r => JJ r.2) := by
  rcases h with ⟨P, hP, h⟩ | h
  · exact tot_w (sf_samples hP S  h) (fun r q => .inl ⟨P, hP, q.1⟩)
  · exact tot_w (nf_samples trivial S  h) (fun r q => .inr (q.1))
theorem sj_delay (S : MS) (a0 : Int32) (a1 : Int32) (h : JJ S) : Tot (fr_delay S a0 a1) (fun r => JJ r.2) := by
  rcases h with ⟨P, hP, h⟩ | h
  · exact tot_w (sf_delay hP S a0 a1 h) (fun r q => .inl ⟨P, hP, q.1⟩)
  · exact tot_w (nf_delay trivial S a0 a1 h) (fun r q => .inr (q.1))
theorem sj_delayTo (S : MS) (a0 : Int32) (a1 : Int32) (a2 : Int32) (h : JJ S) : Tot (fr_delayTo S a0 a1 a2) (fun r => JJ r.2) := by
  rcases h with ⟨P, hP, h⟩ | h
  · exact tot_w (sf_delayTo hP S a0 a1 a2 h) (fun r q => .inl ⟨P, hP, q.1⟩)
  · exact tot_w (nf_delayTo trivial S a0 a1 a2 h) (fun r q => .inr (q.1))
theorem sj_spread (S : MS) (a0 : Int32) (h : JJ S) : Tot (fr_spread S a0) (fun r => JJ r.2) := by
  rcases h with ⟨P, hP, h⟩ | h
  · exact tot_w (sf_spread hP S a0 h) (fun r q => .inl ⟨P, hP, q.1⟩)
  · exact tot_w (nf_spread trivial S a0 h) (fun r q => .inr (q.1))
theorem sj_window (S : MS) (a0 : Int32) (h : JJ S) : Tot (fr_window S a0) (fun r => JJ r.2) := by
  rcases h with ⟨P, hP, h⟩ | h
  · exact tot_w (sf_window hP S a0 h) (fun r q => .inl ⟨P, hP, q.1⟩)
  · exact tot_w (nf_window trivial S a0 h) (fun r q => .inr (q.1))
theorem sj_sample (S : MS) (a0 : Int32) (a1 : Int32) (h : JJ S) : Tot (fr_sample S a0 a1) (fun r => JJ r.2) := by
  rcases h with ⟨P, hP, h⟩ | h
  · exact tot_w (sf_sample hP S a0 a1 h) (fun r q => .inl ⟨P, hP, q.1⟩)
  · exact tot_w (nf_sample trivial S a0 a1 h) (fun r q => .inr (q.1))
theorem sj_beam (S : MS) (a0 : Int32) (a1 : Int32) (h : JJ S) : Tot (fr_beam S a0 a1) (fun r => JJ r.2) := by
  rcases h with ⟨P, hP, h⟩ | h
  · exact tot_w (sf_beam hP S a0 a1 h) (fun r q => .inl ⟨P, hP, q.1⟩)
  · exact tot_w (nf_beam trivial S a0 a1 h) (fun r q => .inr (q.1))
theorem sj_power (S : MS) (a0 : Int32) (h : JJ S) : Tot (fr_power S a0) (fun r => JJ r.2) := by
  rcases h with ⟨P, hP, h⟩ | h
  · exact tot_w (sf_power hP S a0 h) (fun r q => .inl ⟨P, hP, q.1⟩)
  · exact tot_w (nf_power trivial S a0 h) (fun r q => .inr (q.1))
theorem sj_powerAt (S : MS) (a0 : Int32) (a1 : Int32) (h : JJ S) : Tot (fr_powerAt S a0 a1) (fun r => JJ r.2) := by
  rcases h with ⟨P, hP, h⟩ | h
  · exact tot_w (sf_powerAt hP S a0 a1 h) (fun r q => .inl ⟨P, hP, q.1⟩)
  · exact tot_w (nf_powerAt trivial S a0 a1 h) (fun r q => .inr (q.1))
theorem sj_best (S : MS)  (h : JJ S) : Tot (fr_best S ) (fun r => JJ r.2) := by
  rcases h with ⟨P, hP, h⟩ | h
  · exact tot_w (sf_best hP S  h) (fun r q => .inl ⟨P, hP, q.1⟩)
  · exact tot_w (nf_best trivial S  h) (fun r q => .inr (q.1))
theorem sj_bestPower (S : MS)  (h : JJ S) : Tot (fr_bestPower S ) (fun r => JJ r.2) := by
  rcases h with ⟨P, hP, h⟩ | h
  · exact tot_w (sf_bestPower hP S  h) (fun r q => .inl ⟨P, hP, q.1⟩)
  · exact tot_w (nf_bestPower trivial S  h) (fun r q => .inr (q.1))
theorem sj_meanPower (S : MS)  (h : JJ S) : Tot (fr_meanPower S ) (fun r => JJ r.2) := by
  rcases h with ⟨P, hP, h⟩ | h
  · exact tot_w (sf_meanPower hP S  h) (fun r q => .inl ⟨P, hP, q.1⟩)
  · exact tot_w (nf_meanPower trivial S  h) (fun r q => .inr (q.1))
theorem sj_peaks (S : MS)  (h : JJ S) : Tot (fr_peaks S ) (fun r => JJ r.2) := by
  rcases h with ⟨P, hP, h⟩ | h
  · exact tot_w (sf_peaks hP S  h) (fun r q => .inl ⟨P, hP, q.1⟩)
  · exact tot_w (nf_peaks trivial S  h) (fun r q => .inr (q.1))
theorem sj_peakAt (S : MS) (a0 : Int32) (h : JJ S) : Tot (fr_peakAt S a0) (fun r => JJ r.2) := by
  rcases h with ⟨P, hP, h⟩ | h
  · exact tot_w (sf_peakAt hP S a0 h) (fun r q => .inl ⟨P, hP, q.1⟩)
  · exact tot_w (nf_peakAt trivial S a0 h) (fun r q => .inr (q.1))
theorem sj_isPeak (S : MS) (a0 : Int32) (h : JJ S) : Tot (fr_isPeak S a0) (fun r => JJ r.2) := by
  rcases h with ⟨P, hP, h⟩ | h
  · exact tot_w (sf_isPeak hP S a0 h) (fun r q => .inl ⟨P, hP, q.1⟩)
  · exact tot_w (nf_isPeak trivial S a0 h) (fun r q => .inr (q.1))
theorem sj_contrast (S : MS)  (h : JJ S) : Tot (fr_contrast S ) (fun r => JJ r.2) := by
  rcases h with ⟨P, hP, h⟩ | h
  · exact tot_w (sf_contrast hP S  h) (fun r q => .inl ⟨P, hP, q.1⟩)
  · exact tot_w (nf_contrast trivial S  h) (fun r q => .inr (q.1))
theorem sj_alias (S : MS) (a0 : Int32) (a1 : Int32) (a2 : Int32) (h : JJ S) : Tot (fr_alias S a0 a1 a2) (fun r => JJ r.2) := by
  rcases h with ⟨P, hP, h⟩ | h
  · exact tot_w (sf_alias hP S a0 a1 a2 h) (fun r q => .inl ⟨P, hP, q.1⟩)
  · exact tot_w (nf_alias trivial S a0 a1 a2 h) (fun r q => .inr (q.1))
theorem sj_isAlias (S : MS) (a0 : Int32) (a1 : Int32) (a2 : Int32) (h : JJ S) : Tot (fr_isAlias S a0 a1 a2) (fun r => JJ r.2) := by
  rcases h with ⟨P, hP, h⟩ | h
  · exact tot_w (sf_isAlias hP S a0 a1 a2 h) (fun r q => .inl ⟨P, hP, q.1⟩)
  · exact tot_w (nf_isAlias trivial S a0 a1 a2 h) (fun r q => .inr (q.1))
theorem sj_aliases (S : MS) (a0 : Int32) (a1 : Int32) (h : JJ S) : Tot (fr_aliases S a0 a1) (fun r => JJ r.2) := by
  rcases h with ⟨P, hP, h⟩ | h
  · exact tot_w (sf_aliases hP S a0 a1 h) (fun r q => .inl ⟨P, hP, q.1⟩)
  · exact tot_w (nf_aliases trivial S a0 a1 h) (fun r q => .inr (q.1))
theorem sj_blockPower (S : MS) (a0 : Int32) (a1 : Int32) (a2 : Int32) (h : JJ S) : Tot (fr_blockPower S a0 a1 a2) (fun r => JJ r.2) := by
  rcases h with ⟨P, hP, h⟩ | h
  · exact tot_w (sf_blockPower hP S a0 a1 a2 h) (fun r q => .inl ⟨P, hP, q.1⟩)
  · exact tot_w (nf_blockPower trivial S a0 a1 a2 h) (fun r q => .inr (q.1))
theorem sj_blockBest (S : MS) (a0 : Int32) (a1 : Int32) (h : JJ S) : Tot (fr_blockBest S a0 a1) (fun r => JJ r.2) := by
  rcases h with ⟨P, hP, h⟩ | h
  · exact tot_w (sf_blockBest hP S a0 a1 h) (fun r q => .inl ⟨P, hP, q.1⟩)
  · exact tot_w (nf_blockBest trivial S a0 a1 h) (fun r q => .inr (q.1))
theorem sj_path (S : MS) (a0 : Int32) (h : JJ S) : Tot (fr_path S a0) (fun r => JJ r.2) := by
  rcases h with ⟨P, hP, h⟩ | h
  · exact tot_w (sf_path hP S a0 h) (fun r q => .inl ⟨P, hP, q.1⟩)
  · exact tot_w (nf_path trivial S a0 h) (fun r q => .inr (q.1))
theorem sj_trackScore (S : MS) (a0 : Int32) (h : JJ S) : Tot (fr_trackScore S a0) (fun r => JJ r.2) := by
  rcases h with ⟨P, hP, h⟩ | h
  · exact tot_w (sf_trackScore hP S a0 h) (fun r q => .inl ⟨P, hP, q.1⟩)
  · exact tot_w (nf_trackScore trivial S a0 h) (fun r q => .inr (q.1))
theorem sj_trackCell (S : MS) (a0 : Int32) (a1 : Int32) (h : JJ S) : Tot (fr_trackCell S a0 a1) (fun r => JJ r.2) := by
  rcases h with ⟨P, hP, h⟩ | h
  · exact tot_w (sf_trackCell hP S a0 a1 h) (fun r q => .inl ⟨P, hP, q.1⟩)
  · exact tot_w (nf_trackCell trivial S a0 a1 h) (fun r q => .inr (q.1))
theorem sj_zonePower (S : MS) (a0 : Int32) (h : JJ S) : Tot (fr_zonePower S a0) (fun r => JJ r.2) := by
  rcases h with ⟨P, hP, h⟩ | h
  · exact tot_w (sf_zonePower hP S a0 h) (fun r q => .inl ⟨P, hP, q.1⟩)
  · exact tot_w (nf_zonePower trivial S a0 h) (fun r q => .inr (q.1))
theorem sj_zoneBest (S : MS) (a0 : Int32) (h : JJ S) : Tot (fr_zoneBest S a0) (fun r => JJ r.2) := by
  rcases h with ⟨P, hP, h⟩ | h
  · exact tot_w (sf_zoneBest hP S a0 h) (fun r q => .inl ⟨P, hP, q.1⟩)
  · exact tot_w (nf_zoneBest trivial S a0 h) (fun r q => .inr (q.1))
theorem sj_movingPower (S : MS) (a0 : Int32) (a1 : Int32) (a2 : Int32) (h : JJ S) : Tot (fr_movingPower S a0 a1 a2) (fun r => JJ r.2) := by
  rcases h with ⟨P, hP, h⟩ | h
  · exact tot_w (sf_movingPower hP S a0 a1 a2 h) (fun r q => .inl ⟨P, hP, q.1⟩)
  · exact tot_w (nf_movingPower trivial S a0 a1 a2 h) (fun r q => .inr (q.1))
theorem sj_bestVelocity (S : MS) (a0 : Int32) (a1 : Int32) (a2 : Int32) (h : JJ S) : Tot (fr_bestVelocity S a0 a1 a2) (fun r => JJ r.2) := by
  rcases h with ⟨P, hP, h⟩ | h
  · exact tot_w (sf_bestVelocity hP S a0 a1 a2 h) (fun r q => .inl ⟨P, hP, q.1⟩)
  · exact tot_w (nf_bestVelocity trivial S a0 a1 a2 h) (fun r q => .inr (q.1))
theorem sj_correlation (S : MS) (a0 : Int32) (a1 : Int32) (a2 : Int32) (h : JJ S) : Tot (fr_correlation S a0 a1 a2) (fun r => JJ r.2) := by
  rcases h with ⟨P, hP, h⟩ | h
  · exact tot_w (sf_correlation hP S a0 a1 a2 h) (fun r q => .inl ⟨P, hP, q.1⟩)
  · exact tot_w (nf_correlation trivial S a0 a1 a2 h) (fun r q => .inr (q.1))
theorem sj_bestLag (S : MS) (a0 : Int32) (a1 : Int32) (a2 : Int32) (h : JJ S) : Tot (fr_bestLag S a0 a1 a2) (fun r => JJ r.2) := by
  rcases h with ⟨P, hP, h⟩ | h
  · exact tot_w (sf_bestLag hP S a0 a1 a2 h) (fun r q => .inl ⟨P, hP, q.1⟩)
  · exact tot_w (nf_bestLag trivial S a0 a1 a2 h) (fun r q => .inr (q.1))
theorem sj_level (S : MS) (a0 : Int32) (h : JJ S) : Tot (fr_level S a0) (fun r => JJ r.2) := by
  rcases h with ⟨P, hP, h⟩ | h
  · exact tot_w (sf_level hP S a0 h) (fun r q => .inl ⟨P, hP, q.1⟩)
  · exact tot_w (nf_level trivial S a0 h) (fun r q => .inr (q.1))
theorem sj_loudest (S : MS) (a0 : Int32) (h : JJ S) : Tot (fr_loudest S a0) (fun r => JJ r.2) := by
  rcases h with ⟨P, hP, h⟩ | h
  · exact tot_w (sf_loudest hP S a0 h) (fun r q => .inl ⟨P, hP, q.1⟩)
  · exact tot_w (nf_loudest trivial S a0 h) (fun r q => .inr (q.1))
theorem sj_writeMap (S : MS)  (h : JJ S) : Tot (fr_writeMap S ) (fun r => JJ r.2) := by
  rcases h with ⟨P, hP, h⟩ | h
  · exact tot_w (sf_writeMap hP S  h) (fun r q => .inl ⟨P, hP, q.1⟩)
  · exact tot_w (nf_writeMap trivial S  h) (fun r q => .inr (q.1))
theorem sj_mapByte (S : MS) (a0 : Int32) (h : JJ S) : Tot (fr_mapByte S a0) (fun r => JJ r.2) := by
  rcases h with ⟨P, hP, h⟩ | h
  · exact tot_w (sf_mapByte hP S a0 h) (fun r q => .inl ⟨P, hP, q.1⟩)
  · exact tot_w (nf_mapByte trivial S a0 h) (fun r q => .inr (q.1))
theorem sj_pointBest (S : MS) (a0 : Int32) (a1 : Int32) (h : JJ S) : Tot (fr_pointBest S a0 a1) (fun r => JJ r.2) := by
  rcases h with ⟨P, hP, h⟩ | h
  · exact tot_w (sf_pointBest hP S a0 a1 h) (fun r q => .inl ⟨P, hP, q.1⟩)
  · exact tot_w (nf_pointBest trivial S a0 a1 h) (fun r q => .inr (q.1))
theorem sj_pointPower (S : MS) (a0 : Int32) (a1 : Int32) (a2 : Int32) (h : JJ S) : Tot (fr_pointPower S a0 a1 a2) (fun r => JJ r.2) := by
  rcases h with ⟨P, hP, h⟩ | h
  · exact tot_w (sf_pointPower hP S a0 a1 a2 h) (fun r q => .inl ⟨P, hP, q.1⟩)
  · exact tot_w (nf_pointPower trivial S a0 a1 a2 h) (fun r q => .inr (q.1))
theorem sj_bestWithout (S : MS) (a0 : Int32) (h : JJ S) : Tot (fr_bestWithout S a0) (fun r => JJ r.2) := by
  rcases h with ⟨P, hP, h⟩ | h
  · exact tot_w (sf_bestWithout hP S a0 h) (fun r q => .inl ⟨P, hP, q.1⟩)
  · exact tot_w (nf_bestWithout trivial S a0 h) (fun r q => .inr (q.1))
theorem sj_bestIfOff (S : MS) (a0 : Int32) (h : JJ S) : Tot (fr_bestIfOff S a0) (fun r => JJ r.2) := by
  rcases h with ⟨P, hP, h⟩ | h
  · exact tot_w (sf_bestIfOff hP S a0 h) (fun r q => .inl ⟨P, hP, q.1⟩)
  · exact tot_w (nf_bestIfOff trivial S a0 h) (fun r q => .inr (q.1))
theorem sj_mute (S : MS) (a0 : Int32) (a1 : Int32) (h : JJ S) : Tot (fr_mute S a0 a1) (fun r => JJ r.2) := by
  rcases h with ⟨P, hP, h⟩ | h
  · exact tot_w (sf_mute hP S a0 a1 h) (fun r q => .inl ⟨P, hP, q.1⟩)
  · exact tot_w (nf_mute trivial S a0 a1 h) (fun r q => .inr (q.1))
theorem sj_setWeight (S : MS) (a0 : Int32) (a1 : Int32) (h : JJ S) : Tot (fr_setWeight S a0 a1) (fun r => JJ r.2) := by
  rcases h with ⟨P, hP, h⟩ | h
  · exact tot_w (sf_setWeight hP S a0 a1 h) (fun r q => .inl ⟨P, hP, q.1⟩)
  · exact tot_w (nf_setWeight trivial S a0 a1 h) (fun r q => .inr (q.1))
theorem sj_setOn (S : MS) (a0 : Int32) (a1 : Int32) (h : JJ S) : Tot (fr_setOn S a0 a1) (fun r => JJ r.2) := by
  rcases h with ⟨P, hP, h⟩ | h
  · exact tot_w (sf_setOn hP S a0 a1 h) (fun r q => .inl ⟨P, hP, q.1⟩)
  · exact tot_w (nf_setOn trivial S a0 a1 h) (fun r q => .inr (q.1))
theorem sj_moveSource (S : MS) (a0 : Int32) (a1 : Int32) (a2 : Int32) (h : JJ S) : Tot (fr_moveSource S a0 a1 a2) (fun r => JJ r.2) := by
  rcases h with ⟨P, hP, h⟩ | h
  · exact tot_w (sf_moveSource hP S a0 a1 a2 h) (fun r q => .inl ⟨P, hP, q.1⟩)
  · exact tot_w (nf_moveSource trivial S a0 a1 a2 h) (fun r q => .inr (q.1))
theorem sj_setVelocity (S : MS) (a0 : Int32) (a1 : Int32) (a2 : Int32) (h : JJ S) : Tot (fr_setVelocity S a0 a1 a2) (fun r => JJ r.2) := by
  rcases h with ⟨P, hP, h⟩ | h
  · exact tot_w (sf_setVelocity hP S a0 a1 a2 h) (fun r q => .inl ⟨P, hP, q.1⟩)
  · exact tot_w (nf_setVelocity trivial S a0 a1 a2 h) (fun r q => .inr (q.1))
theorem sj_clean (S : MS) (a0 : Int32) (h : JJ S) : Tot (fr_clean S a0) (fun r => JJ r.2) := by
  rcases h with ⟨P, hP, h⟩ | h
  · exact tot_w (sf_clean hP S a0 h) (fun r q => .inl ⟨P, hP, q.1⟩)
  · exact tot_w (nf_clean trivial S a0 h) (fun r q => .inr (q.1))
theorem sj_cleaned (S : MS)  (h : JJ S) : Tot (fr_cleaned S ) (fun r => JJ r.2) := by
  rcases h with ⟨P, hP, h⟩ | h
  · exact tot_w (sf_cleaned hP S  h) (fun r q => .inl ⟨P, hP, q.1⟩)
  · exact tot_w (nf_cleaned trivial S  h) (fun r q => .inr (q.1))
theorem sj_undo (S : MS)  (h : JJ S) : Tot (fr_undo S ) (fun r => JJ r.2) := by
  rcases h with ⟨P, hP, h⟩ | h
  · exact tot_w (sf_undo hP S  h) (fun r q => .inl ⟨P, hP, q.1⟩)
  · exact tot_w (nf_undo trivial S  h) (fun r q => .inr (q.1))
theorem sj_undoable (S : MS)  (h : JJ S) : Tot (fr_undoable S ) (fun r => JJ r.2) := by
  rcases h with ⟨P, hP, h⟩ | h
  · exact tot_w (sf_undoable hP S  h) (fun r q => .inl ⟨P, hP, q.1⟩)
  · exact tot_w (nf_undoable trivial S  h) (fun r q => .inr (q.1))
theorem sj_save (S : MS) (a0 : Int32) (h : JJ S) : Tot (fr_save S a0) (fun r => JJ r.2) := by
  rcases h with ⟨P, hP, h⟩ | h
  · exact tot_w (sf_save hP S a0 h) (fun r q => .inl ⟨P, hP, q.1⟩)
  · exact tot_w (nf_save trivial S a0 h) (fun r q => .inr (q.1))
theorem sj_restore (S : MS) (a0 : Int32) (h : JJ S) : Tot (fr_restore S a0) (fun r => JJ r.2) := by
  rcases h with ⟨P, hP, h⟩ | h
  · exact tot_w (sf_restore hP S a0 h) (fun r q => .inl ⟨P, hP, q.1⟩)
  · exact tot_w (nf_restore trivial S a0 h) (fun r q => .inr (q.1))
