abbrev vwCl : List vw_C := [(RX0, TX0, 8), (RX1, TX1, 4), (RX2, TX2, 8), (RX3, TX3, 19), (RX4, TX4, 6), (RX5, TX5, 6), (RX6, TX6, 36)]
