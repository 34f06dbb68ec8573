abbrev vwCl : List vw_C := [(RX0, TX0, 4), (RX1, TX1, 4), (RX2, TX2, 8), (RX3, TX3, 5), (RX4, TX4, 5), (RX5, TX5, 2), (RX6, TX6, 11), (RX7, TX7, 9), (RX8, TX8, 31)]
